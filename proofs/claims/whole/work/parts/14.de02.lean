def f_X12_comesOut_41 (s : fl_I) (l : fl_L) : fl_I × fl_L :=
    (s, l)

def p_X12_comesOut_41 (s : fl_I) (l : fl_L) : Prop :=
    True

set_option maxRecDepth 100000 in
set_option maxHeartbeats 4000000 in
theorem lp_X12_comesOut_41 {G : ab_G} {d : Nat} {D : fl_D} : ∀ (s : fl_I) (l : fl_L), p_X12_comesOut_41  s l → ab_C G (d + 1) 0 0 M_X12_comesOut 41 [none, none, none] [] (hp D s l) (rt none (hp D (f_X12_comesOut_41  s l).1 (f_X12_comesOut_41  s l).2)) := by
  intro  s l hk
  generalize he : f_X12_comesOut_41  s l = res
  unfold f_X12_comesOut_41 at he
  unfold p_X12_comesOut_41 at hk
  refine r_ret rfl rfl ?_
  subst he
  exact ⟨rfl, rfl⟩

def f_X12_comesOut_88 (K0 : Int32 → fl_I → fl_L → fl_I × fl_L) (x1 : Int32) (s : fl_I) (l : fl_L) : fl_I × fl_L :=
    K0 x1 s l

def p_X12_comesOut_88 (P0 : Int32 → fl_I → fl_L → Prop) (x1 : Int32) (s : fl_I) (l : fl_L) : Prop :=
    P0 x1 s l

set_option maxRecDepth 100000 in
set_option maxHeartbeats 4000000 in
theorem lp_X12_comesOut_88 {G : ab_G} {d : Nat} {D : fl_D} (K0 : Int32 → fl_I → fl_L → fl_I × fl_L) (P0 : Int32 → fl_I → fl_L → Prop) (hK0 : ∀ (x1 : Int32) (s : fl_I) (l : fl_L), P0 x1 s l → ab_C G (d + 1) 0 0 M_X12_comesOut 0 [some (.ref 60), some (.int x1), none] [] (hp D s l) (rt none (hp D (K0 x1 s l).1 (K0 x1 s l).2))) : ∀ (x1 : Int32) (s : fl_I) (l : fl_L), p_X12_comesOut_88 P0 x1 s l → ab_C G (d + 1) 0 0 M_X12_comesOut 88 [some (.ref 60), some (.int x1), none] [] (hp D s l) (rt none (hp D (f_X12_comesOut_88 K0 x1 s l).1 (f_X12_comesOut_88 K0 x1 s l).2)) := by
  intro x1 s l hk
  generalize he : f_X12_comesOut_88 K0 x1 s l = res
  unfold f_X12_comesOut_88 at he
  unfold p_X12_comesOut_88 at hk
  refine r_goto rfl ?_
  subst he
  exact r_weak (L1 := [some (.ref 60), some (.int x1), none]) ⟨rfl, rfl, trivial⟩ (hK0 _ _ _ hk)

def f_X12_comesOut_42 (K0 : Int32 → fl_I → fl_L → fl_I × fl_L) (x1 : Int32) (x2 : Int32) (s : fl_I) (l : fl_L) : fl_I × fl_L :=
    if (x2 = (8 : Int32)) then f_X12_comesOut_88 K0 x1 (f_X12_emit (2 : Int32) (0 : Int32) (wi s 60 46 ((s 60 46) - (1 : Int32))) l).1 (f_X12_emit (2 : Int32) (0 : Int32) (wi s 60 46 ((s 60 46) - (1 : Int32))) l).2 else if (x2 = (9 : Int32)) then f_X12_comesOut_88 K0 x1 (f_X12_emit (3 : Int32) (0 : Int32) (wi s 60 46 ((s 60 46) - (1 : Int32))) l).1 (f_X12_emit (3 : Int32) (0 : Int32) (wi s 60 46 ((s 60 46) - (1 : Int32))) l).2 else if (x2 = (10 : Int32)) then f_X12_comesOut_88 K0 x1 (f_X12_emit (4 : Int32) (0 : Int32) (wi s 60 46 ((s 60 46) - (1 : Int32))) l).1 (f_X12_emit (4 : Int32) (0 : Int32) (wi s 60 46 ((s 60 46) - (1 : Int32))) l).2 else f_X12_comesOut_88 K0 x1 (f_X12_emit (5 : Int32) (0 : Int32) (wi s 60 46 ((s 60 46) - (1 : Int32))) l).1 (f_X12_emit (5 : Int32) (0 : Int32) (wi s 60 46 ((s 60 46) - (1 : Int32))) l).2

def p_X12_comesOut_42 (P0 : Int32 → fl_I → fl_L → Prop) (x1 : Int32) (x2 : Int32) (s : fl_I) (l : fl_L) : Prop :=
    (((x2 = (8 : Int32)) → (p_X12_emit (2 : Int32) (0 : Int32) (wi s 60 46 ((s 60 46) - (1 : Int32))) l) ∧ p_X12_comesOut_88 P0 x1 (f_X12_emit (2 : Int32) (0 : Int32) (wi s 60 46 ((s 60 46) - (1 : Int32))) l).1 (f_X12_emit (2 : Int32) (0 : Int32) (wi s 60 46 ((s 60 46) - (1 : Int32))) l).2) ∧ (¬ (x2 = (8 : Int32)) → (((x2 = (9 : Int32)) → (p_X12_emit (3 : Int32) (0 : Int32) (wi s 60 46 ((s 60 46) - (1 : Int32))) l) ∧ p_X12_comesOut_88 P0 x1 (f_X12_emit (3 : Int32) (0 : Int32) (wi s 60 46 ((s 60 46) - (1 : Int32))) l).1 (f_X12_emit (3 : Int32) (0 : Int32) (wi s 60 46 ((s 60 46) - (1 : Int32))) l).2) ∧ (¬ (x2 = (9 : Int32)) → (((x2 = (10 : Int32)) → (p_X12_emit (4 : Int32) (0 : Int32) (wi s 60 46 ((s 60 46) - (1 : Int32))) l) ∧ p_X12_comesOut_88 P0 x1 (f_X12_emit (4 : Int32) (0 : Int32) (wi s 60 46 ((s 60 46) - (1 : Int32))) l).1 (f_X12_emit (4 : Int32) (0 : Int32) (wi s 60 46 ((s 60 46) - (1 : Int32))) l).2) ∧ (¬ (x2 = (10 : Int32)) → (p_X12_emit (5 : Int32) (0 : Int32) (wi s 60 46 ((s 60 46) - (1 : Int32))) l) ∧ p_X12_comesOut_88 P0 x1 (f_X12_emit (5 : Int32) (0 : Int32) (wi s 60 46 ((s 60 46) - (1 : Int32))) l).1 (f_X12_emit (5 : Int32) (0 : Int32) (wi s 60 46 ((s 60 46) - (1 : Int32))) l).2))))))

set_option maxRecDepth 100000 in
set_option maxHeartbeats 4000000 in
theorem lp_X12_comesOut_42 {G : ab_G} {d : Nat} {D : fl_D} (K0 : Int32 → fl_I → fl_L → fl_I × fl_L) (P0 : Int32 → fl_I → fl_L → Prop) (hK0 : ∀ (x1 : Int32) (s : fl_I) (l : fl_L), P0 x1 s l → ab_C G (d + 1) 0 0 M_X12_comesOut 0 [some (.ref 60), some (.int x1), none] [] (hp D s l) (rt none (hp D (K0 x1 s l).1 (K0 x1 s l).2))) : ∀ (x1 : Int32) (x2 : Int32) (s : fl_I) (l : fl_L), p_X12_comesOut_42 P0 x1 x2 s l → ab_C G (d + 1) 0 0 M_X12_comesOut 42 [some (.ref 60), some (.int x1), some (.int x2)] [] (hp D s l) (rt none (hp D (f_X12_comesOut_42 K0 x1 x2 s l).1 (f_X12_comesOut_42 K0 x1 x2 s l).2)) := by
  intro x1 x2 s l hk
  generalize he : f_X12_comesOut_42 K0 x1 x2 s l = res
  unfold f_X12_comesOut_42 at he
  unfold p_X12_comesOut_42 at hk
  refine r_aload_n rfl rfl ?_
  refine r_dup rfl rfl ?_
  refine q_getfield rfl (cc_60 _) rfl ?_
  refine r_iconst_ (a := 1) rfl (by decide) ?_
  refine r_isub rfl ?_
  refine w_put rfl (cc_60 _) ff_12_46 ft_12_46 (Nat.le_of_ble_eq_true rfl) rfl ?_
  refine r_aload_n rfl rfl ?_
  refine r_iload_n rfl rfl ?_
  refine r_bipush_ (a := 8) rfl (by decide) ?_
  refine r_icmp_ne rfl (fun c_56 => ?_) (fun c_56 => ?_)
  · rw [if_neg c_56] at he
    replace hk := hk.2 c_56
    refine r_iload_n rfl rfl ?_
    refine r_bipush_ (a := 9) rfl (by decide) ?_
    refine r_icmp_ne rfl (fun c_66 => ?_) (fun c_66 => ?_)
    · rw [if_neg c_66] at he
      replace hk := hk.2 c_66
      refine r_iload_n rfl rfl ?_
      refine r_bipush_ (a := 10) rfl (by decide) ?_
      refine r_icmp_ne rfl (fun c_76 => ?_) (fun c_76 => ?_)
      · rw [if_neg c_76] at he
        replace hk := hk.2 c_76
        refine r_iconst_ (a := 5) rfl (by decide) ?_
        refine r_iconst_ (a := 0) rfl (by decide) ?_
        obtain ⟨hb1, hk⟩ := hk
        refine q_callV0 [_, _] _ rfl kY_X12_emit kT_X12_emit rfl rfl (Nat.le_of_ble_eq_true rfl) (Nat.le_of_ble_eq_true rfl) (cc_60 _) (s_X12_emit hb1) (fun r h q => ?_)
        obtain ⟨rfl, rfl⟩ := q
        simp only [Option.toList, List.cons_append, List.nil_append]
        subst he
        exact r_weak (L1 := [some (.ref 60), some (.int x1), none]) ⟨rfl, rfl, trivial⟩ (lp_X12_comesOut_88 _ _ hK0 _ _ _ hk)
      · rw [if_pos c_76] at he
        replace hk := hk.1 c_76
        refine r_iconst_ (a := 4) rfl (by decide) ?_
        refine r_goto rfl ?_
        refine r_iconst_ (a := 0) rfl (by decide) ?_
        obtain ⟨hb2, hk⟩ := hk
        refine q_callV0 [_, _] _ rfl kY_X12_emit kT_X12_emit rfl rfl (Nat.le_of_ble_eq_true rfl) (Nat.le_of_ble_eq_true rfl) (cc_60 _) (s_X12_emit hb2) (fun r h q => ?_)
        obtain ⟨rfl, rfl⟩ := q
        simp only [Option.toList, List.cons_append, List.nil_append]
        subst he
        exact r_weak (L1 := [some (.ref 60), some (.int x1), none]) ⟨rfl, rfl, trivial⟩ (lp_X12_comesOut_88 _ _ hK0 _ _ _ hk)
    · rw [if_pos c_66] at he
      replace hk := hk.1 c_66
      refine r_iconst_ (a := 3) rfl (by decide) ?_
      refine r_goto rfl ?_
      refine r_iconst_ (a := 0) rfl (by decide) ?_
      obtain ⟨hb3, hk⟩ := hk
      refine q_callV0 [_, _] _ rfl kY_X12_emit kT_X12_emit rfl rfl (Nat.le_of_ble_eq_true rfl) (Nat.le_of_ble_eq_true rfl) (cc_60 _) (s_X12_emit hb3) (fun r h q => ?_)
      obtain ⟨rfl, rfl⟩ := q
      simp only [Option.toList, List.cons_append, List.nil_append]
      subst he
      exact r_weak (L1 := [some (.ref 60), some (.int x1), none]) ⟨rfl, rfl, trivial⟩ (lp_X12_comesOut_88 _ _ hK0 _ _ _ hk)
  · rw [if_pos c_56] at he
    replace hk := hk.1 c_56
    refine r_iconst_ (a := 2) rfl (by decide) ?_
    refine r_goto rfl ?_
    refine r_iconst_ (a := 0) rfl (by decide) ?_
    obtain ⟨hb4, hk⟩ := hk
    refine q_callV0 [_, _] _ rfl kY_X12_emit kT_X12_emit rfl rfl (Nat.le_of_ble_eq_true rfl) (Nat.le_of_ble_eq_true rfl) (cc_60 _) (s_X12_emit hb4) (fun r h q => ?_)
    obtain ⟨rfl, rfl⟩ := q
    simp only [Option.toList, List.cons_append, List.nil_append]
    subst he
    exact r_weak (L1 := [some (.ref 60), some (.int x1), none]) ⟨rfl, rfl, trivial⟩ (lp_X12_comesOut_88 _ _ hK0 _ _ _ hk)

def f_X12_comesOut_0 : Nat → Int32 → fl_I → fl_L → fl_I × fl_L
  | 0, x1, s, l => (s, l)
  | n + 1, x1, s, l =>
    if ((s 60 46) ≤ 0) then (s, l) else if ((s 91 ((s 60 46) - (1 : Int32)).toNatClampNeg) = (6 : Int32)) then f_X12_comesOut_41  s l else if (x1 = 0) then f_X12_comesOut_42 (fun x1 s l => f_X12_comesOut_0 n x1 s l) x1 (s 91 ((s 60 46) - (1 : Int32)).toNatClampNeg) s l else if ((s 91 ((s 60 46) - (1 : Int32)).toNatClampNeg) = (8 : Int32)) then f_X12_comesOut_41  s l else if ((s 91 ((s 60 46) - (1 : Int32)).toNatClampNeg) = (9 : Int32)) then f_X12_comesOut_41  s l else f_X12_comesOut_42 (fun x1 s l => f_X12_comesOut_0 n x1 s l) x1 (s 91 ((s 60 46) - (1 : Int32)).toNatClampNeg) s l

def p_X12_comesOut_0 : Nat → Int32 → fl_I → fl_L → Prop
  | 0, _, _, _ => False
  | n + 1, x1, s, l =>
    ((((s 60 46) ≤ 0) → True) ∧ (¬ ((s 60 46) ≤ 0) → (vp_in ((s 60 46) - (1 : Int32)) 64) ∧ ((((s 91 ((s 60 46) - (1 : Int32)).toNatClampNeg) = (6 : Int32)) → p_X12_comesOut_41  s l) ∧ (¬ ((s 91 ((s 60 46) - (1 : Int32)).toNatClampNeg) = (6 : Int32)) → (((x1 = 0) → p_X12_comesOut_42 (fun x1 s l => p_X12_comesOut_0 n x1 s l) x1 (s 91 ((s 60 46) - (1 : Int32)).toNatClampNeg) s l) ∧ (¬ (x1 = 0) → ((((s 91 ((s 60 46) - (1 : Int32)).toNatClampNeg) = (8 : Int32)) → p_X12_comesOut_41  s l) ∧ (¬ ((s 91 ((s 60 46) - (1 : Int32)).toNatClampNeg) = (8 : Int32)) → ((((s 91 ((s 60 46) - (1 : Int32)).toNatClampNeg) = (9 : Int32)) → p_X12_comesOut_41  s l) ∧ (¬ ((s 91 ((s 60 46) - (1 : Int32)).toNatClampNeg) = (9 : Int32)) → p_X12_comesOut_42 (fun x1 s l => p_X12_comesOut_0 n x1 s l) x1 (s 91 ((s 60 46) - (1 : Int32)).toNatClampNeg) s l))))))))))

set_option maxRecDepth 100000 in
set_option maxHeartbeats 4000000 in
theorem lp_X12_comesOut_0 {G : ab_G} {d : Nat} {D : fl_D} : ∀ (n : Nat) (x1 : Int32) (s : fl_I) (l : fl_L), p_X12_comesOut_0 n x1 s l → ab_C G (d + 1) 0 0 M_X12_comesOut 0 [some (.ref 60), some (.int x1), none] [] (hp D s l) (rt none (hp D (f_X12_comesOut_0 n x1 s l).1 (f_X12_comesOut_0 n x1 s l).2)) := by
  intro n
  induction n with
  | zero => intro x1 s l hk; exact hk.elim
  | succ n ih =>
    intro x1 s l hk
    generalize he : f_X12_comesOut_0 (n + 1) x1 s l = res
    unfold f_X12_comesOut_0 at he
    unfold p_X12_comesOut_0 at hk
    refine r_aload_n rfl rfl ?_
    refine q_getfield rfl (cc_60 _) rfl ?_
    refine r_if_le rfl (fun c_4 => ?_) (fun c_4 => ?_)
    · rw [if_pos c_4] at he
      replace hk := hk.1 c_4
      refine r_ret rfl rfl ?_
      subst he
      exact ⟨rfl, rfl⟩
    · rw [if_neg c_4] at he
      replace hk := hk.2 c_4
      refine r_aload_n rfl rfl ?_
      refine q_getfield rfl (cc_60 _) rfl ?_
      refine r_aload_n rfl rfl ?_
      refine q_getfield rfl (cc_60 _) rfl ?_
      refine r_iconst_ (a := 1) rfl (by decide) ?_
      refine r_isub rfl ?_
      obtain ⟨hb0, hk⟩ := hk
      refine q_iald rfl (cc_91 _) hb0 ?_
      refine r_istore_n rfl (Nat.le_of_ble_eq_true rfl) rfl ?_
      refine r_iload_n rfl rfl ?_
      refine r_bipush_ (a := 6) rfl (by decide) ?_
      refine r_icmp_eq rfl (fun c_22 => ?_) (fun c_22 => ?_)
      · rw [if_pos c_22] at he
        replace hk := hk.1 c_22
        subst he
        exact r_weak (L1 := [none, none, none]) trivial (lp_X12_comesOut_41 _ _ hk)
      · rw [if_neg c_22] at he
        replace hk := hk.2 c_22
        refine r_iload_n rfl rfl ?_
        refine r_if_eq rfl (fun c_26 => ?_) (fun c_26 => ?_)
        · rw [if_pos c_26] at he
          replace hk := hk.1 c_26
          subst he
          exact r_weak (L1 := [some (.ref 60), some (.int x1), some (.int (s 91 ((s 60 46) - (1 : Int32)).toNatClampNeg))]) ⟨rfl, rfl, rfl, trivial⟩ (lp_X12_comesOut_42 _ _ (fun _ _ _ h9 => ih _ _ _ h9) _ _ _ _ hk)
        · rw [if_neg c_26] at he
          replace hk := hk.2 c_26
          refine r_iload_n rfl rfl ?_
          refine r_bipush_ (a := 8) rfl (by decide) ?_
          refine r_icmp_eq rfl (fun c_32 => ?_) (fun c_32 => ?_)
          · rw [if_pos c_32] at he
            replace hk := hk.1 c_32
            subst he
            exact r_weak (L1 := [none, none, none]) trivial (lp_X12_comesOut_41 _ _ hk)
          · rw [if_neg c_32] at he
            replace hk := hk.2 c_32
            refine r_iload_n rfl rfl ?_
            refine r_bipush_ (a := 9) rfl (by decide) ?_
            refine r_icmp_ne rfl (fun c_38 => ?_) (fun c_38 => ?_)
            · rw [if_neg c_38] at he
              replace hk := hk.2 c_38
              subst he
              exact r_weak (L1 := [some (.ref 60), some (.int x1), some (.int (s 91 ((s 60 46) - (1 : Int32)).toNatClampNeg))]) ⟨rfl, rfl, rfl, trivial⟩ (lp_X12_comesOut_42 _ _ (fun _ _ _ h9 => ih _ _ _ h9) _ _ _ _ hk)
            · rw [if_pos c_38] at he
              replace hk := hk.1 c_38
              subst he
              exact r_weak (L1 := [none, none, none]) trivial (lp_X12_comesOut_41 _ _ hk)

def f_X12_comesOut (v0 : Int32) (s : fl_I) (l : fl_L) : fl_I × fl_L :=
  f_X12_comesOut_0 fu v0 s l

def p_X12_comesOut (v0 : Int32) (s : fl_I) (l : fl_L) : Prop :=
  p_X12_comesOut_0 fu v0 s l

set_option maxRecDepth 100000 in
set_option maxHeartbeats 4000000 in
theorem s_X12_comesOut {G : ab_G} {d : Nat} {D : fl_D} {s : fl_I} {l : fl_L} {v0 : Int32} (hk : p_X12_comesOut v0 s l) : ab_C G (d + 1) 0 0 M_X12_comesOut 0 (ab_ent [.ref 60, .int v0]) [] (hp D s l) (rt none (hp D (f_X12_comesOut v0 s l).1 (f_X12_comesOut v0 s l).2)) := by
  generalize he : (f_X12_comesOut v0 s l) = res
  unfold f_X12_comesOut at he
  unfold p_X12_comesOut at hk
  refine r_weak (L1 := [some (.ref 60), some (.int v0), none]) ⟨rfl, rfl, trivial⟩ ?_
  subst he
  exact r_weak (L1 := [some (.ref 60), some (.int v0), none]) ⟨rfl, rfl, trivial⟩ (lp_X12_comesOut_0 fu _ _ _ hk)

def f_X12_picksUp_8 : Nat → Int32 → Int32 → Int32 → fl_I → fl_L → fl_I × fl_L
  | 0, x1, x2, x3, s, l => (s, l)
  | n + 1, x1, x2, x3, s, l =>
    if ((s 60 54) ≤ x3) then (s, l) else if ((s 78 (((4 : Int32) * (s 60 18)) + x1).toNatClampNeg) ≤ x2) then (s, l) else if ((f_X12_doesLie x3 s l) = 0) then f_X12_picksUp_8 n x1 x2 (x3 + 1) s l else if ((f_X12_cellOf x3 s l) = (f_X12_cellOfPicker x1 s l)) then f_X12_picksUp_8 n x1 (x2 + 1) (x3 + 1) (wi (wi s 95 ((64 : Int32) + x3).toNatClampNeg x1) 95 ((96 : Int32) + x3).toNatClampNeg (0 : Int32)) l else f_X12_picksUp_8 n x1 x2 (x3 + 1) s l

def p_X12_picksUp_8 : Nat → Int32 → Int32 → Int32 → fl_I → fl_L → Prop
  | 0, _, _, _, _, _ => False
  | n + 1, x1, x2, x3, s, l =>
    ((((s 60 54) ≤ x3) → True) ∧ (¬ ((s 60 54) ≤ x3) → (vp_in (((4 : Int32) * (s 60 18)) + x1) 8) ∧ ((((s 78 (((4 : Int32) * (s 60 18)) + x1).toNatClampNeg) ≤ x2) → True) ∧ (¬ ((s 78 (((4 : Int32) * (s 60 18)) + x1).toNatClampNeg) ≤ x2) → (p_X12_doesLie x3 s l) ∧ ((((f_X12_doesLie x3 s l) = 0) → p_X12_picksUp_8 n x1 x2 (x3 + 1) s l) ∧ (¬ ((f_X12_doesLie x3 s l) = 0) → (p_X12_cellOf x3 s l) ∧ (p_X12_cellOfPicker x1 s l) ∧ ((((f_X12_cellOf x3 s l) = (f_X12_cellOfPicker x1 s l)) → (vp_in ((64 : Int32) + x3) 141) ∧ (vp_in ((96 : Int32) + x3) 141) ∧ p_X12_picksUp_8 n x1 (x2 + 1) (x3 + 1) (wi (wi s 95 ((64 : Int32) + x3).toNatClampNeg x1) 95 ((96 : Int32) + x3).toNatClampNeg (0 : Int32)) l) ∧ (¬ ((f_X12_cellOf x3 s l) = (f_X12_cellOfPicker x1 s l)) → p_X12_picksUp_8 n x1 x2 (x3 + 1) s l))))))))

set_option maxRecDepth 100000 in
set_option maxHeartbeats 4000000 in
theorem lp_X12_picksUp_8 {G : ab_G} {d : Nat} {D : fl_D} : ∀ (n : Nat) (x1 : Int32) (x2 : Int32) (x3 : Int32) (s : fl_I) (l : fl_L), p_X12_picksUp_8 n x1 x2 x3 s l → ab_C G (d + 1) 0 0 M_X12_picksUp 8 [some (.ref 60), some (.int x1), some (.int x2), some (.int x3)] [] (hp D s l) (rt none (hp D (f_X12_picksUp_8 n x1 x2 x3 s l).1 (f_X12_picksUp_8 n x1 x2 x3 s l).2)) := by
  intro n
  induction n with
  | zero => intro x1 x2 x3 s l hk; exact hk.elim
  | succ n ih =>
    intro x1 x2 x3 s l hk
    generalize he : f_X12_picksUp_8 (n + 1) x1 x2 x3 s l = res
    unfold f_X12_picksUp_8 at he
    unfold p_X12_picksUp_8 at hk
    refine r_iload_n rfl rfl ?_
    refine r_aload_n rfl rfl ?_
    refine q_getfield rfl (cc_60 _) rfl ?_
    refine r_icmp_ge rfl (fun c_13 => ?_) (fun c_13 => ?_)
    · rw [if_pos c_13] at he
      replace hk := hk.1 c_13
      refine r_ret rfl rfl ?_
      subst he
      exact ⟨rfl, rfl⟩
    · rw [if_neg c_13] at he
      replace hk := hk.2 c_13
      refine r_iload_n rfl rfl ?_
      refine r_aload_n rfl rfl ?_
      refine q_getfield rfl (cc_60 _) rfl ?_
      refine r_iconst_ (a := 4) rfl (by decide) ?_
      refine r_aload_n rfl rfl ?_
      refine q_getfield rfl (cc_60 _) rfl ?_
      refine r_imul rfl ?_
      refine r_iload_n rfl rfl ?_
      refine r_iadd rfl ?_
      obtain ⟨hb1, hk⟩ := hk
      refine q_iald rfl (cc_78 _) hb1 ?_
      refine r_icmp_ge rfl (fun c_30 => ?_) (fun c_30 => ?_)
      · rw [if_pos c_30] at he
        replace hk := hk.1 c_30
        refine r_ret rfl rfl ?_
        subst he
        exact ⟨rfl, rfl⟩
      · rw [if_neg c_30] at he
        replace hk := hk.2 c_30
        refine r_aload_n rfl rfl ?_
        refine r_iload_n rfl rfl ?_
        obtain ⟨hb2, hk⟩ := hk
        refine q_callV0 [_] _ rfl kY_X12_doesLie kT_X12_doesLie rfl rfl (Nat.le_of_ble_eq_true rfl) (Nat.le_of_ble_eq_true rfl) (cc_60 _) (s_X12_doesLie hb2) (fun r h q => ?_)
        obtain ⟨rfl, rfl⟩ := q
        simp only [Option.toList, List.cons_append, List.nil_append]
        refine r_if_eq rfl (fun c_38 => ?_) (fun c_38 => ?_)
        · rw [if_pos c_38] at he
          replace hk := hk.1 c_38
          refine r_iinc (b := x3 + 1) rfl rfl rfl (Nat.le_of_ble_eq_true rfl) rfl ?_
          refine r_goto rfl ?_
          subst he
          exact r_weak (L1 := [some (.ref 60), some (.int x1), some (.int x2), some (.int (x3 + 1))]) ⟨rfl, rfl, rfl, rfl, trivial⟩ (ih _ _ _ _ _ hk)
        · rw [if_neg c_38] at he
          replace hk := hk.2 c_38
          refine r_aload_n rfl rfl ?_
          refine r_iload_n rfl rfl ?_
          obtain ⟨hb3, hk⟩ := hk
          refine q_callV0 [_] _ rfl kY_X12_cellOf kT_X12_cellOf rfl rfl (Nat.le_of_ble_eq_true rfl) (Nat.le_of_ble_eq_true rfl) (cc_60 _) (s_X12_cellOf hb3) (fun r h q => ?_)
          obtain ⟨rfl, rfl⟩ := q
          simp only [Option.toList, List.cons_append, List.nil_append]
          refine r_aload_n rfl rfl ?_
          refine r_iload_n rfl rfl ?_
          obtain ⟨hb4, hk⟩ := hk
          refine q_callV0 [_] _ rfl kY_X12_cellOfPicker kT_X12_cellOfPicker rfl rfl (Nat.le_of_ble_eq_true rfl) (Nat.le_of_ble_eq_true rfl) (cc_60 _) (s_X12_cellOfPicker hb4) (fun r h q => ?_)
          obtain ⟨rfl, rfl⟩ := q
          simp only [Option.toList, List.cons_append, List.nil_append]
          refine r_icmp_eq rfl (fun c_51 => ?_) (fun c_51 => ?_)
          · rw [if_pos c_51] at he
            replace hk := hk.1 c_51
            refine r_aload_n rfl rfl ?_
            refine q_getfield rfl (cc_60 _) rfl ?_
            refine r_bipush_ (a := 64) rfl (by decide) ?_
            refine r_iload_n rfl rfl ?_
            refine r_iadd rfl ?_
            refine r_iload_n rfl rfl ?_
            obtain ⟨hb5, hk⟩ := hk
            refine w_iast rfl (cc_95 _) hb5 ?_
            refine r_aload_n rfl rfl ?_
            refine q_getfield rfl (cc_60 _) rfl ?_
            refine r_bipush_ (a := 96) rfl (by decide) ?_
            refine r_iload_n rfl rfl ?_
            refine r_iadd rfl ?_
            refine r_iconst_ (a := 0) rfl (by decide) ?_
            obtain ⟨hb6, hk⟩ := hk
            refine w_iast rfl (cc_95 _) hb6 ?_
            refine r_iinc (b := x2 + 1) rfl rfl rfl (Nat.le_of_ble_eq_true rfl) rfl ?_
            refine r_iinc (b := x3 + 1) rfl rfl rfl (Nat.le_of_ble_eq_true rfl) rfl ?_
            refine r_goto rfl ?_
            subst he
            exact r_weak (L1 := [some (.ref 60), some (.int x1), some (.int (x2 + 1)), some (.int (x3 + 1))]) ⟨rfl, rfl, rfl, rfl, trivial⟩ (ih _ _ _ _ _ hk)
          · rw [if_neg c_51] at he
            replace hk := hk.2 c_51
            refine r_goto rfl ?_
            refine r_iinc (b := x3 + 1) rfl rfl rfl (Nat.le_of_ble_eq_true rfl) rfl ?_
            refine r_goto rfl ?_
            subst he
            exact r_weak (L1 := [some (.ref 60), some (.int x1), some (.int x2), some (.int (x3 + 1))]) ⟨rfl, rfl, rfl, rfl, trivial⟩ (ih _ _ _ _ _ hk)

def f_X12_picksUp (v0 : Int32) (s : fl_I) (l : fl_L) : fl_I × fl_L :=
  f_X12_picksUp_8 fu v0 (f_X12_inHat v0 s l) (0 : Int32) s l

def p_X12_picksUp (v0 : Int32) (s : fl_I) (l : fl_L) : Prop :=
  (p_X12_inHat v0 s l) ∧ p_X12_picksUp_8 fu v0 (f_X12_inHat v0 s l) (0 : Int32) s l

set_option maxRecDepth 100000 in
set_option maxHeartbeats 4000000 in
theorem s_X12_picksUp {G : ab_G} {d : Nat} {D : fl_D} {s : fl_I} {l : fl_L} {v0 : Int32} (hk : p_X12_picksUp v0 s l) : ab_C G (d + 1) 0 0 M_X12_picksUp 0 (ab_ent [.ref 60, .int v0]) [] (hp D s l) (rt none (hp D (f_X12_picksUp v0 s l).1 (f_X12_picksUp v0 s l).2)) := by
  generalize he : (f_X12_picksUp v0 s l) = res
  unfold f_X12_picksUp at he
  unfold p_X12_picksUp at hk
  refine r_weak (L1 := [some (.ref 60), some (.int v0), none, none]) ⟨rfl, rfl, trivial⟩ ?_
  refine r_aload_n rfl rfl ?_
  refine r_iload_n rfl rfl ?_
  obtain ⟨hb0, hk⟩ := hk
  refine q_callV0 [_] _ rfl kY_X12_inHat kT_X12_inHat rfl rfl (Nat.le_of_ble_eq_true rfl) (Nat.le_of_ble_eq_true rfl) (cc_60 _) (s_X12_inHat hb0) (fun r h q => ?_)
  obtain ⟨rfl, rfl⟩ := q
  simp only [Option.toList, List.cons_append, List.nil_append]
  refine r_istore_n rfl (Nat.le_of_ble_eq_true rfl) rfl ?_
  refine r_iconst_ (a := 0) rfl (by decide) ?_
  refine r_istore_n rfl (Nat.le_of_ble_eq_true rfl) rfl ?_
  subst he
  exact r_weak (L1 := [some (.ref 60), some (.int v0), some (.int (f_X12_inHat v0 s l)), some (.int (0 : Int32))]) ⟨rfl, rfl, rfl, rfl, trivial⟩ (lp_X12_picksUp_8 fu _ _ _ _ _ hk)

def f_X10_copy (a : Nat) (b : Nat) (s : fl_I) (l : fl_L) : fl_I × fl_L :=
  ((wc (wc (wc (wc (wc (wi (wi (wi s a 0 (s b 0)) a 1 ((wi s a 0 (s b 0)) b 1)) a 2 ((wi (wi s a 0 (s b 0)) a 1 ((wi s a 0 (s b 0)) b 1)) b 2)) (b + 1) (a + 1) (0 : Int32).toNatClampNeg (0 : Int32).toNatClampNeg (32 : Int32).toNatClampNeg) (b + 2) (a + 2) (0 : Int32).toNatClampNeg (0 : Int32).toNatClampNeg (32 : Int32).toNatClampNeg) (b + 3) (a + 3) (0 : Int32).toNatClampNeg (0 : Int32).toNatClampNeg (4 : Int32).toNatClampNeg) (b + 4) (a + 4) (0 : Int32).toNatClampNeg (0 : Int32).toNatClampNeg (4 : Int32).toNatClampNeg) (b + 5) (a + 5) (0 : Int32).toNatClampNeg (0 : Int32).toNatClampNeg (4 : Int32).toNatClampNeg), l)

def p_X10_copy (a : Nat) (b : Nat) (s : fl_I) (l : fl_L) : Prop :=
  True

set_option maxRecDepth 100000 in
set_option maxHeartbeats 4000000 in
theorem s_X10_copy {G : ab_G} {d : Nat} {D : fl_D} {s : fl_I} {l : fl_L} {a : Nat} (hya : isY D a) {b : Nat} (hyb : isY D b)  (hk : p_X10_copy a b s l) : ab_C G d 0 0 M_X10_copy 0 (ab_ent [.ref a, .ref b]) [] (hp D s l) (rt none (hp D (f_X10_copy a b s l).1 (f_X10_copy a b s l).2)) := by
  generalize he : (f_X10_copy a b s l) = res
  unfold f_X10_copy at he
  unfold p_X10_copy at hk
  refine r_weak (L1 := [some (.ref a), some (.ref b)]) ⟨rfl, rfl, trivial⟩ ?_
  refine r_aload_n rfl rfl ?_
  refine r_aload_n rfl rfl ?_
  refine q_getfield rfl (cY_0 hyb) rfl ?_
  refine w_put rfl (cY_0 hya) ff_10_0 ft_10_0 (Nat.le_of_ble_eq_true rfl) rfl ?_
  refine r_aload_n rfl rfl ?_
  refine r_aload_n rfl rfl ?_
  refine q_getfield rfl (cY_0 hyb) rfl ?_
  refine w_put rfl (cY_0 hya) ff_10_1 ft_10_1 (Nat.le_of_ble_eq_true rfl) rfl ?_
  refine r_aload_n rfl rfl ?_
  refine r_aload_n rfl rfl ?_
  refine q_getfield rfl (cY_0 hyb) rfl ?_
  refine w_put rfl (cY_0 hya) ff_10_2 ft_10_2 (Nat.le_of_ble_eq_true rfl) rfl ?_
  refine r_aload_n rfl rfl ?_
  refine q_getfield rfl (cY_0 hyb) rfl ?_
  refine r_iconst_ (a := 0) rfl (by decide) ?_
  refine r_aload_n rfl rfl ?_
  refine q_getfield rfl (cY_0 hya) rfl ?_
  refine r_iconst_ (a := 0) rfl (by decide) ?_
  refine r_bipush_ (a := 32) rfl (by decide) ?_
  refine w_copy rfl (cY_1 hyb) (cY_1 hya) (by decide) (by decide) (by decide) (Nat.le_of_ble_eq_true rfl) (Nat.le_of_ble_eq_true rfl) (Nat.le_of_ble_eq_true rfl) ?_
  refine r_aload_n rfl rfl ?_
  refine q_getfield rfl (cY_0 hyb) rfl ?_
  refine r_iconst_ (a := 0) rfl (by decide) ?_
  refine r_aload_n rfl rfl ?_
  refine q_getfield rfl (cY_0 hya) rfl ?_
  refine r_iconst_ (a := 0) rfl (by decide) ?_
  refine r_bipush_ (a := 32) rfl (by decide) ?_
  refine w_copy rfl (cY_2 hyb) (cY_2 hya) (by decide) (by decide) (by decide) (Nat.le_of_ble_eq_true rfl) (Nat.le_of_ble_eq_true rfl) (Nat.le_of_ble_eq_true rfl) ?_
  refine r_aload_n rfl rfl ?_
  refine q_getfield rfl (cY_0 hyb) rfl ?_
  refine r_iconst_ (a := 0) rfl (by decide) ?_
  refine r_aload_n rfl rfl ?_
  refine q_getfield rfl (cY_0 hya) rfl ?_
  refine r_iconst_ (a := 0) rfl (by decide) ?_
  refine r_iconst_ (a := 4) rfl (by decide) ?_
  refine w_copy rfl (cY_3 hyb) (cY_3 hya) (by decide) (by decide) (by decide) (Nat.le_of_ble_eq_true rfl) (Nat.le_of_ble_eq_true rfl) (Nat.le_of_ble_eq_true rfl) ?_
  refine r_aload_n rfl rfl ?_
  refine q_getfield rfl (cY_0 hyb) rfl ?_
  refine r_iconst_ (a := 0) rfl (by decide) ?_
  refine r_aload_n rfl rfl ?_
  refine q_getfield rfl (cY_0 hya) rfl ?_
  refine r_iconst_ (a := 0) rfl (by decide) ?_
  refine r_iconst_ (a := 4) rfl (by decide) ?_
  refine w_copy rfl (cY_4 hyb) (cY_4 hya) (by decide) (by decide) (by decide) (Nat.le_of_ble_eq_true rfl) (Nat.le_of_ble_eq_true rfl) (Nat.le_of_ble_eq_true rfl) ?_
  refine r_aload_n rfl rfl ?_
  refine q_getfield rfl (cY_0 hyb) rfl ?_
  refine r_iconst_ (a := 0) rfl (by decide) ?_
  refine r_aload_n rfl rfl ?_
  refine q_getfield rfl (cY_0 hya) rfl ?_
  refine r_iconst_ (a := 0) rfl (by decide) ?_
  refine r_iconst_ (a := 4) rfl (by decide) ?_
  refine w_copy rfl (cY_5 hyb) (cY_5 hya) (by decide) (by decide) (by decide) (Nat.le_of_ble_eq_true rfl) (Nat.le_of_ble_eq_true rfl) (Nat.le_of_ble_eq_true rfl) ?_
  refine r_ret rfl rfl ?_
  subst he
  exact ⟨rfl, rfl⟩

def f_X12_looksAt (v0 : Int32) (s : fl_I) (l : fl_L) : fl_I × fl_L :=
  ((wi (wi (wi (wi (wi (wi (f_X12_looks s l).1 92 (0 : Int32).toNatClampNeg ((f_X12_looks s l).1 96 v0.toNatClampNeg)) 92 (1 : Int32).toNatClampNeg ((wi (f_X12_looks s l).1 92 (0 : Int32).toNatClampNeg ((f_X12_looks s l).1 96 v0.toNatClampNeg)) 95 v0.toNatClampNeg)) 92 (2 : Int32).toNatClampNeg ((wi (wi (f_X12_looks s l).1 92 (0 : Int32).toNatClampNeg ((f_X12_looks s l).1 96 v0.toNatClampNeg)) 92 (1 : Int32).toNatClampNeg ((wi (f_X12_looks s l).1 92 (0 : Int32).toNatClampNeg ((f_X12_looks s l).1 96 v0.toNatClampNeg)) 95 v0.toNatClampNeg)) 95 ((32 : Int32) + v0).toNatClampNeg)) 92 (4 : Int32).toNatClampNeg ((wi (wi (wi (f_X12_looks s l).1 92 (0 : Int32).toNatClampNeg ((f_X12_looks s l).1 96 v0.toNatClampNeg)) 92 (1 : Int32).toNatClampNeg ((wi (f_X12_looks s l).1 92 (0 : Int32).toNatClampNeg ((f_X12_looks s l).1 96 v0.toNatClampNeg)) 95 v0.toNatClampNeg)) 92 (2 : Int32).toNatClampNeg ((wi (wi (f_X12_looks s l).1 92 (0 : Int32).toNatClampNeg ((f_X12_looks s l).1 96 v0.toNatClampNeg)) 92 (1 : Int32).toNatClampNeg ((wi (f_X12_looks s l).1 92 (0 : Int32).toNatClampNeg ((f_X12_looks s l).1 96 v0.toNatClampNeg)) 95 v0.toNatClampNeg)) 95 ((32 : Int32) + v0).toNatClampNeg)) 95 ((96 : Int32) + v0).toNatClampNeg)) 92 (7 : Int32).toNatClampNeg (f_X12_lieAt (f_X12_cellOf v0 (wi (wi (wi (wi (f_X12_looks s l).1 92 (0 : Int32).toNatClampNeg ((f_X12_looks s l).1 96 v0.toNatClampNeg)) 92 (1 : Int32).toNatClampNeg ((wi (f_X12_looks s l).1 92 (0 : Int32).toNatClampNeg ((f_X12_looks s l).1 96 v0.toNatClampNeg)) 95 v0.toNatClampNeg)) 92 (2 : Int32).toNatClampNeg ((wi (wi (f_X12_looks s l).1 92 (0 : Int32).toNatClampNeg ((f_X12_looks s l).1 96 v0.toNatClampNeg)) 92 (1 : Int32).toNatClampNeg ((wi (f_X12_looks s l).1 92 (0 : Int32).toNatClampNeg ((f_X12_looks s l).1 96 v0.toNatClampNeg)) 95 v0.toNatClampNeg)) 95 ((32 : Int32) + v0).toNatClampNeg)) 92 (4 : Int32).toNatClampNeg ((wi (wi (wi (f_X12_looks s l).1 92 (0 : Int32).toNatClampNeg ((f_X12_looks s l).1 96 v0.toNatClampNeg)) 92 (1 : Int32).toNatClampNeg ((wi (f_X12_looks s l).1 92 (0 : Int32).toNatClampNeg ((f_X12_looks s l).1 96 v0.toNatClampNeg)) 95 v0.toNatClampNeg)) 92 (2 : Int32).toNatClampNeg ((wi (wi (f_X12_looks s l).1 92 (0 : Int32).toNatClampNeg ((f_X12_looks s l).1 96 v0.toNatClampNeg)) 92 (1 : Int32).toNatClampNeg ((wi (f_X12_looks s l).1 92 (0 : Int32).toNatClampNeg ((f_X12_looks s l).1 96 v0.toNatClampNeg)) 95 v0.toNatClampNeg)) 95 ((32 : Int32) + v0).toNatClampNeg)) 95 ((96 : Int32) + v0).toNatClampNeg)) (f_X12_looks s l).2) (wi (wi (wi (wi (f_X12_looks s l).1 92 (0 : Int32).toNatClampNeg ((f_X12_looks s l).1 96 v0.toNatClampNeg)) 92 (1 : Int32).toNatClampNeg ((wi (f_X12_looks s l).1 92 (0 : Int32).toNatClampNeg ((f_X12_looks s l).1 96 v0.toNatClampNeg)) 95 v0.toNatClampNeg)) 92 (2 : Int32).toNatClampNeg ((wi (wi (f_X12_looks s l).1 92 (0 : Int32).toNatClampNeg ((f_X12_looks s l).1 96 v0.toNatClampNeg)) 92 (1 : Int32).toNatClampNeg ((wi (f_X12_looks s l).1 92 (0 : Int32).toNatClampNeg ((f_X12_looks s l).1 96 v0.toNatClampNeg)) 95 v0.toNatClampNeg)) 95 ((32 : Int32) + v0).toNatClampNeg)) 92 (4 : Int32).toNatClampNeg ((wi (wi (wi (f_X12_looks s l).1 92 (0 : Int32).toNatClampNeg ((f_X12_looks s l).1 96 v0.toNatClampNeg)) 92 (1 : Int32).toNatClampNeg ((wi (f_X12_looks s l).1 92 (0 : Int32).toNatClampNeg ((f_X12_looks s l).1 96 v0.toNatClampNeg)) 95 v0.toNatClampNeg)) 92 (2 : Int32).toNatClampNeg ((wi (wi (f_X12_looks s l).1 92 (0 : Int32).toNatClampNeg ((f_X12_looks s l).1 96 v0.toNatClampNeg)) 92 (1 : Int32).toNatClampNeg ((wi (f_X12_looks s l).1 92 (0 : Int32).toNatClampNeg ((f_X12_looks s l).1 96 v0.toNatClampNeg)) 95 v0.toNatClampNeg)) 95 ((32 : Int32) + v0).toNatClampNeg)) 95 ((96 : Int32) + v0).toNatClampNeg)) (f_X12_looks s l).2)) 92 (8 : Int32).toNatClampNeg v0), (f_X12_looks s l).2)

def p_X12_looksAt (v0 : Int32) (s : fl_I) (l : fl_L) : Prop :=
  (p_X12_looks s l) ∧ (vp_in v0 32) ∧ (vp_in v0 141) ∧ (vp_in ((32 : Int32) + v0) 141) ∧ (vp_in ((96 : Int32) + v0) 141) ∧ (p_X12_cellOf v0 (wi (wi (wi (wi (f_X12_looks s l).1 92 (0 : Int32).toNatClampNeg ((f_X12_looks s l).1 96 v0.toNatClampNeg)) 92 (1 : Int32).toNatClampNeg ((wi (f_X12_looks s l).1 92 (0 : Int32).toNatClampNeg ((f_X12_looks s l).1 96 v0.toNatClampNeg)) 95 v0.toNatClampNeg)) 92 (2 : Int32).toNatClampNeg ((wi (wi (f_X12_looks s l).1 92 (0 : Int32).toNatClampNeg ((f_X12_looks s l).1 96 v0.toNatClampNeg)) 92 (1 : Int32).toNatClampNeg ((wi (f_X12_looks s l).1 92 (0 : Int32).toNatClampNeg ((f_X12_looks s l).1 96 v0.toNatClampNeg)) 95 v0.toNatClampNeg)) 95 ((32 : Int32) + v0).toNatClampNeg)) 92 (4 : Int32).toNatClampNeg ((wi (wi (wi (f_X12_looks s l).1 92 (0 : Int32).toNatClampNeg ((f_X12_looks s l).1 96 v0.toNatClampNeg)) 92 (1 : Int32).toNatClampNeg ((wi (f_X12_looks s l).1 92 (0 : Int32).toNatClampNeg ((f_X12_looks s l).1 96 v0.toNatClampNeg)) 95 v0.toNatClampNeg)) 92 (2 : Int32).toNatClampNeg ((wi (wi (f_X12_looks s l).1 92 (0 : Int32).toNatClampNeg ((f_X12_looks s l).1 96 v0.toNatClampNeg)) 92 (1 : Int32).toNatClampNeg ((wi (f_X12_looks s l).1 92 (0 : Int32).toNatClampNeg ((f_X12_looks s l).1 96 v0.toNatClampNeg)) 95 v0.toNatClampNeg)) 95 ((32 : Int32) + v0).toNatClampNeg)) 95 ((96 : Int32) + v0).toNatClampNeg)) (f_X12_looks s l).2) ∧ (p_X12_lieAt (f_X12_cellOf v0 (wi (wi (wi (wi (f_X12_looks s l).1 92 (0 : Int32).toNatClampNeg ((f_X12_looks s l).1 96 v0.toNatClampNeg)) 92 (1 : Int32).toNatClampNeg ((wi (f_X12_looks s l).1 92 (0 : Int32).toNatClampNeg ((f_X12_looks s l).1 96 v0.toNatClampNeg)) 95 v0.toNatClampNeg)) 92 (2 : Int32).toNatClampNeg ((wi (wi (f_X12_looks s l).1 92 (0 : Int32).toNatClampNeg ((f_X12_looks s l).1 96 v0.toNatClampNeg)) 92 (1 : Int32).toNatClampNeg ((wi (f_X12_looks s l).1 92 (0 : Int32).toNatClampNeg ((f_X12_looks s l).1 96 v0.toNatClampNeg)) 95 v0.toNatClampNeg)) 95 ((32 : Int32) + v0).toNatClampNeg)) 92 (4 : Int32).toNatClampNeg ((wi (wi (wi (f_X12_looks s l).1 92 (0 : Int32).toNatClampNeg ((f_X12_looks s l).1 96 v0.toNatClampNeg)) 92 (1 : Int32).toNatClampNeg ((wi (f_X12_looks s l).1 92 (0 : Int32).toNatClampNeg ((f_X12_looks s l).1 96 v0.toNatClampNeg)) 95 v0.toNatClampNeg)) 92 (2 : Int32).toNatClampNeg ((wi (wi (f_X12_looks s l).1 92 (0 : Int32).toNatClampNeg ((f_X12_looks s l).1 96 v0.toNatClampNeg)) 92 (1 : Int32).toNatClampNeg ((wi (f_X12_looks s l).1 92 (0 : Int32).toNatClampNeg ((f_X12_looks s l).1 96 v0.toNatClampNeg)) 95 v0.toNatClampNeg)) 95 ((32 : Int32) + v0).toNatClampNeg)) 95 ((96 : Int32) + v0).toNatClampNeg)) (f_X12_looks s l).2) (wi (wi (wi (wi (f_X12_looks s l).1 92 (0 : Int32).toNatClampNeg ((f_X12_looks s l).1 96 v0.toNatClampNeg)) 92 (1 : Int32).toNatClampNeg ((wi (f_X12_looks s l).1 92 (0 : Int32).toNatClampNeg ((f_X12_looks s l).1 96 v0.toNatClampNeg)) 95 v0.toNatClampNeg)) 92 (2 : Int32).toNatClampNeg ((wi (wi (f_X12_looks s l).1 92 (0 : Int32).toNatClampNeg ((f_X12_looks s l).1 96 v0.toNatClampNeg)) 92 (1 : Int32).toNatClampNeg ((wi (f_X12_looks s l).1 92 (0 : Int32).toNatClampNeg ((f_X12_looks s l).1 96 v0.toNatClampNeg)) 95 v0.toNatClampNeg)) 95 ((32 : Int32) + v0).toNatClampNeg)) 92 (4 : Int32).toNatClampNeg ((wi (wi (wi (f_X12_looks s l).1 92 (0 : Int32).toNatClampNeg ((f_X12_looks s l).1 96 v0.toNatClampNeg)) 92 (1 : Int32).toNatClampNeg ((wi (f_X12_looks s l).1 92 (0 : Int32).toNatClampNeg ((f_X12_looks s l).1 96 v0.toNatClampNeg)) 95 v0.toNatClampNeg)) 92 (2 : Int32).toNatClampNeg ((wi (wi (f_X12_looks s l).1 92 (0 : Int32).toNatClampNeg ((f_X12_looks s l).1 96 v0.toNatClampNeg)) 92 (1 : Int32).toNatClampNeg ((wi (f_X12_looks s l).1 92 (0 : Int32).toNatClampNeg ((f_X12_looks s l).1 96 v0.toNatClampNeg)) 95 v0.toNatClampNeg)) 95 ((32 : Int32) + v0).toNatClampNeg)) 95 ((96 : Int32) + v0).toNatClampNeg)) (f_X12_looks s l).2) ∧ True

set_option maxRecDepth 100000 in
set_option maxHeartbeats 4000000 in
theorem s_X12_looksAt {G : ab_G} {d : Nat} {D : fl_D} {s : fl_I} {l : fl_L} {v0 : Int32} (hk : p_X12_looksAt v0 s l) : ab_C G (d + 2) 0 0 M_X12_looksAt 0 (ab_ent [.ref 60, .int v0]) [] (hp D s l) (rt none (hp D (f_X12_looksAt v0 s l).1 (f_X12_looksAt v0 s l).2)) := by
  generalize he : (f_X12_looksAt v0 s l) = res
  unfold f_X12_looksAt at he
  unfold p_X12_looksAt at hk
  refine r_weak (L1 := [some (.ref 60), some (.int v0)]) ⟨rfl, rfl, trivial⟩ ?_
  refine r_aload_n rfl rfl ?_
  obtain ⟨hb0, hk⟩ := hk
  refine q_callV0 [] _ rfl kY_X12_looks kT_X12_looks rfl rfl (Nat.le_of_ble_eq_true rfl) (Nat.le_of_ble_eq_true rfl) (cc_60 _) (s_X12_looks hb0) (fun r h q => ?_)
  obtain ⟨rfl, rfl⟩ := q
  simp only [Option.toList, List.cons_append, List.nil_append]
  refine r_aload_n rfl rfl ?_
  refine q_getfield rfl (cc_60 _) rfl ?_
  refine r_iconst_ (a := 0) rfl (by decide) ?_
  refine r_aload_n rfl rfl ?_
  refine q_getfield rfl (cc_60 _) rfl ?_
  refine r_iload_n rfl rfl ?_
  obtain ⟨hb1, hk⟩ := hk
  refine q_iald rfl (cc_96 _) hb1 ?_
  refine w_iast rfl (cc_92 _) (by unfold vp_in; decide) ?_
  refine r_aload_n rfl rfl ?_
  refine q_getfield rfl (cc_60 _) rfl ?_
  refine r_iconst_ (a := 1) rfl (by decide) ?_
  refine r_aload_n rfl rfl ?_
  refine q_getfield rfl (cc_60 _) rfl ?_
  refine r_iload_n rfl rfl ?_
  obtain ⟨hb2, hk⟩ := hk
  refine q_iald rfl (cc_95 _) hb2 ?_
  refine w_iast rfl (cc_92 _) (by unfold vp_in; decide) ?_
  refine r_aload_n rfl rfl ?_
  refine q_getfield rfl (cc_60 _) rfl ?_
  refine r_iconst_ (a := 2) rfl (by decide) ?_
  refine r_aload_n rfl rfl ?_
  refine q_getfield rfl (cc_60 _) rfl ?_
  refine r_bipush_ (a := 32) rfl (by decide) ?_
  refine r_iload_n rfl rfl ?_
  refine r_iadd rfl ?_
  obtain ⟨hb3, hk⟩ := hk
  refine q_iald rfl (cc_95 _) hb3 ?_
  refine w_iast rfl (cc_92 _) (by unfold vp_in; decide) ?_
  refine r_aload_n rfl rfl ?_
  refine q_getfield rfl (cc_60 _) rfl ?_
  refine r_iconst_ (a := 4) rfl (by decide) ?_
  refine r_aload_n rfl rfl ?_
  refine q_getfield rfl (cc_60 _) rfl ?_
  refine r_bipush_ (a := 96) rfl (by decide) ?_
  refine r_iload_n rfl rfl ?_
  refine r_iadd rfl ?_
  obtain ⟨hb4, hk⟩ := hk
  refine q_iald rfl (cc_95 _) hb4 ?_
  refine w_iast rfl (cc_92 _) (by unfold vp_in; decide) ?_
  refine r_aload_n rfl rfl ?_
  refine q_getfield rfl (cc_60 _) rfl ?_
  refine r_bipush_ (a := 7) rfl (by decide) ?_
  refine r_aload_n rfl rfl ?_
  refine r_aload_n rfl rfl ?_
  refine r_iload_n rfl rfl ?_
  obtain ⟨hb5, hk⟩ := hk
  refine q_callV0 [_] _ rfl kY_X12_cellOf kT_X12_cellOf rfl rfl (Nat.le_of_ble_eq_true rfl) (Nat.le_of_ble_eq_true rfl) (cc_60 _) (s_X12_cellOf hb5) (fun r h q => ?_)
  obtain ⟨rfl, rfl⟩ := q
  simp only [Option.toList, List.cons_append, List.nil_append]
  obtain ⟨hb6, hk⟩ := hk
  refine q_callV0 [_] _ rfl kY_X12_lieAt kT_X12_lieAt rfl rfl (Nat.le_of_ble_eq_true rfl) (Nat.le_of_ble_eq_true rfl) (cc_60 _) (s_X12_lieAt hb6) (fun r h q => ?_)
  obtain ⟨rfl, rfl⟩ := q
  simp only [Option.toList, List.cons_append, List.nil_append]
  refine w_iast rfl (cc_92 _) (by unfold vp_in; decide) ?_
  refine r_aload_n rfl rfl ?_
  refine q_getfield rfl (cc_60 _) rfl ?_
  refine r_bipush_ (a := 8) rfl (by decide) ?_
  refine r_iload_n rfl rfl ?_
  refine w_iast rfl (cc_92 _) (by unfold vp_in; decide) ?_
  refine r_ret rfl rfl ?_
  subst he
  exact ⟨rfl, rfl⟩

def f_X12_fillsHeap_81 (K23 : Int32 → Int32 → fl_I → fl_L → fl_I × fl_L) (x1 : Int32) (x2 : Int32) (s : fl_I) (l : fl_L) : fl_I × fl_L :=
    K23 x1 (x2 + 1) s l

def p_X12_fillsHeap_81 (P23 : Int32 → Int32 → fl_I → fl_L → Prop) (x1 : Int32) (x2 : Int32) (s : fl_I) (l : fl_L) : Prop :=
    P23 x1 (x2 + 1) s l

set_option maxRecDepth 100000 in
set_option maxHeartbeats 4000000 in
theorem lp_X12_fillsHeap_81 {G : ab_G} {d : Nat} {D : fl_D} (K23 : Int32 → Int32 → fl_I → fl_L → fl_I × fl_L) (P23 : Int32 → Int32 → fl_I → fl_L → Prop) (hK23 : ∀ (x1 : Int32) (x2 : Int32) (s : fl_I) (l : fl_L), P23 x1 x2 s l → ab_C G d 0 0 M_X12_fillsHeap 23 [some (.ref 60), some (.int x1), some (.int x2)] [] (hp D s l) (rt none (hp D (K23 x1 x2 s l).1 (K23 x1 x2 s l).2))) : ∀ (x1 : Int32) (x2 : Int32) (s : fl_I) (l : fl_L), p_X12_fillsHeap_81 P23 x1 x2 s l → ab_C G d 0 0 M_X12_fillsHeap 81 [some (.ref 60), some (.int x1), some (.int x2)] [] (hp D s l) (rt none (hp D (f_X12_fillsHeap_81 K23 x1 x2 s l).1 (f_X12_fillsHeap_81 K23 x1 x2 s l).2)) := by
  intro x1 x2 s l hk
  generalize he : f_X12_fillsHeap_81 K23 x1 x2 s l = res
  unfold f_X12_fillsHeap_81 at he
  unfold p_X12_fillsHeap_81 at hk
  refine r_iinc (b := x2 + 1) rfl rfl rfl (Nat.le_of_ble_eq_true rfl) rfl ?_
  refine r_goto rfl ?_
  subst he
  exact r_weak (L1 := [some (.ref 60), some (.int x1), some (.int (x2 + 1))]) ⟨rfl, rfl, rfl, trivial⟩ (hK23 _ _ _ _ hk)

def f_X12_fillsHeap_66 (K23 : Int32 → Int32 → fl_I → fl_L → fl_I × fl_L) (x1 : Int32) (x2 : Int32) (s : fl_I) (l : fl_L) : fl_I × fl_L :=
    f_X12_fillsHeap_81 K23 x1 x2 (wi s 102 (s 96 x2.toNatClampNeg).toNatClampNeg ((s 102 (s 96 x2.toNatClampNeg).toNatClampNeg) + (1 : Int32))) l

def p_X12_fillsHeap_66 (P23 : Int32 → Int32 → fl_I → fl_L → Prop) (x1 : Int32) (x2 : Int32) (s : fl_I) (l : fl_L) : Prop :=
    (vp_in x2 32) ∧ (vp_in (s 96 x2.toNatClampNeg) 27) ∧ (vp_in (s 96 x2.toNatClampNeg) 27) ∧ p_X12_fillsHeap_81 P23 x1 x2 (wi s 102 (s 96 x2.toNatClampNeg).toNatClampNeg ((s 102 (s 96 x2.toNatClampNeg).toNatClampNeg) + (1 : Int32))) l

set_option maxRecDepth 100000 in
set_option maxHeartbeats 4000000 in
theorem lp_X12_fillsHeap_66 {G : ab_G} {d : Nat} {D : fl_D} (K23 : Int32 → Int32 → fl_I → fl_L → fl_I × fl_L) (P23 : Int32 → Int32 → fl_I → fl_L → Prop) (hK23 : ∀ (x1 : Int32) (x2 : Int32) (s : fl_I) (l : fl_L), P23 x1 x2 s l → ab_C G d 0 0 M_X12_fillsHeap 23 [some (.ref 60), some (.int x1), some (.int x2)] [] (hp D s l) (rt none (hp D (K23 x1 x2 s l).1 (K23 x1 x2 s l).2))) : ∀ (x1 : Int32) (x2 : Int32) (s : fl_I) (l : fl_L), p_X12_fillsHeap_66 P23 x1 x2 s l → ab_C G d 0 0 M_X12_fillsHeap 66 [some (.ref 60), some (.int x1), some (.int x2)] [] (hp D s l) (rt none (hp D (f_X12_fillsHeap_66 K23 x1 x2 s l).1 (f_X12_fillsHeap_66 K23 x1 x2 s l).2)) := by
  intro x1 x2 s l hk
  generalize he : f_X12_fillsHeap_66 K23 x1 x2 s l = res
  unfold f_X12_fillsHeap_66 at he
  unfold p_X12_fillsHeap_66 at hk
  refine r_aload_n rfl rfl ?_
  refine q_getfield rfl (cc_60 _) rfl ?_
  refine r_aload_n rfl rfl ?_
  refine q_getfield rfl (cc_60 _) rfl ?_
  refine r_iload_n rfl rfl ?_
  obtain ⟨hb0, hk⟩ := hk
  refine q_iald rfl (cc_96 _) hb0 ?_
  refine r_dup2 rfl rfl rfl ?_
  obtain ⟨hb1, hk⟩ := hk
  refine q_iald rfl (cc_102 _) hb1 ?_
  refine r_iconst_ (a := 1) rfl (by decide) ?_
  refine r_iadd rfl ?_
  obtain ⟨hb2, hk⟩ := hk
  refine w_iast rfl (cc_102 _) hb2 ?_
  subst he
  exact r_weak (L1 := [some (.ref 60), some (.int x1), some (.int x2)]) ⟨rfl, rfl, rfl, trivial⟩ (lp_X12_fillsHeap_81 _ _ hK23 _ _ _ _ hk)

def f_X12_fillsHeap_53 (K23 : Int32 → Int32 → fl_I → fl_L → fl_I × fl_L) (x1 : Int32) (x2 : Int32) (s : fl_I) (l : fl_L) : fl_I × fl_L :=
    if ((s 94 ((64 : Int32) + x2).toNatClampNeg) = x1) then f_X12_fillsHeap_66 K23 x1 x2 s l else f_X12_fillsHeap_81 K23 x1 x2 s l

def p_X12_fillsHeap_53 (P23 : Int32 → Int32 → fl_I → fl_L → Prop) (x1 : Int32) (x2 : Int32) (s : fl_I) (l : fl_L) : Prop :=
    (vp_in ((64 : Int32) + x2) 141) ∧ ((((s 94 ((64 : Int32) + x2).toNatClampNeg) = x1) → p_X12_fillsHeap_66 P23 x1 x2 s l) ∧ (¬ ((s 94 ((64 : Int32) + x2).toNatClampNeg) = x1) → p_X12_fillsHeap_81 P23 x1 x2 s l))

set_option maxRecDepth 100000 in
set_option maxHeartbeats 4000000 in
theorem lp_X12_fillsHeap_53 {G : ab_G} {d : Nat} {D : fl_D} (K23 : Int32 → Int32 → fl_I → fl_L → fl_I × fl_L) (P23 : Int32 → Int32 → fl_I → fl_L → Prop) (hK23 : ∀ (x1 : Int32) (x2 : Int32) (s : fl_I) (l : fl_L), P23 x1 x2 s l → ab_C G d 0 0 M_X12_fillsHeap 23 [some (.ref 60), some (.int x1), some (.int x2)] [] (hp D s l) (rt none (hp D (K23 x1 x2 s l).1 (K23 x1 x2 s l).2))) : ∀ (x1 : Int32) (x2 : Int32) (s : fl_I) (l : fl_L), p_X12_fillsHeap_53 P23 x1 x2 s l → ab_C G d 0 0 M_X12_fillsHeap 53 [some (.ref 60), some (.int x1), some (.int x2)] [] (hp D s l) (rt none (hp D (f_X12_fillsHeap_53 K23 x1 x2 s l).1 (f_X12_fillsHeap_53 K23 x1 x2 s l).2)) := by
  intro x1 x2 s l hk
  generalize he : f_X12_fillsHeap_53 K23 x1 x2 s l = res
  unfold f_X12_fillsHeap_53 at he
  unfold p_X12_fillsHeap_53 at hk
  refine r_aload_n rfl rfl ?_
  refine q_getfield rfl (cc_60 _) rfl ?_
  refine r_bipush_ (a := 64) rfl (by decide) ?_
  refine r_iload_n rfl rfl ?_
  refine r_iadd rfl ?_
  obtain ⟨hb3, hk⟩ := hk
  refine q_iald rfl (cc_94 _) hb3 ?_
  refine r_iload_n rfl rfl ?_
  refine r_icmp_ne rfl (fun c_63 => ?_) (fun c_63 => ?_)
  · rw [if_neg c_63] at he
    replace hk := hk.2 c_63
    subst he
    exact r_weak (L1 := [some (.ref 60), some (.int x1), some (.int x2)]) ⟨rfl, rfl, rfl, trivial⟩ (lp_X12_fillsHeap_81 _ _ hK23 _ _ _ _ hk)
  · rw [if_pos c_63] at he
    replace hk := hk.1 c_63
    subst he
    exact r_weak (L1 := [some (.ref 60), some (.int x1), some (.int x2)]) ⟨rfl, rfl, rfl, trivial⟩ (lp_X12_fillsHeap_66 _ _ hK23 _ _ _ _ hk)

def f_X12_fillsHeap_23 : Nat → Int32 → Int32 → fl_I → fl_L → fl_I × fl_L
  | 0, x1, x2, s, l => (s, l)
  | n + 1, x1, x2, s, l =>
    if ((s 60 54) ≤ x2) then (s, l) else if (x1 = (5 : Int32)) then f_X12_fillsHeap_66 (fun x1 x2 s l => f_X12_fillsHeap_23 n x1 x2 s l) x1 x2 s l else if (x1 = (4 : Int32)) then if ((s 94 ((64 : Int32) + x2).toNatClampNeg) < 0) then f_X12_fillsHeap_66 (fun x1 x2 s l => f_X12_fillsHeap_23 n x1 x2 s l) x1 x2 s l else f_X12_fillsHeap_53 (fun x1 x2 s l => f_X12_fillsHeap_23 n x1 x2 s l) x1 x2 s l else f_X12_fillsHeap_53 (fun x1 x2 s l => f_X12_fillsHeap_23 n x1 x2 s l) x1 x2 s l

def p_X12_fillsHeap_23 : Nat → Int32 → Int32 → fl_I → fl_L → Prop
  | 0, _, _, _, _ => False
  | n + 1, x1, x2, s, l =>
    ((((s 60 54) ≤ x2) → True) ∧ (¬ ((s 60 54) ≤ x2) → (((x1 = (5 : Int32)) → p_X12_fillsHeap_66 (fun x1 x2 s l => p_X12_fillsHeap_23 n x1 x2 s l) x1 x2 s l) ∧ (¬ (x1 = (5 : Int32)) → (((x1 = (4 : Int32)) → (vp_in ((64 : Int32) + x2) 141) ∧ ((((s 94 ((64 : Int32) + x2).toNatClampNeg) < 0) → p_X12_fillsHeap_66 (fun x1 x2 s l => p_X12_fillsHeap_23 n x1 x2 s l) x1 x2 s l) ∧ (¬ ((s 94 ((64 : Int32) + x2).toNatClampNeg) < 0) → p_X12_fillsHeap_53 (fun x1 x2 s l => p_X12_fillsHeap_23 n x1 x2 s l) x1 x2 s l))) ∧ (¬ (x1 = (4 : Int32)) → p_X12_fillsHeap_53 (fun x1 x2 s l => p_X12_fillsHeap_23 n x1 x2 s l) x1 x2 s l))))))

set_option maxRecDepth 100000 in
set_option maxHeartbeats 4000000 in
theorem lp_X12_fillsHeap_23 {G : ab_G} {d : Nat} {D : fl_D} : ∀ (n : Nat) (x1 : Int32) (x2 : Int32) (s : fl_I) (l : fl_L), p_X12_fillsHeap_23 n x1 x2 s l → ab_C G d 0 0 M_X12_fillsHeap 23 [some (.ref 60), some (.int x1), some (.int x2)] [] (hp D s l) (rt none (hp D (f_X12_fillsHeap_23 n x1 x2 s l).1 (f_X12_fillsHeap_23 n x1 x2 s l).2)) := by
  intro n
  induction n with
  | zero => intro x1 x2 s l hk; exact hk.elim
  | succ n ih =>
    intro x1 x2 s l hk
    generalize he : f_X12_fillsHeap_23 (n + 1) x1 x2 s l = res
    unfold f_X12_fillsHeap_23 at he
    unfold p_X12_fillsHeap_23 at hk
    refine r_iload_n rfl rfl ?_
    refine r_aload_n rfl rfl ?_
    refine q_getfield rfl (cc_60 _) rfl ?_
    refine r_icmp_ge rfl (fun c_28 => ?_) (fun c_28 => ?_)
    · rw [if_pos c_28] at he
      replace hk := hk.1 c_28
      refine r_ret rfl rfl ?_
      subst he
      exact ⟨rfl, rfl⟩
    · rw [if_neg c_28] at he
      replace hk := hk.2 c_28
      refine r_iload_n rfl rfl ?_
      refine r_iconst_ (a := 5) rfl (by decide) ?_
      refine r_icmp_eq rfl (fun c_33 => ?_) (fun c_33 => ?_)
      · rw [if_pos c_33] at he
        replace hk := hk.1 c_33
        subst he
        exact r_weak (L1 := [some (.ref 60), some (.int x1), some (.int x2)]) ⟨rfl, rfl, rfl, trivial⟩ (lp_X12_fillsHeap_66 _ _ (fun _ _ _ _ h9 => ih _ _ _ _ h9) _ _ _ _ hk)
      · rw [if_neg c_33] at he
        replace hk := hk.2 c_33
        refine r_iload_n rfl rfl ?_
        refine r_iconst_ (a := 4) rfl (by decide) ?_
        refine r_icmp_ne rfl (fun c_38 => ?_) (fun c_38 => ?_)
        · rw [if_neg c_38] at he
          replace hk := hk.2 c_38
          subst he
          exact r_weak (L1 := [some (.ref 60), some (.int x1), some (.int x2)]) ⟨rfl, rfl, rfl, trivial⟩ (lp_X12_fillsHeap_53 _ _ (fun _ _ _ _ h9 => ih _ _ _ _ h9) _ _ _ _ hk)
        · rw [if_pos c_38] at he
          replace hk := hk.1 c_38
          refine r_aload_n rfl rfl ?_
          refine q_getfield rfl (cc_60 _) rfl ?_
          refine r_bipush_ (a := 64) rfl (by decide) ?_
          refine r_iload_n rfl rfl ?_
          refine r_iadd rfl ?_
          obtain ⟨hb4, hk⟩ := hk
          refine q_iald rfl (cc_94 _) hb4 ?_
          refine r_if_lt rfl (fun c_50 => ?_) (fun c_50 => ?_)
          · rw [if_pos c_50] at he
            replace hk := hk.1 c_50
            subst he
            exact r_weak (L1 := [some (.ref 60), some (.int x1), some (.int x2)]) ⟨rfl, rfl, rfl, trivial⟩ (lp_X12_fillsHeap_66 _ _ (fun _ _ _ _ h9 => ih _ _ _ _ h9) _ _ _ _ hk)
          · rw [if_neg c_50] at he
            replace hk := hk.2 c_50
            subst he
            exact r_weak (L1 := [some (.ref 60), some (.int x1), some (.int x2)]) ⟨rfl, rfl, rfl, trivial⟩ (lp_X12_fillsHeap_53 _ _ (fun _ _ _ _ h9 => ih _ _ _ _ h9) _ _ _ _ hk)

def f_X12_fillsHeap_2 : Nat → Int32 → Int32 → fl_I → fl_L → fl_I × fl_L
  | 0, x1, x2, s, l => (s, l)
  | n + 1, x1, x2, s, l =>
    if ((27 : Int32) ≤ x2) then f_X12_fillsHeap_23 fu x1 (0 : Int32) s l else f_X12_fillsHeap_2 n x1 (x2 + 1) (wi s 102 x2.toNatClampNeg (0 : Int32)) l

def p_X12_fillsHeap_2 : Nat → Int32 → Int32 → fl_I → fl_L → Prop
  | 0, _, _, _, _ => False
  | n + 1, x1, x2, s, l =>
    ((((27 : Int32) ≤ x2) → p_X12_fillsHeap_23 fu x1 (0 : Int32) s l) ∧ (¬ ((27 : Int32) ≤ x2) → (vp_in x2 27) ∧ p_X12_fillsHeap_2 n x1 (x2 + 1) (wi s 102 x2.toNatClampNeg (0 : Int32)) l))

set_option maxRecDepth 100000 in
set_option maxHeartbeats 4000000 in
theorem lp_X12_fillsHeap_2 {G : ab_G} {d : Nat} {D : fl_D} : ∀ (n : Nat) (x1 : Int32) (x2 : Int32) (s : fl_I) (l : fl_L), p_X12_fillsHeap_2 n x1 x2 s l → ab_C G d 0 0 M_X12_fillsHeap 2 [some (.ref 60), some (.int x1), some (.int x2)] [] (hp D s l) (rt none (hp D (f_X12_fillsHeap_2 n x1 x2 s l).1 (f_X12_fillsHeap_2 n x1 x2 s l).2)) := by
  intro n
  induction n with
  | zero => intro x1 x2 s l hk; exact hk.elim
  | succ n ih =>
    intro x1 x2 s l hk
    generalize he : f_X12_fillsHeap_2 (n + 1) x1 x2 s l = res
    unfold f_X12_fillsHeap_2 at he
    unfold p_X12_fillsHeap_2 at hk
    refine r_iload_n rfl rfl ?_
    refine r_bipush_ (a := 27) rfl (by decide) ?_
    refine r_icmp_ge rfl (fun c_5 => ?_) (fun c_5 => ?_)
    · rw [if_pos c_5] at he
      replace hk := hk.1 c_5
      refine r_iconst_ (a := 0) rfl (by decide) ?_
      refine r_istore_n rfl (Nat.le_of_ble_eq_true rfl) rfl ?_
      subst he
      exact r_weak (L1 := [some (.ref 60), some (.int x1), some (.int (0 : Int32))]) ⟨rfl, rfl, rfl, trivial⟩ (lp_X12_fillsHeap_23 fu _ _ _ _ hk)
    · rw [if_neg c_5] at he
      replace hk := hk.2 c_5
      refine r_aload_n rfl rfl ?_
      refine q_getfield rfl (cc_60 _) rfl ?_
      refine r_iload_n rfl rfl ?_
      refine r_iconst_ (a := 0) rfl (by decide) ?_
      obtain ⟨hb5, hk⟩ := hk
      refine w_iast rfl (cc_102 _) hb5 ?_
      refine r_iinc (b := x2 + 1) rfl rfl rfl (Nat.le_of_ble_eq_true rfl) rfl ?_
      refine r_goto rfl ?_
      subst he
      exact r_weak (L1 := [some (.ref 60), some (.int x1), some (.int (x2 + 1))]) ⟨rfl, rfl, rfl, trivial⟩ (ih _ _ _ _ hk)

def f_X12_fillsHeap (v0 : Int32) (s : fl_I) (l : fl_L) : fl_I × fl_L :=
  f_X12_fillsHeap_2 fu v0 (0 : Int32) s l

def p_X12_fillsHeap (v0 : Int32) (s : fl_I) (l : fl_L) : Prop :=
  p_X12_fillsHeap_2 fu v0 (0 : Int32) s l

set_option maxRecDepth 100000 in
set_option maxHeartbeats 4000000 in
theorem s_X12_fillsHeap {G : ab_G} {d : Nat} {D : fl_D} {s : fl_I} {l : fl_L} {v0 : Int32} (hk : p_X12_fillsHeap v0 s l) : ab_C G d 0 0 M_X12_fillsHeap 0 (ab_ent [.ref 60, .int v0]) [] (hp D s l) (rt none (hp D (f_X12_fillsHeap v0 s l).1 (f_X12_fillsHeap v0 s l).2)) := by
  generalize he : (f_X12_fillsHeap v0 s l) = res
  unfold f_X12_fillsHeap at he
  unfold p_X12_fillsHeap at hk
  refine r_weak (L1 := [some (.ref 60), some (.int v0), none]) ⟨rfl, rfl, trivial⟩ ?_
  refine r_iconst_ (a := 0) rfl (by decide) ?_
  refine r_istore_n rfl (Nat.le_of_ble_eq_true rfl) rfl ?_
  subst he
  exact r_weak (L1 := [some (.ref 60), some (.int v0), some (.int (0 : Int32))]) ⟨rfl, rfl, rfl, trivial⟩ (lp_X12_fillsHeap_2 fu _ _ _ _ hk)

def f_X12_sign_104 (s : fl_I) (l : fl_L) : Int32 × fl_I × fl_L :=
    ((1 : Int32), s, l)

def p_X12_sign_104 (s : fl_I) (l : fl_L) : Prop :=
    True

set_option maxRecDepth 100000 in
set_option maxHeartbeats 4000000 in
theorem lp_X12_sign_104 {G : ab_G} {d : Nat} {D : fl_D} : ∀ (s : fl_I) (l : fl_L), p_X12_sign_104  s l → ab_C G (d + 1) 0 0 M_X12_sign 104 [none, none, none, none, none] [] (hp D s l) (rt (some (.int (f_X12_sign_104  s l).1)) (hp D (f_X12_sign_104  s l).2.1 (f_X12_sign_104  s l).2.2)) := by
  intro  s l hk
  generalize he : f_X12_sign_104  s l = res
  unfold f_X12_sign_104 at he
  unfold p_X12_sign_104 at hk
  refine r_iconst_ (a := 1) rfl (by decide) ?_
  refine r_iret rfl rfl rfl ?_
  subst he
  exact ⟨rfl, rfl⟩

def f_X12_sign_95 (x1 : Int32) (x4 : Int32) (s : fl_I) (l : fl_L) : Int32 × fl_I × fl_L :=
    f_X12_sign_104  (f_X12_token x4 x1 (0 : Int32) (0 : Int64) s l).1 (f_X12_token x4 x1 (0 : Int32) (0 : Int64) s l).2

def p_X12_sign_95 (x1 : Int32) (x4 : Int32) (s : fl_I) (l : fl_L) : Prop :=
    (p_X12_token x4 x1 (0 : Int32) (0 : Int64) s l) ∧ p_X12_sign_104  (f_X12_token x4 x1 (0 : Int32) (0 : Int64) s l).1 (f_X12_token x4 x1 (0 : Int32) (0 : Int64) s l).2

set_option maxRecDepth 100000 in
set_option maxHeartbeats 4000000 in
theorem lp_X12_sign_95 {G : ab_G} {d : Nat} {D : fl_D} : ∀ (x1 : Int32) (x4 : Int32) (s : fl_I) (l : fl_L), p_X12_sign_95 x1 x4 s l → ab_C G (d + 1) 0 0 M_X12_sign 95 [some (.ref 60), some (.int x1), none, none, some (.int x4)] [] (hp D s l) (rt (some (.int (f_X12_sign_95 x1 x4 s l).1)) (hp D (f_X12_sign_95 x1 x4 s l).2.1 (f_X12_sign_95 x1 x4 s l).2.2)) := by
  intro x1 x4 s l hk
  generalize he : f_X12_sign_95 x1 x4 s l = res
  unfold f_X12_sign_95 at he
  unfold p_X12_sign_95 at hk
  refine r_aload_n rfl rfl ?_
  refine r_iload rfl rfl ?_
  refine r_iload_n rfl rfl ?_
  refine r_iconst_ (a := 0) rfl (by decide) ?_
  refine r_lconst (a := 0) rfl (by decide) ?_
  obtain ⟨hb0, hk⟩ := hk
  refine q_callV0 [_, _, _, _] _ rfl kY_X12_token kT_X12_token rfl rfl (Nat.le_of_ble_eq_true rfl) (Nat.le_of_ble_eq_true rfl) (cc_60 _) (s_X12_token hb0) (fun r h q => ?_)
  obtain ⟨rfl, rfl⟩ := q
  simp only [Option.toList, List.cons_append, List.nil_append]
  subst he
  exact r_weak (L1 := [none, none, none, none, none]) trivial (lp_X12_sign_104 _ _ hk)

def f_X12_sign_85 (x1 : Int32) (x2 : Int32) (x4 : Int32) (s : fl_I) (l : fl_L) : Int32 × fl_I × fl_L :=
    if (x2 = (60 : Int32)) then f_X12_sign_95 x1 (13 : Int32) s l else f_X12_sign_95 x1 x4 s l

def p_X12_sign_85 (x1 : Int32) (x2 : Int32) (x4 : Int32) (s : fl_I) (l : fl_L) : Prop :=
    (((x2 = (60 : Int32)) → p_X12_sign_95 x1 (13 : Int32) s l) ∧ (¬ (x2 = (60 : Int32)) → p_X12_sign_95 x1 x4 s l))

set_option maxRecDepth 100000 in
set_option maxHeartbeats 4000000 in
theorem lp_X12_sign_85 {G : ab_G} {d : Nat} {D : fl_D} : ∀ (x1 : Int32) (x2 : Int32) (x4 : Int32) (s : fl_I) (l : fl_L), p_X12_sign_85 x1 x2 x4 s l → ab_C G (d + 1) 0 0 M_X12_sign 85 [some (.ref 60), some (.int x1), some (.int x2), none, some (.int x4)] [] (hp D s l) (rt (some (.int (f_X12_sign_85 x1 x2 x4 s l).1)) (hp D (f_X12_sign_85 x1 x2 x4 s l).2.1 (f_X12_sign_85 x1 x2 x4 s l).2.2)) := by
  intro x1 x2 x4 s l hk
  generalize he : f_X12_sign_85 x1 x2 x4 s l = res
  unfold f_X12_sign_85 at he
  unfold p_X12_sign_85 at hk
  refine r_iload_n rfl rfl ?_
  refine r_bipush_ (a := 60) rfl (by decide) ?_
  refine r_icmp_ne rfl (fun c_88 => ?_) (fun c_88 => ?_)
  · rw [if_neg c_88] at he
    replace hk := hk.2 c_88
    subst he
    exact r_weak (L1 := [some (.ref 60), some (.int x1), none, none, some (.int x4)]) ⟨rfl, rfl, rfl, trivial⟩ (lp_X12_sign_95 _ _ _ _ hk)
  · rw [if_pos c_88] at he
    replace hk := hk.1 c_88
    refine r_bipush_ (a := 13) rfl (by decide) ?_
    refine r_istore rfl (Nat.le_of_ble_eq_true rfl) rfl ?_
    subst he
    exact r_weak (L1 := [some (.ref 60), some (.int x1), none, none, some (.int (13 : Int32))]) ⟨rfl, rfl, rfl, trivial⟩ (lp_X12_sign_95 _ _ _ _ hk)

def f_X12_sign_75 (x1 : Int32) (x2 : Int32) (x4 : Int32) (s : fl_I) (l : fl_L) : Int32 × fl_I × fl_L :=
    if (x2 = (47 : Int32)) then f_X12_sign_85 x1 x2 (15 : Int32) s l else f_X12_sign_85 x1 x2 x4 s l

def p_X12_sign_75 (x1 : Int32) (x2 : Int32) (x4 : Int32) (s : fl_I) (l : fl_L) : Prop :=
    (((x2 = (47 : Int32)) → p_X12_sign_85 x1 x2 (15 : Int32) s l) ∧ (¬ (x2 = (47 : Int32)) → p_X12_sign_85 x1 x2 x4 s l))

set_option maxRecDepth 100000 in
set_option maxHeartbeats 4000000 in
theorem lp_X12_sign_75 {G : ab_G} {d : Nat} {D : fl_D} : ∀ (x1 : Int32) (x2 : Int32) (x4 : Int32) (s : fl_I) (l : fl_L), p_X12_sign_75 x1 x2 x4 s l → ab_C G (d + 1) 0 0 M_X12_sign 75 [some (.ref 60), some (.int x1), some (.int x2), none, some (.int x4)] [] (hp D s l) (rt (some (.int (f_X12_sign_75 x1 x2 x4 s l).1)) (hp D (f_X12_sign_75 x1 x2 x4 s l).2.1 (f_X12_sign_75 x1 x2 x4 s l).2.2)) := by
  intro x1 x2 x4 s l hk
  generalize he : f_X12_sign_75 x1 x2 x4 s l = res
  unfold f_X12_sign_75 at he
  unfold p_X12_sign_75 at hk
  refine r_iload_n rfl rfl ?_
  refine r_bipush_ (a := 47) rfl (by decide) ?_
  refine r_icmp_ne rfl (fun c_78 => ?_) (fun c_78 => ?_)
  · rw [if_neg c_78] at he
    replace hk := hk.2 c_78
    subst he
    exact r_weak (L1 := [some (.ref 60), some (.int x1), some (.int x2), none, some (.int x4)]) ⟨rfl, rfl, rfl, rfl, trivial⟩ (lp_X12_sign_85 _ _ _ _ _ hk)
  · rw [if_pos c_78] at he
    replace hk := hk.1 c_78
    refine r_bipush_ (a := 15) rfl (by decide) ?_
    refine r_istore rfl (Nat.le_of_ble_eq_true rfl) rfl ?_
    subst he
    exact r_weak (L1 := [some (.ref 60), some (.int x1), some (.int x2), none, some (.int (15 : Int32))]) ⟨rfl, rfl, rfl, rfl, trivial⟩ (lp_X12_sign_85 _ _ _ _ _ hk)

def f_X12_sign_65 (x1 : Int32) (x2 : Int32) (x4 : Int32) (s : fl_I) (l : fl_L) : Int32 × fl_I × fl_L :=
    if (x2 = (42 : Int32)) then f_X12_sign_75 x1 x2 (10 : Int32) s l else f_X12_sign_75 x1 x2 x4 s l

def p_X12_sign_65 (x1 : Int32) (x2 : Int32) (x4 : Int32) (s : fl_I) (l : fl_L) : Prop :=
    (((x2 = (42 : Int32)) → p_X12_sign_75 x1 x2 (10 : Int32) s l) ∧ (¬ (x2 = (42 : Int32)) → p_X12_sign_75 x1 x2 x4 s l))

set_option maxRecDepth 100000 in
set_option maxHeartbeats 4000000 in
theorem lp_X12_sign_65 {G : ab_G} {d : Nat} {D : fl_D} : ∀ (x1 : Int32) (x2 : Int32) (x4 : Int32) (s : fl_I) (l : fl_L), p_X12_sign_65 x1 x2 x4 s l → ab_C G (d + 1) 0 0 M_X12_sign 65 [some (.ref 60), some (.int x1), some (.int x2), none, some (.int x4)] [] (hp D s l) (rt (some (.int (f_X12_sign_65 x1 x2 x4 s l).1)) (hp D (f_X12_sign_65 x1 x2 x4 s l).2.1 (f_X12_sign_65 x1 x2 x4 s l).2.2)) := by
  intro x1 x2 x4 s l hk
  generalize he : f_X12_sign_65 x1 x2 x4 s l = res
  unfold f_X12_sign_65 at he
  unfold p_X12_sign_65 at hk
  refine r_iload_n rfl rfl ?_
  refine r_bipush_ (a := 42) rfl (by decide) ?_
  refine r_icmp_ne rfl (fun c_68 => ?_) (fun c_68 => ?_)
  · rw [if_neg c_68] at he
    replace hk := hk.2 c_68
    subst he
    exact r_weak (L1 := [some (.ref 60), some (.int x1), some (.int x2), none, some (.int x4)]) ⟨rfl, rfl, rfl, rfl, trivial⟩ (lp_X12_sign_75 _ _ _ _ _ hk)
  · rw [if_pos c_68] at he
    replace hk := hk.1 c_68
    refine r_bipush_ (a := 10) rfl (by decide) ?_
    refine r_istore rfl (Nat.le_of_ble_eq_true rfl) rfl ?_
    subst he
    exact r_weak (L1 := [some (.ref 60), some (.int x1), some (.int x2), none, some (.int (10 : Int32))]) ⟨rfl, rfl, rfl, rfl, trivial⟩ (lp_X12_sign_75 _ _ _ _ _ hk)

def f_X12_sign_55 (x1 : Int32) (x2 : Int32) (x4 : Int32) (s : fl_I) (l : fl_L) : Int32 × fl_I × fl_L :=
    if (x2 = (45 : Int32)) then f_X12_sign_65 x1 x2 (9 : Int32) s l else f_X12_sign_65 x1 x2 x4 s l

def p_X12_sign_55 (x1 : Int32) (x2 : Int32) (x4 : Int32) (s : fl_I) (l : fl_L) : Prop :=
    (((x2 = (45 : Int32)) → p_X12_sign_65 x1 x2 (9 : Int32) s l) ∧ (¬ (x2 = (45 : Int32)) → p_X12_sign_65 x1 x2 x4 s l))

set_option maxRecDepth 100000 in
set_option maxHeartbeats 4000000 in
theorem lp_X12_sign_55 {G : ab_G} {d : Nat} {D : fl_D} : ∀ (x1 : Int32) (x2 : Int32) (x4 : Int32) (s : fl_I) (l : fl_L), p_X12_sign_55 x1 x2 x4 s l → ab_C G (d + 1) 0 0 M_X12_sign 55 [some (.ref 60), some (.int x1), some (.int x2), none, some (.int x4)] [] (hp D s l) (rt (some (.int (f_X12_sign_55 x1 x2 x4 s l).1)) (hp D (f_X12_sign_55 x1 x2 x4 s l).2.1 (f_X12_sign_55 x1 x2 x4 s l).2.2)) := by
  intro x1 x2 x4 s l hk
  generalize he : f_X12_sign_55 x1 x2 x4 s l = res
  unfold f_X12_sign_55 at he
  unfold p_X12_sign_55 at hk
  refine r_iload_n rfl rfl ?_
  refine r_bipush_ (a := 45) rfl (by decide) ?_
  refine r_icmp_ne rfl (fun c_58 => ?_) (fun c_58 => ?_)
  · rw [if_neg c_58] at he
    replace hk := hk.2 c_58
    subst he
    exact r_weak (L1 := [some (.ref 60), some (.int x1), some (.int x2), none, some (.int x4)]) ⟨rfl, rfl, rfl, rfl, trivial⟩ (lp_X12_sign_65 _ _ _ _ _ hk)
  · rw [if_pos c_58] at he
    replace hk := hk.1 c_58
    refine r_bipush_ (a := 9) rfl (by decide) ?_
    refine r_istore rfl (Nat.le_of_ble_eq_true rfl) rfl ?_
    subst he
    exact r_weak (L1 := [some (.ref 60), some (.int x1), some (.int x2), none, some (.int (9 : Int32))]) ⟨rfl, rfl, rfl, rfl, trivial⟩ (lp_X12_sign_65 _ _ _ _ _ hk)

def f_X12_sign (v0 : Int32) (v1 : Int32) (v2 : Int32) (s : fl_I) (l : fl_L) : Int32 × fl_I × fl_L :=
  if (v1 = (59 : Int32)) then if (v1 = (43 : Int32)) then f_X12_sign_55 v0 v1 (8 : Int32) s l else f_X12_sign_55 v0 v1 (4 : Int32) s l else if (v1 = (61 : Int32)) then if (v1 = (43 : Int32)) then f_X12_sign_55 v0 v1 (8 : Int32) s l else f_X12_sign_55 v0 v1 (5 : Int32) s l else if (v1 = (40 : Int32)) then if (v1 = (43 : Int32)) then f_X12_sign_55 v0 v1 (8 : Int32) s l else f_X12_sign_55 v0 v1 (6 : Int32) s l else if (v1 = (41 : Int32)) then if (v1 = (43 : Int32)) then f_X12_sign_55 v0 v1 (8 : Int32) s l else f_X12_sign_55 v0 v1 (7 : Int32) s l else if (v1 = (43 : Int32)) then f_X12_sign_55 v0 v1 (8 : Int32) s l else f_X12_sign_55 v0 v1 (3 : Int32) s l

def p_X12_sign (v0 : Int32) (v1 : Int32) (v2 : Int32) (s : fl_I) (l : fl_L) : Prop :=
  (((v1 = (59 : Int32)) → (((v1 = (43 : Int32)) → p_X12_sign_55 v0 v1 (8 : Int32) s l) ∧ (¬ (v1 = (43 : Int32)) → p_X12_sign_55 v0 v1 (4 : Int32) s l))) ∧ (¬ (v1 = (59 : Int32)) → (((v1 = (61 : Int32)) → (((v1 = (43 : Int32)) → p_X12_sign_55 v0 v1 (8 : Int32) s l) ∧ (¬ (v1 = (43 : Int32)) → p_X12_sign_55 v0 v1 (5 : Int32) s l))) ∧ (¬ (v1 = (61 : Int32)) → (((v1 = (40 : Int32)) → (((v1 = (43 : Int32)) → p_X12_sign_55 v0 v1 (8 : Int32) s l) ∧ (¬ (v1 = (43 : Int32)) → p_X12_sign_55 v0 v1 (6 : Int32) s l))) ∧ (¬ (v1 = (40 : Int32)) → (((v1 = (41 : Int32)) → (((v1 = (43 : Int32)) → p_X12_sign_55 v0 v1 (8 : Int32) s l) ∧ (¬ (v1 = (43 : Int32)) → p_X12_sign_55 v0 v1 (7 : Int32) s l))) ∧ (¬ (v1 = (41 : Int32)) → (((v1 = (43 : Int32)) → p_X12_sign_55 v0 v1 (8 : Int32) s l) ∧ (¬ (v1 = (43 : Int32)) → p_X12_sign_55 v0 v1 (3 : Int32) s l))))))))))

set_option maxRecDepth 100000 in
set_option maxHeartbeats 4000000 in
theorem s_X12_sign {G : ab_G} {d : Nat} {D : fl_D} {s : fl_I} {l : fl_L} {v0 : Int32} {v1 : Int32} {v2 : Int32} (hk : p_X12_sign v0 v1 v2 s l) : ab_C G (d + 1) 0 0 M_X12_sign 0 (ab_ent [.ref 60, .int v0, .int v1, .int v2]) [] (hp D s l) (rt (some (.int (f_X12_sign v0 v1 v2 s l).1)) (hp D (f_X12_sign v0 v1 v2 s l).2.1 (f_X12_sign v0 v1 v2 s l).2.2)) := by
  generalize he : (f_X12_sign v0 v1 v2 s l) = res
  unfold f_X12_sign at he
  unfold p_X12_sign at hk
  refine r_weak (L1 := [some (.ref 60), some (.int v0), some (.int v1), some (.int v2), none]) ⟨rfl, rfl, rfl, rfl, trivial⟩ ?_
  refine r_iload_n rfl rfl ?_
  refine r_bipush_ (a := 59) rfl (by decide) ?_
  refine r_icmp_ne rfl (fun c_3 => ?_) (fun c_3 => ?_)
  · rw [if_neg c_3] at he
    replace hk := hk.2 c_3
    refine r_iload_n rfl rfl ?_
    refine r_bipush_ (a := 61) rfl (by decide) ?_
    refine r_icmp_ne rfl (fun c_13 => ?_) (fun c_13 => ?_)
    · rw [if_neg c_13] at he
      replace hk := hk.2 c_13
      refine r_iload_n rfl rfl ?_
      refine r_bipush_ (a := 40) rfl (by decide) ?_
      refine r_icmp_ne rfl (fun c_23 => ?_) (fun c_23 => ?_)
      · rw [if_neg c_23] at he
        replace hk := hk.2 c_23
        refine r_iload_n rfl rfl ?_
        refine r_bipush_ (a := 41) rfl (by decide) ?_
        refine r_icmp_ne rfl (fun c_34 => ?_) (fun c_34 => ?_)
        · rw [if_neg c_34] at he
          replace hk := hk.2 c_34
          refine r_iconst_ (a := 3) rfl (by decide) ?_
          refine r_istore rfl (Nat.le_of_ble_eq_true rfl) rfl ?_
          refine r_iload_n rfl rfl ?_
          refine r_bipush_ (a := 43) rfl (by decide) ?_
          refine r_icmp_ne rfl (fun c_48 => ?_) (fun c_48 => ?_)
          · rw [if_neg c_48] at he
            replace hk := hk.2 c_48
            subst he
            exact r_weak (L1 := [some (.ref 60), some (.int v0), some (.int v1), none, some (.int (3 : Int32))]) ⟨rfl, rfl, rfl, rfl, trivial⟩ (lp_X12_sign_55 _ _ _ _ _ hk)
          · rw [if_pos c_48] at he
            replace hk := hk.1 c_48
            refine r_bipush_ (a := 8) rfl (by decide) ?_
            refine r_istore rfl (Nat.le_of_ble_eq_true rfl) rfl ?_
            subst he
            exact r_weak (L1 := [some (.ref 60), some (.int v0), some (.int v1), none, some (.int (8 : Int32))]) ⟨rfl, rfl, rfl, rfl, trivial⟩ (lp_X12_sign_55 _ _ _ _ _ hk)
        · rw [if_pos c_34] at he
          replace hk := hk.1 c_34
          refine r_bipush_ (a := 7) rfl (by decide) ?_
          refine r_goto rfl ?_
          refine r_istore rfl (Nat.le_of_ble_eq_true rfl) rfl ?_
          refine r_iload_n rfl rfl ?_
          refine r_bipush_ (a := 43) rfl (by decide) ?_
          refine r_icmp_ne rfl (fun c_48 => ?_) (fun c_48 => ?_)
          · rw [if_neg c_48] at he
            replace hk := hk.2 c_48
            subst he
            exact r_weak (L1 := [some (.ref 60), some (.int v0), some (.int v1), none, some (.int (7 : Int32))]) ⟨rfl, rfl, rfl, rfl, trivial⟩ (lp_X12_sign_55 _ _ _ _ _ hk)
          · rw [if_pos c_48] at he
            replace hk := hk.1 c_48
            refine r_bipush_ (a := 8) rfl (by decide) ?_
            refine r_istore rfl (Nat.le_of_ble_eq_true rfl) rfl ?_
            subst he
            exact r_weak (L1 := [some (.ref 60), some (.int v0), some (.int v1), none, some (.int (8 : Int32))]) ⟨rfl, rfl, rfl, rfl, trivial⟩ (lp_X12_sign_55 _ _ _ _ _ hk)
      · rw [if_pos c_23] at he
        replace hk := hk.1 c_23
        refine r_bipush_ (a := 6) rfl (by decide) ?_
        refine r_goto rfl ?_
        refine r_istore rfl (Nat.le_of_ble_eq_true rfl) rfl ?_
        refine r_iload_n rfl rfl ?_
        refine r_bipush_ (a := 43) rfl (by decide) ?_
        refine r_icmp_ne rfl (fun c_48 => ?_) (fun c_48 => ?_)
        · rw [if_neg c_48] at he
          replace hk := hk.2 c_48
          subst he
          exact r_weak (L1 := [some (.ref 60), some (.int v0), some (.int v1), none, some (.int (6 : Int32))]) ⟨rfl, rfl, rfl, rfl, trivial⟩ (lp_X12_sign_55 _ _ _ _ _ hk)
        · rw [if_pos c_48] at he
          replace hk := hk.1 c_48
          refine r_bipush_ (a := 8) rfl (by decide) ?_
          refine r_istore rfl (Nat.le_of_ble_eq_true rfl) rfl ?_
          subst he
          exact r_weak (L1 := [some (.ref 60), some (.int v0), some (.int v1), none, some (.int (8 : Int32))]) ⟨rfl, rfl, rfl, rfl, trivial⟩ (lp_X12_sign_55 _ _ _ _ _ hk)
    · rw [if_pos c_13] at he
      replace hk := hk.1 c_13
      refine r_iconst_ (a := 5) rfl (by decide) ?_
      refine r_goto rfl ?_
      refine r_istore rfl (Nat.le_of_ble_eq_true rfl) rfl ?_
      refine r_iload_n rfl rfl ?_
      refine r_bipush_ (a := 43) rfl (by decide) ?_
      refine r_icmp_ne rfl (fun c_48 => ?_) (fun c_48 => ?_)
      · rw [if_neg c_48] at he
        replace hk := hk.2 c_48
        subst he
        exact r_weak (L1 := [some (.ref 60), some (.int v0), some (.int v1), none, some (.int (5 : Int32))]) ⟨rfl, rfl, rfl, rfl, trivial⟩ (lp_X12_sign_55 _ _ _ _ _ hk)
      · rw [if_pos c_48] at he
        replace hk := hk.1 c_48
        refine r_bipush_ (a := 8) rfl (by decide) ?_
        refine r_istore rfl (Nat.le_of_ble_eq_true rfl) rfl ?_
        subst he
        exact r_weak (L1 := [some (.ref 60), some (.int v0), some (.int v1), none, some (.int (8 : Int32))]) ⟨rfl, rfl, rfl, rfl, trivial⟩ (lp_X12_sign_55 _ _ _ _ _ hk)
  · rw [if_pos c_3] at he
    replace hk := hk.1 c_3
    refine r_iconst_ (a := 4) rfl (by decide) ?_
    refine r_goto rfl ?_
    refine r_istore rfl (Nat.le_of_ble_eq_true rfl) rfl ?_
    refine r_iload_n rfl rfl ?_
    refine r_bipush_ (a := 43) rfl (by decide) ?_
    refine r_icmp_ne rfl (fun c_48 => ?_) (fun c_48 => ?_)
    · rw [if_neg c_48] at he
      replace hk := hk.2 c_48
      subst he
      exact r_weak (L1 := [some (.ref 60), some (.int v0), some (.int v1), none, some (.int (4 : Int32))]) ⟨rfl, rfl, rfl, rfl, trivial⟩ (lp_X12_sign_55 _ _ _ _ _ hk)
    · rw [if_pos c_48] at he
      replace hk := hk.1 c_48
      refine r_bipush_ (a := 8) rfl (by decide) ?_
      refine r_istore rfl (Nat.le_of_ble_eq_true rfl) rfl ?_
      subst he
      exact r_weak (L1 := [some (.ref 60), some (.int v0), some (.int v1), none, some (.int (8 : Int32))]) ⟨rfl, rfl, rfl, rfl, trivial⟩ (lp_X12_sign_55 _ _ _ _ _ hk)

def f_X12_records_52 : Nat → Int32 → fl_I → fl_L → fl_I × fl_L
  | 0, x1, s, l => (s, l)
  | n + 1, x1, s, l =>
    if ((141 : Int32) ≤ x1) then ((f_X12_keepsRow (wi s 60 58 ((s 60 58) + (1 : Int32))) l).1, (f_X12_keepsRow (wi s 60 58 ((s 60 58) + (1 : Int32))) l).2) else f_X12_records_52 n (x1 + 1) (wi s 99 (((141 : Int32) * (s 60 58)) + x1).toNatClampNeg (s 94 x1.toNatClampNeg)) l

def p_X12_records_52 : Nat → Int32 → fl_I → fl_L → Prop
  | 0, _, _, _ => False
  | n + 1, x1, s, l =>
    ((((141 : Int32) ≤ x1) → (p_X12_keepsRow (wi s 60 58 ((s 60 58) + (1 : Int32))) l) ∧ True) ∧ (¬ ((141 : Int32) ≤ x1) → (vp_in x1 141) ∧ (vp_in (((141 : Int32) * (s 60 58)) + x1) 5640) ∧ p_X12_records_52 n (x1 + 1) (wi s 99 (((141 : Int32) * (s 60 58)) + x1).toNatClampNeg (s 94 x1.toNatClampNeg)) l))

set_option maxRecDepth 100000 in
set_option maxHeartbeats 4000000 in
theorem lp_X12_records_52 {G : ab_G} {d : Nat} {D : fl_D} : ∀ (n : Nat) (x1 : Int32) (s : fl_I) (l : fl_L), p_X12_records_52 n x1 s l → ab_C G (d + 1) 0 0 M_X12_records 52 [some (.ref 60), some (.int x1)] [] (hp D s l) (rt none (hp D (f_X12_records_52 n x1 s l).1 (f_X12_records_52 n x1 s l).2)) := by
  intro n
  induction n with
  | zero => intro x1 s l hk; exact hk.elim
  | succ n ih =>
    intro x1 s l hk
    generalize he : f_X12_records_52 (n + 1) x1 s l = res
    unfold f_X12_records_52 at he
    unfold p_X12_records_52 at hk
    refine r_iload_n rfl rfl ?_
    refine r_sipush_ (a := 141) rfl (by decide) ?_
    refine r_icmp_ge rfl (fun c_56 => ?_) (fun c_56 => ?_)
    · rw [if_pos c_56] at he
      replace hk := hk.1 c_56
      refine r_aload_n rfl rfl ?_
      refine r_dup rfl rfl ?_
      refine q_getfield rfl (cc_60 _) rfl ?_
      refine r_iconst_ (a := 1) rfl (by decide) ?_
      refine r_iadd rfl ?_
      refine w_put rfl (cc_60 _) ff_12_58 ft_12_58 (Nat.le_of_ble_eq_true rfl) rfl ?_
      refine r_aload_n rfl rfl ?_
      obtain ⟨hb0, hk⟩ := hk
      refine q_callV0 [] _ rfl kY_X12_keepsRow kT_X12_keepsRow rfl rfl (Nat.le_of_ble_eq_true rfl) (Nat.le_of_ble_eq_true rfl) (cc_60 _) (s_X12_keepsRow hb0) (fun r h q => ?_)
      obtain ⟨rfl, rfl⟩ := q
      simp only [Option.toList, List.cons_append, List.nil_append]
      refine r_ret rfl rfl ?_
      subst he
      exact ⟨rfl, rfl⟩
    · rw [if_neg c_56] at he
      replace hk := hk.2 c_56
      refine r_aload_n rfl rfl ?_
      refine q_getfield rfl (cc_60 _) rfl ?_
      refine r_sipush_ (a := 141) rfl (by decide) ?_
      refine r_aload_n rfl rfl ?_
      refine q_getfield rfl (cc_60 _) rfl ?_
      refine r_imul rfl ?_
      refine r_iload_n rfl rfl ?_
      refine r_iadd rfl ?_
      refine r_aload_n rfl rfl ?_
      refine q_getfield rfl (cc_60 _) rfl ?_
      refine r_iload_n rfl rfl ?_
      obtain ⟨hb1, hk⟩ := hk
      refine q_iald rfl (cc_94 _) hb1 ?_
      obtain ⟨hb2, hk⟩ := hk
      refine w_iast rfl (cc_99 _) hb2 ?_
      refine r_iinc (b := x1 + 1) rfl rfl rfl (Nat.le_of_ble_eq_true rfl) rfl ?_
      refine r_goto rfl ?_
      subst he
      exact r_weak (L1 := [some (.ref 60), some (.int (x1 + 1))]) ⟨rfl, rfl, trivial⟩ (ih _ _ _ hk)

def f_X12_records_11 : Nat → Int32 → fl_I → fl_L → fl_I × fl_L
  | 0, x1, s, l => (s, l)
  | n + 1, x1, s, l =>
    if ((5499 : Int32) ≤ x1) then f_X12_records_52 fu (0 : Int32) (wi s 60 58 ((s 60 58) - (1 : Int32))) l else f_X12_records_11 n (x1 + 1) (wi s 99 x1.toNatClampNeg (s 99 (x1 + (141 : Int32)).toNatClampNeg)) l

def p_X12_records_11 : Nat → Int32 → fl_I → fl_L → Prop
  | 0, _, _, _ => False
  | n + 1, x1, s, l =>
    ((((5499 : Int32) ≤ x1) → p_X12_records_52 fu (0 : Int32) (wi s 60 58 ((s 60 58) - (1 : Int32))) l) ∧ (¬ ((5499 : Int32) ≤ x1) → (vp_in (x1 + (141 : Int32)) 5640) ∧ (vp_in x1 5640) ∧ p_X12_records_11 n (x1 + 1) (wi s 99 x1.toNatClampNeg (s 99 (x1 + (141 : Int32)).toNatClampNeg)) l))

set_option maxRecDepth 100000 in
set_option maxHeartbeats 4000000 in
theorem lp_X12_records_11 {G : ab_G} {d : Nat} {D : fl_D} : ∀ (n : Nat) (x1 : Int32) (s : fl_I) (l : fl_L), p_X12_records_11 n x1 s l → ab_C G (d + 1) 0 0 M_X12_records 11 [some (.ref 60), some (.int x1)] [] (hp D s l) (rt none (hp D (f_X12_records_11 n x1 s l).1 (f_X12_records_11 n x1 s l).2)) := by
  intro n
  induction n with
  | zero => intro x1 s l hk; exact hk.elim
  | succ n ih =>
    intro x1 s l hk
    generalize he : f_X12_records_11 (n + 1) x1 s l = res
    unfold f_X12_records_11 at he
    unfold p_X12_records_11 at hk
    refine r_iload_n rfl rfl ?_
    refine r_sipush_ (a := 5499) rfl (by decide) ?_
    refine r_icmp_ge rfl (fun c_15 => ?_) (fun c_15 => ?_)
    · rw [if_pos c_15] at he
      replace hk := hk.1 c_15
      refine r_aload_n rfl rfl ?_
      refine r_dup rfl rfl ?_
      refine q_getfield rfl (cc_60 _) rfl ?_
      refine r_iconst_ (a := 1) rfl (by decide) ?_
      refine r_isub rfl ?_
      refine w_put rfl (cc_60 _) ff_12_58 ft_12_58 (Nat.le_of_ble_eq_true rfl) rfl ?_
      refine r_iconst_ (a := 0) rfl (by decide) ?_
      refine r_istore_n rfl (Nat.le_of_ble_eq_true rfl) rfl ?_
      subst he
      exact r_weak (L1 := [some (.ref 60), some (.int (0 : Int32))]) ⟨rfl, rfl, trivial⟩ (lp_X12_records_52 fu _ _ _ hk)
    · rw [if_neg c_15] at he
      replace hk := hk.2 c_15
      refine r_aload_n rfl rfl ?_
      refine q_getfield rfl (cc_60 _) rfl ?_
      refine r_iload_n rfl rfl ?_
      refine r_aload_n rfl rfl ?_
      refine q_getfield rfl (cc_60 _) rfl ?_
      refine r_iload_n rfl rfl ?_
      refine r_sipush_ (a := 141) rfl (by decide) ?_
      refine r_iadd rfl ?_
      obtain ⟨hb3, hk⟩ := hk
      refine q_iald rfl (cc_99 _) hb3 ?_
      obtain ⟨hb4, hk⟩ := hk
      refine w_iast rfl (cc_99 _) hb4 ?_
      refine r_iinc (b := x1 + 1) rfl rfl rfl (Nat.le_of_ble_eq_true rfl) rfl ?_
      refine r_goto rfl ?_
      subst he
      exact r_weak (L1 := [some (.ref 60), some (.int (x1 + 1))]) ⟨rfl, rfl, trivial⟩ (ih _ _ _ hk)

def f_X12_records (s : fl_I) (l : fl_L) : fl_I × fl_L :=
  if ((s 60 58) = (40 : Int32)) then f_X12_records_11 fu (0 : Int32) s l else f_X12_records_52 fu (0 : Int32) s l

def p_X12_records (s : fl_I) (l : fl_L) : Prop :=
  ((((s 60 58) = (40 : Int32)) → p_X12_records_11 fu (0 : Int32) s l) ∧ (¬ ((s 60 58) = (40 : Int32)) → p_X12_records_52 fu (0 : Int32) s l))

set_option maxRecDepth 100000 in
set_option maxHeartbeats 4000000 in
theorem s_X12_records {G : ab_G} {d : Nat} {D : fl_D} {s : fl_I} {l : fl_L}  (hk : p_X12_records s l) : ab_C G (d + 1) 0 0 M_X12_records 0 (ab_ent [.ref 60]) [] (hp D s l) (rt none (hp D (f_X12_records s l).1 (f_X12_records s l).2)) := by
  generalize he : (f_X12_records s l) = res
  unfold f_X12_records at he
  unfold p_X12_records at hk
  refine r_weak (L1 := [some (.ref 60), none]) ⟨rfl, trivial⟩ ?_
  refine r_aload_n rfl rfl ?_
  refine q_getfield rfl (cc_60 _) rfl ?_
  refine r_bipush_ (a := 40) rfl (by decide) ?_
  refine r_icmp_ne rfl (fun c_6 => ?_) (fun c_6 => ?_)
  · rw [if_neg c_6] at he
    replace hk := hk.2 c_6
    refine r_iconst_ (a := 0) rfl (by decide) ?_
    refine r_istore_n rfl (Nat.le_of_ble_eq_true rfl) rfl ?_
    subst he
    exact r_weak (L1 := [some (.ref 60), some (.int (0 : Int32))]) ⟨rfl, rfl, trivial⟩ (lp_X12_records_52 fu _ _ _ hk)
  · rw [if_pos c_6] at he
    replace hk := hk.1 c_6
    refine r_iconst_ (a := 0) rfl (by decide) ?_
    refine r_istore_n rfl (Nat.le_of_ble_eq_true rfl) rfl ?_
    subst he
    exact r_weak (L1 := [some (.ref 60), some (.int (0 : Int32))]) ⟨rfl, rfl, trivial⟩ (lp_X12_records_11 fu _ _ _ hk)

def f_X5_clear_97 (t : Nat) (s : fl_I) (l : fl_L) : fl_I × fl_L :=
    (s, l)

def p_X5_clear_97 (t : Nat) (s : fl_I) (l : fl_L) : Prop :=
    True

set_option maxRecDepth 100000 in
set_option maxHeartbeats 4000000 in
theorem lp_X5_clear_97 {G : ab_G} {d : Nat} {D : fl_D} {t : Nat} (htt : isT t) : ∀ (s : fl_I) (l : fl_L), p_X5_clear_97  t s l → ab_C G (d + 1) 0 0 M_X5_clear 97 [none] [] (hp D s l) (rt none (hp D (f_X5_clear_97  t s l).1 (f_X5_clear_97  t s l).2)) := by
  intro  s l hk
  generalize he : f_X5_clear_97  t s l = res
  unfold f_X5_clear_97 at he
  unfold p_X5_clear_97 at hk
  refine r_ret rfl rfl ?_
  subst he
  exact ⟨rfl, rfl⟩

def f_X5_clear_91 (t : Nat) (s : fl_I) (l : fl_L) : fl_I × fl_L :=
    f_X5_clear_97  t (f_X5_addCode (-6 : Int32) t s l).1 (f_X5_addCode (-6 : Int32) t s l).2

def p_X5_clear_91 (t : Nat) (s : fl_I) (l : fl_L) : Prop :=
    (p_X5_addCode (-6 : Int32) t s l) ∧ p_X5_clear_97  t (f_X5_addCode (-6 : Int32) t s l).1 (f_X5_addCode (-6 : Int32) t s l).2

set_option maxRecDepth 100000 in
set_option maxHeartbeats 4000000 in
theorem lp_X5_clear_91 {G : ab_G} {d : Nat} {D : fl_D} {t : Nat} (htt : isT t) : ∀ (s : fl_I) (l : fl_L), p_X5_clear_91  t s l → ab_C G (d + 1) 0 0 M_X5_clear 91 [some (.ref t)] [] (hp D s l) (rt none (hp D (f_X5_clear_91  t s l).1 (f_X5_clear_91  t s l).2)) := by
  intro  s l hk
  generalize he : f_X5_clear_91  t s l = res
  unfold f_X5_clear_91 at he
  unfold p_X5_clear_91 at hk
  refine r_aload_n rfl rfl ?_
  refine r_bipush_ (a := -6) rfl (by decide) ?_
  obtain ⟨hb3, hk⟩ := hk
  refine q_callV0 [_] _ rfl kY_X5_addCode kT_X5_addCode rfl rfl (Nat.le_of_ble_eq_true rfl) (Nat.le_of_ble_eq_true rfl) (cT_0 htt) (s_X5_addCode htt hb3) (fun r h q => ?_)
  obtain ⟨rfl, rfl⟩ := q
  simp only [Option.toList, List.cons_append, List.nil_append]
  subst he
  exact r_weak (L1 := [none]) trivial (lp_X5_clear_97 htt _ _ hk)

def f_X5_clear_66 (t : Nat) (s : fl_I) (l : fl_L) : fl_I × fl_L :=
    f_X5_clear_91  t (f_X5_addCode (1 : Int32) t (wi (wi s (t + 10) (1 : Int32).toNatClampNeg (s t 14)) (t + 10) (2 : Int32).toNatClampNeg ((wi s (t + 10) (1 : Int32).toNatClampNeg (s t 14)) t 14)) l).1 (f_X5_addCode (1 : Int32) t (wi (wi s (t + 10) (1 : Int32).toNatClampNeg (s t 14)) (t + 10) (2 : Int32).toNatClampNeg ((wi s (t + 10) (1 : Int32).toNatClampNeg (s t 14)) t 14)) l).2

def p_X5_clear_66 (t : Nat) (s : fl_I) (l : fl_L) : Prop :=
    (p_X5_addCode (1 : Int32) t (wi (wi s (t + 10) (1 : Int32).toNatClampNeg (s t 14)) (t + 10) (2 : Int32).toNatClampNeg ((wi s (t + 10) (1 : Int32).toNatClampNeg (s t 14)) t 14)) l) ∧ p_X5_clear_91  t (f_X5_addCode (1 : Int32) t (wi (wi s (t + 10) (1 : Int32).toNatClampNeg (s t 14)) (t + 10) (2 : Int32).toNatClampNeg ((wi s (t + 10) (1 : Int32).toNatClampNeg (s t 14)) t 14)) l).1 (f_X5_addCode (1 : Int32) t (wi (wi s (t + 10) (1 : Int32).toNatClampNeg (s t 14)) (t + 10) (2 : Int32).toNatClampNeg ((wi s (t + 10) (1 : Int32).toNatClampNeg (s t 14)) t 14)) l).2

set_option maxRecDepth 100000 in
set_option maxHeartbeats 4000000 in
theorem lp_X5_clear_66 {G : ab_G} {d : Nat} {D : fl_D} {t : Nat} (htt : isT t) : ∀ (s : fl_I) (l : fl_L), p_X5_clear_66  t s l → ab_C G (d + 1) 0 0 M_X5_clear 66 [some (.ref t)] [] (hp D s l) (rt none (hp D (f_X5_clear_66  t s l).1 (f_X5_clear_66  t s l).2)) := by
  intro  s l hk
  generalize he : f_X5_clear_66  t s l = res
  unfold f_X5_clear_66 at he
  unfold p_X5_clear_66 at hk
  refine r_aload_n rfl rfl ?_
  refine q_getfield rfl (cT_0 htt) rfl ?_
  refine r_iconst_ (a := 1) rfl (by decide) ?_
  refine r_aload_n rfl rfl ?_
  refine q_getfield rfl (cT_0 htt) rfl ?_
  refine w_iast rfl (cT_10 htt) (by unfold vp_in; decide) ?_
  refine r_aload_n rfl rfl ?_
  refine q_getfield rfl (cT_0 htt) rfl ?_
  refine r_iconst_ (a := 2) rfl (by decide) ?_
  refine r_aload_n rfl rfl ?_
  refine q_getfield rfl (cT_0 htt) rfl ?_
  refine w_iast rfl (cT_10 htt) (by unfold vp_in; decide) ?_
  refine r_aload_n rfl rfl ?_
  refine r_iconst_ (a := 1) rfl (by decide) ?_
  obtain ⟨hb2, hk⟩ := hk
  refine q_callV0 [_] _ rfl kY_X5_addCode kT_X5_addCode rfl rfl (Nat.le_of_ble_eq_true rfl) (Nat.le_of_ble_eq_true rfl) (cT_0 htt) (s_X5_addCode htt hb2) (fun r h q => ?_)
  obtain ⟨rfl, rfl⟩ := q
  simp only [Option.toList, List.cons_append, List.nil_append]
  subst he
  exact r_weak (L1 := [some (.ref t)]) ⟨rfl, trivial⟩ (lp_X5_clear_91 htt _ _ hk)

def f_X5_clear_60 (t : Nat) (s : fl_I) (l : fl_L) : fl_I × fl_L :=
    f_X5_clear_66  t (f_X5_addCode (-6 : Int32) t s l).1 (f_X5_addCode (-6 : Int32) t s l).2

def p_X5_clear_60 (t : Nat) (s : fl_I) (l : fl_L) : Prop :=
    (p_X5_addCode (-6 : Int32) t s l) ∧ p_X5_clear_66  t (f_X5_addCode (-6 : Int32) t s l).1 (f_X5_addCode (-6 : Int32) t s l).2

set_option maxRecDepth 100000 in
set_option maxHeartbeats 4000000 in
theorem lp_X5_clear_60 {G : ab_G} {d : Nat} {D : fl_D} {t : Nat} (htt : isT t) : ∀ (s : fl_I) (l : fl_L), p_X5_clear_60  t s l → ab_C G (d + 1) 0 0 M_X5_clear 60 [some (.ref t)] [] (hp D s l) (rt none (hp D (f_X5_clear_60  t s l).1 (f_X5_clear_60  t s l).2)) := by
  intro  s l hk
  generalize he : f_X5_clear_60  t s l = res
  unfold f_X5_clear_60 at he
  unfold p_X5_clear_60 at hk
  refine r_aload_n rfl rfl ?_
  refine r_bipush_ (a := -6) rfl (by decide) ?_
  obtain ⟨hb1, hk⟩ := hk
  refine q_callV0 [_] _ rfl kY_X5_addCode kT_X5_addCode rfl rfl (Nat.le_of_ble_eq_true rfl) (Nat.le_of_ble_eq_true rfl) (cT_0 htt) (s_X5_addCode htt hb1) (fun r h q => ?_)
  obtain ⟨rfl, rfl⟩ := q
  simp only [Option.toList, List.cons_append, List.nil_append]
  subst he
  exact r_weak (L1 := [some (.ref t)]) ⟨rfl, trivial⟩ (lp_X5_clear_66 htt _ _ hk)

def f_X5_clear (t : Nat) (s : fl_I) (l : fl_L) : fl_I × fl_L :=
  f_X5_clear_60  t (f_X5_addCode (0 : Int32) t (wi (wi (wi (wi (wi (wi (wi (wi (wi (wi s t 0 (0 : Int32)) t 1 (0 : Int32)) t 2 (0 : Int32)) t 3 (0 : Int32)) t 15 (1 : Int32)) t 16 (0 : Int32)) t 17 (0 : Int32)) t 18 (0 : Int32)) t 14 (0 : Int32)) (t + 10) (0 : Int32).toNatClampNeg ((wi (wi (wi (wi (wi (wi (wi (wi (wi s t 0 (0 : Int32)) t 1 (0 : Int32)) t 2 (0 : Int32)) t 3 (0 : Int32)) t 15 (1 : Int32)) t 16 (0 : Int32)) t 17 (0 : Int32)) t 18 (0 : Int32)) t 14 (0 : Int32)) t 14)) l).1 (f_X5_addCode (0 : Int32) t (wi (wi (wi (wi (wi (wi (wi (wi (wi (wi s t 0 (0 : Int32)) t 1 (0 : Int32)) t 2 (0 : Int32)) t 3 (0 : Int32)) t 15 (1 : Int32)) t 16 (0 : Int32)) t 17 (0 : Int32)) t 18 (0 : Int32)) t 14 (0 : Int32)) (t + 10) (0 : Int32).toNatClampNeg ((wi (wi (wi (wi (wi (wi (wi (wi (wi s t 0 (0 : Int32)) t 1 (0 : Int32)) t 2 (0 : Int32)) t 3 (0 : Int32)) t 15 (1 : Int32)) t 16 (0 : Int32)) t 17 (0 : Int32)) t 18 (0 : Int32)) t 14 (0 : Int32)) t 14)) l).2

def p_X5_clear (t : Nat) (s : fl_I) (l : fl_L) : Prop :=
  (p_X5_addCode (0 : Int32) t (wi (wi (wi (wi (wi (wi (wi (wi (wi (wi s t 0 (0 : Int32)) t 1 (0 : Int32)) t 2 (0 : Int32)) t 3 (0 : Int32)) t 15 (1 : Int32)) t 16 (0 : Int32)) t 17 (0 : Int32)) t 18 (0 : Int32)) t 14 (0 : Int32)) (t + 10) (0 : Int32).toNatClampNeg ((wi (wi (wi (wi (wi (wi (wi (wi (wi s t 0 (0 : Int32)) t 1 (0 : Int32)) t 2 (0 : Int32)) t 3 (0 : Int32)) t 15 (1 : Int32)) t 16 (0 : Int32)) t 17 (0 : Int32)) t 18 (0 : Int32)) t 14 (0 : Int32)) t 14)) l) ∧ p_X5_clear_60  t (f_X5_addCode (0 : Int32) t (wi (wi (wi (wi (wi (wi (wi (wi (wi (wi s t 0 (0 : Int32)) t 1 (0 : Int32)) t 2 (0 : Int32)) t 3 (0 : Int32)) t 15 (1 : Int32)) t 16 (0 : Int32)) t 17 (0 : Int32)) t 18 (0 : Int32)) t 14 (0 : Int32)) (t + 10) (0 : Int32).toNatClampNeg ((wi (wi (wi (wi (wi (wi (wi (wi (wi s t 0 (0 : Int32)) t 1 (0 : Int32)) t 2 (0 : Int32)) t 3 (0 : Int32)) t 15 (1 : Int32)) t 16 (0 : Int32)) t 17 (0 : Int32)) t 18 (0 : Int32)) t 14 (0 : Int32)) t 14)) l).1 (f_X5_addCode (0 : Int32) t (wi (wi (wi (wi (wi (wi (wi (wi (wi (wi s t 0 (0 : Int32)) t 1 (0 : Int32)) t 2 (0 : Int32)) t 3 (0 : Int32)) t 15 (1 : Int32)) t 16 (0 : Int32)) t 17 (0 : Int32)) t 18 (0 : Int32)) t 14 (0 : Int32)) (t + 10) (0 : Int32).toNatClampNeg ((wi (wi (wi (wi (wi (wi (wi (wi (wi s t 0 (0 : Int32)) t 1 (0 : Int32)) t 2 (0 : Int32)) t 3 (0 : Int32)) t 15 (1 : Int32)) t 16 (0 : Int32)) t 17 (0 : Int32)) t 18 (0 : Int32)) t 14 (0 : Int32)) t 14)) l).2

set_option maxRecDepth 100000 in
set_option maxHeartbeats 4000000 in
theorem s_X5_clear {G : ab_G} {d : Nat} {D : fl_D} {s : fl_I} {l : fl_L} {t : Nat} (htt : isT t)  (hk : p_X5_clear t s l) : ab_C G (d + 1) 0 0 M_X5_clear 0 (ab_ent [.ref t]) [] (hp D s l) (rt none (hp D (f_X5_clear t s l).1 (f_X5_clear t s l).2)) := by
  generalize he : (f_X5_clear t s l) = res
  unfold f_X5_clear at he
  unfold p_X5_clear at hk
  refine r_weak (L1 := [some (.ref t)]) ⟨rfl, trivial⟩ ?_
  refine r_aload_n rfl rfl ?_
  refine r_iconst_ (a := 0) rfl (by decide) ?_
  refine w_put rfl (cT_0 htt) ff_5_0 ft_5_0 (Nat.le_of_ble_eq_true rfl) rfl ?_
  refine r_aload_n rfl rfl ?_
  refine r_iconst_ (a := 0) rfl (by decide) ?_
  refine w_put rfl (cT_0 htt) ff_5_1 ft_5_1 (Nat.le_of_ble_eq_true rfl) rfl ?_
  refine r_aload_n rfl rfl ?_
  refine r_iconst_ (a := 0) rfl (by decide) ?_
  refine w_put rfl (cT_0 htt) ff_5_2 ft_5_2 (Nat.le_of_ble_eq_true rfl) rfl ?_
  refine r_aload_n rfl rfl ?_
  refine r_iconst_ (a := 0) rfl (by decide) ?_
  refine w_put rfl (cT_0 htt) ff_5_3 ft_5_3 (Nat.le_of_ble_eq_true rfl) rfl ?_
  refine r_aload_n rfl rfl ?_
  refine r_iconst_ (a := 1) rfl (by decide) ?_
  refine w_put rfl (cT_0 htt) ff_5_15 ft_5_15 (Nat.le_of_ble_eq_true rfl) rfl ?_
  refine r_aload_n rfl rfl ?_
  refine r_iconst_ (a := 0) rfl (by decide) ?_
  refine w_put rfl (cT_0 htt) ff_5_16 ft_5_16 (Nat.le_of_ble_eq_true rfl) rfl ?_
  refine r_aload_n rfl rfl ?_
  refine r_iconst_ (a := 0) rfl (by decide) ?_
  refine w_put rfl (cT_0 htt) ff_5_17 ft_5_17 (Nat.le_of_ble_eq_true rfl) rfl ?_
  refine r_aload_n rfl rfl ?_
  refine r_iconst_ (a := 0) rfl (by decide) ?_
  refine w_put rfl (cT_0 htt) ff_5_18 ft_5_18 (Nat.le_of_ble_eq_true rfl) rfl ?_
  refine r_aload_n rfl rfl ?_
  refine r_iconst_ (a := 0) rfl (by decide) ?_
  refine w_put rfl (cT_0 htt) ff_5_14 ft_5_14 (Nat.le_of_ble_eq_true rfl) rfl ?_
  refine r_aload_n rfl rfl ?_
  refine q_getfield rfl (cT_0 htt) rfl ?_
  refine r_iconst_ (a := 0) rfl (by decide) ?_
  refine r_aload_n rfl rfl ?_
  refine q_getfield rfl (cT_0 htt) rfl ?_
  refine w_iast rfl (cT_10 htt) (by unfold vp_in; decide) ?_
  refine r_aload_n rfl rfl ?_
  refine r_iconst_ (a := 0) rfl (by decide) ?_
  obtain ⟨hb0, hk⟩ := hk
  refine q_callV0 [_] _ rfl kY_X5_addCode kT_X5_addCode rfl rfl (Nat.le_of_ble_eq_true rfl) (Nat.le_of_ble_eq_true rfl) (cT_0 htt) (s_X5_addCode htt hb0) (fun r h q => ?_)
  obtain ⟨rfl, rfl⟩ := q
  simp only [Option.toList, List.cons_append, List.nil_append]
  subst he
  exact r_weak (L1 := [some (.ref t)]) ⟨rfl, trivial⟩ (lp_X5_clear_60 htt _ _ hk)

def f_X12_roundFrom_11 : Nat → Int32 → Int32 → Int32 → Int32 → fl_I → fl_L → Int32 × fl_I × fl_L
  | 0, x1, x2, x3, x4, s, l => (0, s, l)
  | n + 1, x1, x2, x3, x4, s, l =>
    if ((s 60 60) ≤ x4) then (x3, s, l) else if (((x2 >>> (x4 &&& 31)) &&& (1 : Int32)) = 0) then f_X12_roundFrom_11 n x1 x2 x3 (x4 + 1) s l else if ((s 60 63) < 0) then f_X12_roundFrom_11 n x1 x2 ((f_X12_stepsOff x1 (s 100 x4.toNatClampNeg)) + (s 101 (((10 : Int32) * (x2 &&& (((1 : Int32) <<< (x4 &&& 31)) ^^^ (-1 : Int32)))) + x4).toNatClampNeg)) (x4 + 1) (wi s 60 63 (s 100 x4.toNatClampNeg)) l else if (((f_X12_stepsOff x1 (s 100 x4.toNatClampNeg)) + (s 101 (((10 : Int32) * (x2 &&& (((1 : Int32) <<< (x4 &&& 31)) ^^^ (-1 : Int32)))) + x4).toNatClampNeg)) < x3) then f_X12_roundFrom_11 n x1 x2 ((f_X12_stepsOff x1 (s 100 x4.toNatClampNeg)) + (s 101 (((10 : Int32) * (x2 &&& (((1 : Int32) <<< (x4 &&& 31)) ^^^ (-1 : Int32)))) + x4).toNatClampNeg)) (x4 + 1) (wi s 60 63 (s 100 x4.toNatClampNeg)) l else f_X12_roundFrom_11 n x1 x2 x3 (x4 + 1) s l

def p_X12_roundFrom_11 : Nat → Int32 → Int32 → Int32 → Int32 → fl_I → fl_L → Prop
  | 0, _, _, _, _, _, _ => False
  | n + 1, x1, x2, x3, x4, s, l =>
    ((((s 60 60) ≤ x4) → True) ∧ (¬ ((s 60 60) ≤ x4) → (((((x2 >>> (x4 &&& 31)) &&& (1 : Int32)) = 0) → p_X12_roundFrom_11 n x1 x2 x3 (x4 + 1) s l) ∧ (¬ (((x2 >>> (x4 &&& 31)) &&& (1 : Int32)) = 0) → (vp_in x4 80) ∧ (p_X12_stepsOff x1 (s 100 x4.toNatClampNeg)) ∧ (vp_in (((10 : Int32) * (x2 &&& (((1 : Int32) <<< (x4 &&& 31)) ^^^ (-1 : Int32)))) + x4) 10240) ∧ ((((s 60 63) < 0) → (vp_in x4 80) ∧ p_X12_roundFrom_11 n x1 x2 ((f_X12_stepsOff x1 (s 100 x4.toNatClampNeg)) + (s 101 (((10 : Int32) * (x2 &&& (((1 : Int32) <<< (x4 &&& 31)) ^^^ (-1 : Int32)))) + x4).toNatClampNeg)) (x4 + 1) (wi s 60 63 (s 100 x4.toNatClampNeg)) l) ∧ (¬ ((s 60 63) < 0) → (((((f_X12_stepsOff x1 (s 100 x4.toNatClampNeg)) + (s 101 (((10 : Int32) * (x2 &&& (((1 : Int32) <<< (x4 &&& 31)) ^^^ (-1 : Int32)))) + x4).toNatClampNeg)) < x3) → (vp_in x4 80) ∧ p_X12_roundFrom_11 n x1 x2 ((f_X12_stepsOff x1 (s 100 x4.toNatClampNeg)) + (s 101 (((10 : Int32) * (x2 &&& (((1 : Int32) <<< (x4 &&& 31)) ^^^ (-1 : Int32)))) + x4).toNatClampNeg)) (x4 + 1) (wi s 60 63 (s 100 x4.toNatClampNeg)) l) ∧ (¬ (((f_X12_stepsOff x1 (s 100 x4.toNatClampNeg)) + (s 101 (((10 : Int32) * (x2 &&& (((1 : Int32) <<< (x4 &&& 31)) ^^^ (-1 : Int32)))) + x4).toNatClampNeg)) < x3) → p_X12_roundFrom_11 n x1 x2 x3 (x4 + 1) s l))))))))

set_option maxRecDepth 100000 in
set_option maxHeartbeats 4000000 in
theorem lp_X12_roundFrom_11 {G : ab_G} {d : Nat} {D : fl_D} : ∀ (n : Nat) (x1 : Int32) (x2 : Int32) (x3 : Int32) (x4 : Int32) (s : fl_I) (l : fl_L), p_X12_roundFrom_11 n x1 x2 x3 x4 s l → ab_C G (d + 2) 0 0 M_X12_roundFrom 11 [some (.ref 60), some (.int x1), some (.int x2), some (.int x3), some (.int x4), none] [] (hp D s l) (rt (some (.int (f_X12_roundFrom_11 n x1 x2 x3 x4 s l).1)) (hp D (f_X12_roundFrom_11 n x1 x2 x3 x4 s l).2.1 (f_X12_roundFrom_11 n x1 x2 x3 x4 s l).2.2)) := by
  intro n
  induction n with
  | zero => intro x1 x2 x3 x4 s l hk; exact hk.elim
  | succ n ih =>
    intro x1 x2 x3 x4 s l hk
    generalize he : f_X12_roundFrom_11 (n + 1) x1 x2 x3 x4 s l = res
    unfold f_X12_roundFrom_11 at he
    unfold p_X12_roundFrom_11 at hk
    refine r_iload rfl rfl ?_
    refine r_aload_n rfl rfl ?_
    refine q_getfield rfl (cc_60 _) rfl ?_
    refine r_icmp_ge rfl (fun c_17 => ?_) (fun c_17 => ?_)
    · rw [if_pos c_17] at he
      replace hk := hk.1 c_17
      refine r_iload_n rfl rfl ?_
      refine r_iret rfl rfl rfl ?_
      subst he
      exact ⟨rfl, rfl⟩
    · rw [if_neg c_17] at he
      replace hk := hk.2 c_17
      refine r_iload_n rfl rfl ?_
      refine r_iload rfl rfl ?_
      refine r_ishr rfl ?_
      refine r_iconst_ (a := 1) rfl (by decide) ?_
      refine r_iand rfl ?_
      refine r_if_ne rfl (fun c_26 => ?_) (fun c_26 => ?_)
      · rw [if_neg c_26] at he
        replace hk := hk.2 c_26
        refine r_iload_n rfl rfl ?_
        refine r_aload_n rfl rfl ?_
        refine q_getfield rfl (cc_60 _) rfl ?_
        refine r_iload rfl rfl ?_
        obtain ⟨hb0, hk⟩ := hk
        refine q_iald rfl (cc_100 _) hb0 ?_
        obtain ⟨hb1, hk⟩ := hk
        refine r_callS0 [_, _] _ rfl kY_X12_stepsOff kT_X12_stepsOff rfl rfl (Nat.le_of_ble_eq_true rfl) (Nat.le_of_ble_eq_true rfl) (s_X12_stepsOff hb1) (fun r h q => ?_)
        obtain ⟨rfl, rfl⟩ := q
        simp only [Option.toList, List.cons_append, List.nil_append]
        refine r_aload_n rfl rfl ?_
        refine q_getfield rfl (cc_60 _) rfl ?_
        refine r_bipush_ (a := 10) rfl (by decide) ?_
        refine r_iload_n rfl rfl ?_
        refine r_iconst_ (a := 1) rfl (by decide) ?_
        refine r_iload rfl rfl ?_
        refine r_ishl rfl ?_
        refine r_iconst_ (a := -1) rfl (by decide) ?_
        refine r_ixor rfl ?_
        refine r_iand rfl ?_
        refine r_imul rfl ?_
        refine r_iload rfl rfl ?_
        refine r_iadd rfl ?_
        obtain ⟨hb2, hk⟩ := hk
        refine q_iald rfl (cc_101 _) hb2 ?_
        refine r_iadd rfl ?_
        refine r_istore rfl (Nat.le_of_ble_eq_true rfl) rfl ?_
        refine r_aload_n rfl rfl ?_
        refine q_getfield rfl (cc_60 _) rfl ?_
        refine r_if_lt rfl (fun c_69 => ?_) (fun c_69 => ?_)
        · rw [if_pos c_69] at he
          replace hk := hk.1 c_69
          refine r_iload rfl rfl ?_
          refine r_istore_n rfl (Nat.le_of_ble_eq_true rfl) rfl ?_
          refine r_aload_n rfl rfl ?_
          refine r_aload_n rfl rfl ?_
          refine q_getfield rfl (cc_60 _) rfl ?_
          refine r_iload rfl rfl ?_
          obtain ⟨hb3, hk⟩ := hk
          refine q_iald rfl (cc_100 _) hb3 ?_
          refine w_put rfl (cc_60 _) ff_12_63 ft_12_63 (Nat.le_of_ble_eq_true rfl) rfl ?_
          refine r_iinc (b := x4 + 1) rfl rfl rfl (Nat.le_of_ble_eq_true rfl) rfl ?_
          refine r_goto rfl ?_
          subst he
          exact r_weak (L1 := [some (.ref 60), some (.int x1), some (.int x2), some (.int ((f_X12_stepsOff x1 (s 100 x4.toNatClampNeg)) + (s 101 (((10 : Int32) * (x2 &&& (((1 : Int32) <<< (x4 &&& 31)) ^^^ (-1 : Int32)))) + x4).toNatClampNeg))), some (.int (x4 + 1)), none]) ⟨rfl, rfl, rfl, rfl, rfl, trivial⟩ (ih _ _ _ _ _ _ hk)
        · rw [if_neg c_69] at he
          replace hk := hk.2 c_69
          refine r_iload rfl rfl ?_
          refine r_iload_n rfl rfl ?_
          refine r_icmp_lt rfl (fun c_75 => ?_) (fun c_75 => ?_)
          · rw [if_pos c_75] at he
            replace hk := hk.1 c_75
            refine r_iload rfl rfl ?_
            refine r_istore_n rfl (Nat.le_of_ble_eq_true rfl) rfl ?_
            refine r_aload_n rfl rfl ?_
            refine r_aload_n rfl rfl ?_
            refine q_getfield rfl (cc_60 _) rfl ?_
            refine r_iload rfl rfl ?_
            obtain ⟨hb4, hk⟩ := hk
            refine q_iald rfl (cc_100 _) hb4 ?_
            refine w_put rfl (cc_60 _) ff_12_63 ft_12_63 (Nat.le_of_ble_eq_true rfl) rfl ?_
            refine r_iinc (b := x4 + 1) rfl rfl rfl (Nat.le_of_ble_eq_true rfl) rfl ?_
            refine r_goto rfl ?_
            subst he
            exact r_weak (L1 := [some (.ref 60), some (.int x1), some (.int x2), some (.int ((f_X12_stepsOff x1 (s 100 x4.toNatClampNeg)) + (s 101 (((10 : Int32) * (x2 &&& (((1 : Int32) <<< (x4 &&& 31)) ^^^ (-1 : Int32)))) + x4).toNatClampNeg))), some (.int (x4 + 1)), none]) ⟨rfl, rfl, rfl, rfl, rfl, trivial⟩ (ih _ _ _ _ _ _ hk)
          · rw [if_neg c_75] at he
            replace hk := hk.2 c_75
            refine r_goto rfl ?_
            refine r_iinc (b := x4 + 1) rfl rfl rfl (Nat.le_of_ble_eq_true rfl) rfl ?_
            refine r_goto rfl ?_
            subst he
            exact r_weak (L1 := [some (.ref 60), some (.int x1), some (.int x2), some (.int x3), some (.int (x4 + 1)), none]) ⟨rfl, rfl, rfl, rfl, rfl, trivial⟩ (ih _ _ _ _ _ _ hk)
      · rw [if_pos c_26] at he
        replace hk := hk.1 c_26
        refine r_goto rfl ?_
        refine r_iinc (b := x4 + 1) rfl rfl rfl (Nat.le_of_ble_eq_true rfl) rfl ?_
        refine r_goto rfl ?_
        subst he
        exact r_weak (L1 := [some (.ref 60), some (.int x1), some (.int x2), some (.int x3), some (.int (x4 + 1)), none]) ⟨rfl, rfl, rfl, rfl, rfl, trivial⟩ (ih _ _ _ _ _ _ hk)

def f_X12_roundFrom (v0 : Int32) (v1 : Int32) (s : fl_I) (l : fl_L) : Int32 × fl_I × fl_L :=
  f_X12_roundFrom_11 fu v0 v1 (0 : Int32) (0 : Int32) (wi s 60 63 (-2 : Int32)) l

def p_X12_roundFrom (v0 : Int32) (v1 : Int32) (s : fl_I) (l : fl_L) : Prop :=
  p_X12_roundFrom_11 fu v0 v1 (0 : Int32) (0 : Int32) (wi s 60 63 (-2 : Int32)) l

set_option maxRecDepth 100000 in
set_option maxHeartbeats 4000000 in
theorem s_X12_roundFrom {G : ab_G} {d : Nat} {D : fl_D} {s : fl_I} {l : fl_L} {v0 : Int32} {v1 : Int32} (hk : p_X12_roundFrom v0 v1 s l) : ab_C G (d + 2) 0 0 M_X12_roundFrom 0 (ab_ent [.ref 60, .int v0, .int v1]) [] (hp D s l) (rt (some (.int (f_X12_roundFrom v0 v1 s l).1)) (hp D (f_X12_roundFrom v0 v1 s l).2.1 (f_X12_roundFrom v0 v1 s l).2.2)) := by
  generalize he : (f_X12_roundFrom v0 v1 s l) = res
  unfold f_X12_roundFrom at he
  unfold p_X12_roundFrom at hk
  refine r_weak (L1 := [some (.ref 60), some (.int v0), some (.int v1), none, none, none]) ⟨rfl, rfl, rfl, trivial⟩ ?_
  refine r_aload_n rfl rfl ?_
  refine r_bipush_ (a := -2) rfl (by decide) ?_
  refine w_put rfl (cc_60 _) ff_12_63 ft_12_63 (Nat.le_of_ble_eq_true rfl) rfl ?_
  refine r_iconst_ (a := 0) rfl (by decide) ?_
  refine r_istore_n rfl (Nat.le_of_ble_eq_true rfl) rfl ?_
  refine r_iconst_ (a := 0) rfl (by decide) ?_
  refine r_istore rfl (Nat.le_of_ble_eq_true rfl) rfl ?_
  subst he
  exact r_weak (L1 := [some (.ref 60), some (.int v0), some (.int v1), some (.int (0 : Int32)), some (.int (0 : Int32)), none]) ⟨rfl, rfl, rfl, rfl, rfl, trivial⟩ (lp_X12_roundFrom_11 fu _ _ _ _ _ _ hk)

def f_X12_give_39 : Nat → Int32 → Int32 → Int32 → Int32 → Int32 → fl_I → fl_L → Int32 × fl_I × fl_L
  | 0, x1, x2, x3, x4, x5, s, l => (0, s, l)
  | n + 1, x1, x2, x3, x4, x5, s, l =>
    if ((s 60 54) ≤ x5) then (x3, (f_X12_records s l).1, (f_X12_records s l).2) else if ((s 95 ((64 : Int32) + x5).toNatClampNeg) = x1) then if ((x4 + x3) = (s 78 (((4 : Int32) * (s 60 18)) + x2).toNatClampNeg)) then f_X12_give_39 n x1 x2 x3 x4 (x5 + 1) s l else f_X12_give_39 n x1 x2 (x3 + 1) x4 (x5 + 1) (wi s 95 ((64 : Int32) + x5).toNatClampNeg x2) l else f_X12_give_39 n x1 x2 x3 x4 (x5 + 1) s l

def p_X12_give_39 : Nat → Int32 → Int32 → Int32 → Int32 → Int32 → fl_I → fl_L → Prop
  | 0, _, _, _, _, _, _, _ => False
  | n + 1, x1, x2, x3, x4, x5, s, l =>
    ((((s 60 54) ≤ x5) → (p_X12_records s l) ∧ True) ∧ (¬ ((s 60 54) ≤ x5) → (vp_in ((64 : Int32) + x5) 141) ∧ ((((s 95 ((64 : Int32) + x5).toNatClampNeg) = x1) → (vp_in (((4 : Int32) * (s 60 18)) + x2) 8) ∧ ((((x4 + x3) = (s 78 (((4 : Int32) * (s 60 18)) + x2).toNatClampNeg)) → p_X12_give_39 n x1 x2 x3 x4 (x5 + 1) s l) ∧ (¬ ((x4 + x3) = (s 78 (((4 : Int32) * (s 60 18)) + x2).toNatClampNeg)) → (vp_in ((64 : Int32) + x5) 141) ∧ p_X12_give_39 n x1 x2 (x3 + 1) x4 (x5 + 1) (wi s 95 ((64 : Int32) + x5).toNatClampNeg x2) l))) ∧ (¬ ((s 95 ((64 : Int32) + x5).toNatClampNeg) = x1) → p_X12_give_39 n x1 x2 x3 x4 (x5 + 1) s l))))

set_option maxRecDepth 100000 in
set_option maxHeartbeats 4000000 in
theorem lp_X12_give_39 {G : ab_G} {d : Nat} {D : fl_D} : ∀ (n : Nat) (x1 : Int32) (x2 : Int32) (x3 : Int32) (x4 : Int32) (x5 : Int32) (s : fl_I) (l : fl_L), p_X12_give_39 n x1 x2 x3 x4 x5 s l → ab_C G (d + 2) 0 0 M_X12_give 39 [some (.ref 60), some (.int x1), some (.int x2), some (.int x3), some (.int x4), some (.int x5)] [] (hp D s l) (rt (some (.int (f_X12_give_39 n x1 x2 x3 x4 x5 s l).1)) (hp D (f_X12_give_39 n x1 x2 x3 x4 x5 s l).2.1 (f_X12_give_39 n x1 x2 x3 x4 x5 s l).2.2)) := by
  intro n
  induction n with
  | zero => intro x1 x2 x3 x4 x5 s l hk; exact hk.elim
  | succ n ih =>
    intro x1 x2 x3 x4 x5 s l hk
    generalize he : f_X12_give_39 (n + 1) x1 x2 x3 x4 x5 s l = res
    unfold f_X12_give_39 at he
    unfold p_X12_give_39 at hk
    refine r_iload rfl rfl ?_
    refine r_aload_n rfl rfl ?_
    refine q_getfield rfl (cc_60 _) rfl ?_
    refine r_icmp_ge rfl (fun c_45 => ?_) (fun c_45 => ?_)
    · rw [if_pos c_45] at he
      replace hk := hk.1 c_45
      refine r_aload_n rfl rfl ?_
      obtain ⟨hb4, hk⟩ := hk
      refine q_callV0 [] _ rfl kY_X12_records kT_X12_records rfl rfl (Nat.le_of_ble_eq_true rfl) (Nat.le_of_ble_eq_true rfl) (cc_60 _) (s_X12_records hb4) (fun r h q => ?_)
      obtain ⟨rfl, rfl⟩ := q
      simp only [Option.toList, List.cons_append, List.nil_append]
      refine r_iload_n rfl rfl ?_
      refine r_iret rfl rfl rfl ?_
      subst he
      exact ⟨rfl, rfl⟩
    · rw [if_neg c_45] at he
      replace hk := hk.2 c_45
      refine r_aload_n rfl rfl ?_
      refine q_getfield rfl (cc_60 _) rfl ?_
      refine r_bipush_ (a := 64) rfl (by decide) ?_
      refine r_iload rfl rfl ?_
      refine r_iadd rfl ?_
      obtain ⟨hb5, hk⟩ := hk
      refine q_iald rfl (cc_95 _) hb5 ?_
      refine r_iload_n rfl rfl ?_
      refine r_icmp_ne rfl (fun c_59 => ?_) (fun c_59 => ?_)
      · rw [if_neg c_59] at he
        replace hk := hk.2 c_59
        refine r_iinc (b := x5 + 1) rfl rfl rfl (Nat.le_of_ble_eq_true rfl) rfl ?_
        refine r_goto rfl ?_
        subst he
        exact r_weak (L1 := [some (.ref 60), some (.int x1), some (.int x2), some (.int x3), some (.int x4), some (.int (x5 + 1))]) ⟨rfl, rfl, rfl, rfl, rfl, rfl, trivial⟩ (ih _ _ _ _ _ _ _ hk)
      · rw [if_pos c_59] at he
        replace hk := hk.1 c_59
        refine r_iload rfl rfl ?_
        refine r_iload_n rfl rfl ?_
        refine r_iadd rfl ?_
        refine r_aload_n rfl rfl ?_
        refine q_getfield rfl (cc_60 _) rfl ?_
        refine r_iconst_ (a := 4) rfl (by decide) ?_
        refine r_aload_n rfl rfl ?_
        refine q_getfield rfl (cc_60 _) rfl ?_
        refine r_imul rfl ?_
        refine r_iload_n rfl rfl ?_
        refine r_iadd rfl ?_
        obtain ⟨hb6, hk⟩ := hk
        refine q_iald rfl (cc_78 _) hb6 ?_
        refine r_icmp_ne rfl (fun c_79 => ?_) (fun c_79 => ?_)
        · rw [if_neg c_79] at he
          replace hk := hk.2 c_79
          refine r_aload_n rfl rfl ?_
          refine q_getfield rfl (cc_60 _) rfl ?_
          refine r_bipush_ (a := 64) rfl (by decide) ?_
          refine r_iload rfl rfl ?_
          refine r_iadd rfl ?_
          refine r_iload_n rfl rfl ?_
          obtain ⟨hb7, hk⟩ := hk
          refine w_iast rfl (cc_95 _) hb7 ?_
          refine r_iinc (b := x3 + 1) rfl rfl rfl (Nat.le_of_ble_eq_true rfl) rfl ?_
          refine r_iinc (b := x5 + 1) rfl rfl rfl (Nat.le_of_ble_eq_true rfl) rfl ?_
          refine r_goto rfl ?_
          subst he
          exact r_weak (L1 := [some (.ref 60), some (.int x1), some (.int x2), some (.int (x3 + 1)), some (.int x4), some (.int (x5 + 1))]) ⟨rfl, rfl, rfl, rfl, rfl, rfl, trivial⟩ (ih _ _ _ _ _ _ _ hk)
        · rw [if_pos c_79] at he
          replace hk := hk.1 c_79
          refine r_goto rfl ?_
          refine r_iinc (b := x5 + 1) rfl rfl rfl (Nat.le_of_ble_eq_true rfl) rfl ?_
          refine r_goto rfl ?_
          subst he
          exact r_weak (L1 := [some (.ref 60), some (.int x1), some (.int x2), some (.int x3), some (.int x4), some (.int (x5 + 1))]) ⟨rfl, rfl, rfl, rfl, rfl, rfl, trivial⟩ (ih _ _ _ _ _ _ _ hk)

def f_X12_give (v0 : Int32) (v1 : Int32) (s : fl_I) (l : fl_L) : Int32 × fl_I × fl_L :=
  if ((f_X12_isPicker v0 s l) = 0) then ((-1 : Int32), s, l) else if ((f_X12_isPicker v1 s l) = 0) then ((-1 : Int32), s, l) else if (v0 = v1) then ((-1 : Int32), s, l) else f_X12_give_39 fu v0 v1 (0 : Int32) (f_X12_inHat v1 (f_X12_copies s l).1 (f_X12_copies s l).2) (0 : Int32) (f_X12_copies s l).1 (f_X12_copies s l).2

def p_X12_give (v0 : Int32) (v1 : Int32) (s : fl_I) (l : fl_L) : Prop :=
  (p_X12_isPicker v0 s l) ∧ ((((f_X12_isPicker v0 s l) = 0) → True) ∧ (¬ ((f_X12_isPicker v0 s l) = 0) → (p_X12_isPicker v1 s l) ∧ ((((f_X12_isPicker v1 s l) = 0) → True) ∧ (¬ ((f_X12_isPicker v1 s l) = 0) → (((v0 = v1) → True) ∧ (¬ (v0 = v1) → (p_X12_copies s l) ∧ (p_X12_inHat v1 (f_X12_copies s l).1 (f_X12_copies s l).2) ∧ p_X12_give_39 fu v0 v1 (0 : Int32) (f_X12_inHat v1 (f_X12_copies s l).1 (f_X12_copies s l).2) (0 : Int32) (f_X12_copies s l).1 (f_X12_copies s l).2))))))

set_option maxRecDepth 100000 in
set_option maxHeartbeats 4000000 in
theorem s_X12_give {G : ab_G} {d : Nat} {D : fl_D} {s : fl_I} {l : fl_L} {v0 : Int32} {v1 : Int32} (hk : p_X12_give v0 v1 s l) : ab_C G (d + 2) 0 0 M_X12_give 0 (ab_ent [.ref 60, .int v0, .int v1]) [] (hp D s l) (rt (some (.int (f_X12_give v0 v1 s l).1)) (hp D (f_X12_give v0 v1 s l).2.1 (f_X12_give v0 v1 s l).2.2)) := by
  generalize he : (f_X12_give v0 v1 s l) = res
  unfold f_X12_give at he
  unfold p_X12_give at hk
  refine r_weak (L1 := [some (.ref 60), some (.int v0), some (.int v1), none, none, none]) ⟨rfl, rfl, rfl, trivial⟩ ?_
  refine r_aload_n rfl rfl ?_
  refine r_iload_n rfl rfl ?_
  obtain ⟨hb0, hk⟩ := hk
  refine q_callV0 [_] _ rfl kY_X12_isPicker kT_X12_isPicker rfl rfl (Nat.le_of_ble_eq_true rfl) (Nat.le_of_ble_eq_true rfl) (cc_60 _) (s_X12_isPicker hb0) (fun r h q => ?_)
  obtain ⟨rfl, rfl⟩ := q
  simp only [Option.toList, List.cons_append, List.nil_append]
  refine r_if_eq rfl (fun c_5 => ?_) (fun c_5 => ?_)
  · rw [if_pos c_5] at he
    replace hk := hk.1 c_5
    refine r_iconst_ (a := -1) rfl (by decide) ?_
    refine r_iret rfl rfl rfl ?_
    subst he
    exact ⟨rfl, rfl⟩
  · rw [if_neg c_5] at he
    replace hk := hk.2 c_5
    refine r_aload_n rfl rfl ?_
    refine r_iload_n rfl rfl ?_
    obtain ⟨hb1, hk⟩ := hk
    refine q_callV0 [_] _ rfl kY_X12_isPicker kT_X12_isPicker rfl rfl (Nat.le_of_ble_eq_true rfl) (Nat.le_of_ble_eq_true rfl) (cc_60 _) (s_X12_isPicker hb1) (fun r h q => ?_)
    obtain ⟨rfl, rfl⟩ := q
    simp only [Option.toList, List.cons_append, List.nil_append]
    refine r_if_eq rfl (fun c_13 => ?_) (fun c_13 => ?_)
    · rw [if_pos c_13] at he
      replace hk := hk.1 c_13
      refine r_iconst_ (a := -1) rfl (by decide) ?_
      refine r_iret rfl rfl rfl ?_
      subst he
      exact ⟨rfl, rfl⟩
    · rw [if_neg c_13] at he
      replace hk := hk.2 c_13
      refine r_iload_n rfl rfl ?_
      refine r_iload_n rfl rfl ?_
      refine r_icmp_ne rfl (fun c_18 => ?_) (fun c_18 => ?_)
      · rw [if_neg c_18] at he
        replace hk := hk.2 c_18
        refine r_aload_n rfl rfl ?_
        obtain ⟨hb2, hk⟩ := hk
        refine q_callV0 [] _ rfl kY_X12_copies kT_X12_copies rfl rfl (Nat.le_of_ble_eq_true rfl) (Nat.le_of_ble_eq_true rfl) (cc_60 _) (s_X12_copies hb2) (fun r h q => ?_)
        obtain ⟨rfl, rfl⟩ := q
        simp only [Option.toList, List.cons_append, List.nil_append]
        refine r_iconst_ (a := 0) rfl (by decide) ?_
        refine r_istore_n rfl (Nat.le_of_ble_eq_true rfl) rfl ?_
        refine r_aload_n rfl rfl ?_
        refine r_iload_n rfl rfl ?_
        obtain ⟨hb3, hk⟩ := hk
        refine q_callV0 [_] _ rfl kY_X12_inHat kT_X12_inHat rfl rfl (Nat.le_of_ble_eq_true rfl) (Nat.le_of_ble_eq_true rfl) (cc_60 _) (s_X12_inHat hb3) (fun r h q => ?_)
        obtain ⟨rfl, rfl⟩ := q
        simp only [Option.toList, List.cons_append, List.nil_append]
        refine r_istore rfl (Nat.le_of_ble_eq_true rfl) rfl ?_
        refine r_iconst_ (a := 0) rfl (by decide) ?_
        refine r_istore rfl (Nat.le_of_ble_eq_true rfl) rfl ?_
        subst he
        exact r_weak (L1 := [some (.ref 60), some (.int v0), some (.int v1), some (.int (0 : Int32)), some (.int (f_X12_inHat v1 (f_X12_copies s l).1 (f_X12_copies s l).2)), some (.int (0 : Int32))]) ⟨rfl, rfl, rfl, rfl, rfl, rfl, trivial⟩ (lp_X12_give_39 fu _ _ _ _ _ _ _ hk)
      · rw [if_pos c_18] at he
        replace hk := hk.1 c_18
        refine r_iconst_ (a := -1) rfl (by decide) ?_
        refine r_iret rfl rfl rfl ?_
        subst he
        exact ⟨rfl, rfl⟩

def f_X6_nameKind_86 : Nat → Int64 → Int32 → fl_I → fl_L → Int32 × fl_I × fl_L
  | 0, x4, x6, s, l => (0, s, l)
  | n + 1, x4, x6, s, l =>
    if ((21 : Int32) ≤ x6) then ((2 : Int32), s, l) else if ((lg_cmp (l 8 x6.toNatClampNeg) x4) = 0) then (((256 : Int32) + x6), s, l) else f_X6_nameKind_86 n x4 (x6 + 1) s l

def p_X6_nameKind_86 : Nat → Int64 → Int32 → fl_I → fl_L → Prop
  | 0, _, _, _, _ => False
  | n + 1, x4, x6, s, l =>
    ((((21 : Int32) ≤ x6) → True) ∧ (¬ ((21 : Int32) ≤ x6) → (vp_in x6 21) ∧ ((((lg_cmp (l 8 x6.toNatClampNeg) x4) = 0) → True) ∧ (¬ ((lg_cmp (l 8 x6.toNatClampNeg) x4) = 0) → p_X6_nameKind_86 n x4 (x6 + 1) s l))))

set_option maxRecDepth 100000 in
set_option maxHeartbeats 4000000 in
theorem lp_X6_nameKind_86 {G : ab_G} {d : Nat} {D : fl_D} : ∀ (n : Nat) (x4 : Int64) (x6 : Int32) (s : fl_I) (l : fl_L), p_X6_nameKind_86 n x4 x6 s l → ab_C G (d + 1) 0 0 M_X6_nameKind 86 [some (.ref 4), none, none, none, some (.long x4), none, some (.int x6)] [] (hp D s l) (rt (some (.int (f_X6_nameKind_86 n x4 x6 s l).1)) (hp D (f_X6_nameKind_86 n x4 x6 s l).2.1 (f_X6_nameKind_86 n x4 x6 s l).2.2)) := by
  intro n
  induction n with
  | zero => intro x4 x6 s l hk; exact hk.elim
  | succ n ih =>
    intro x4 x6 s l hk
    generalize he : f_X6_nameKind_86 (n + 1) x4 x6 s l = res
    unfold f_X6_nameKind_86 at he
    unfold p_X6_nameKind_86 at hk
    refine r_iload rfl rfl ?_
    refine r_bipush_ (a := 21) rfl (by decide) ?_
    refine r_icmp_ge rfl (fun c_90 => ?_) (fun c_90 => ?_)
    · rw [if_pos c_90] at he
      replace hk := hk.1 c_90
      refine r_iconst_ (a := 2) rfl (by decide) ?_
      refine r_iret rfl rfl rfl ?_
      subst he
      exact ⟨rfl, rfl⟩
    · rw [if_neg c_90] at he
      replace hk := hk.2 c_90
      refine r_aload_n rfl rfl ?_
      refine q_getfield rfl (cc_4 _) rfl ?_
      refine r_iload rfl rfl ?_
      obtain ⟨hb1, hk⟩ := hk
      refine q_lald rfl (cc_8 _) hb1 ?_
      refine r_lload rfl rfl ?_
      refine r_lcmp rfl ?_
      refine r_if_ne rfl (fun c_103 => ?_) (fun c_103 => ?_)
      · rw [if_neg c_103] at he
        replace hk := hk.2 c_103
        refine r_iinc (b := x6 + 1) rfl rfl rfl (Nat.le_of_ble_eq_true rfl) rfl ?_
        refine r_goto rfl ?_
        subst he
        exact r_weak (L1 := [some (.ref 4), none, none, none, some (.long x4), none, some (.int (x6 + 1))]) ⟨rfl, rfl, rfl, trivial⟩ (ih _ _ _ _ hk)
      · rw [if_pos c_103] at he
        replace hk := hk.1 c_103
        refine r_sipush_ (a := 256) rfl (by decide) ?_
        refine r_iload rfl rfl ?_
        refine r_iadd rfl ?_
        refine r_iret rfl rfl rfl ?_
        subst he
        exact ⟨rfl, rfl⟩

def f_X6_nameKind_5 : Nat → Int32 → Int32 → Int64 → fl_I → fl_L → Int32 × fl_I × fl_L
  | 0, x2, x3, x4, s, l => (0, s, l)
  | n + 1, x2, x3, x4, s, l =>
    if ((s 1 1) ≤ (s 4 4)) then if (x3 ≤ (8 : Int32)) then f_X6_nameKind_86 fu x4 (0 : Int32) s (wl l 7 x2.toNatClampNeg x4) else ((1 : Int32), s, l) else if ((f_X6_isLetter (f_X4_byteAt (s 4 4) s l)) = 0) then if (x3 ≤ (8 : Int32)) then f_X6_nameKind_86 fu x4 (0 : Int32) s (wl l 7 x2.toNatClampNeg x4) else ((1 : Int32), s, l) else f_X6_nameKind_5 n x2 (x3 + 1) (f_X11_withSign x4 x3 (((f_X4_byteAt (s 4 4) s l) - (97 : Int32)) + (1 : Int32))) (wi s 4 4 ((s 4 4) + (1 : Int32))) l

def p_X6_nameKind_5 : Nat → Int32 → Int32 → Int64 → fl_I → fl_L → Prop
  | 0, _, _, _, _, _ => False
  | n + 1, x2, x3, x4, s, l =>
    ((((s 1 1) ≤ (s 4 4)) → (((x3 ≤ (8 : Int32)) → (vp_in x2 401) ∧ p_X6_nameKind_86 fu x4 (0 : Int32) s (wl l 7 x2.toNatClampNeg x4)) ∧ (¬ (x3 ≤ (8 : Int32)) → True))) ∧ (¬ ((s 1 1) ≤ (s 4 4)) → (p_X4_byteAt (s 4 4) s l) ∧ (p_X6_isLetter (f_X4_byteAt (s 4 4) s l)) ∧ ((((f_X6_isLetter (f_X4_byteAt (s 4 4) s l)) = 0) → (((x3 ≤ (8 : Int32)) → (vp_in x2 401) ∧ p_X6_nameKind_86 fu x4 (0 : Int32) s (wl l 7 x2.toNatClampNeg x4)) ∧ (¬ (x3 ≤ (8 : Int32)) → True))) ∧ (¬ ((f_X6_isLetter (f_X4_byteAt (s 4 4) s l)) = 0) → (p_X4_byteAt (s 4 4) s l) ∧ (p_X11_withSign x4 x3 (((f_X4_byteAt (s 4 4) s l) - (97 : Int32)) + (1 : Int32))) ∧ p_X6_nameKind_5 n x2 (x3 + 1) (f_X11_withSign x4 x3 (((f_X4_byteAt (s 4 4) s l) - (97 : Int32)) + (1 : Int32))) (wi s 4 4 ((s 4 4) + (1 : Int32))) l))))

set_option maxRecDepth 100000 in
set_option maxHeartbeats 4000000 in
theorem lp_X6_nameKind_5 {G : ab_G} {d : Nat} {D : fl_D} : ∀ (n : Nat) (x2 : Int32) (x3 : Int32) (x4 : Int64) (s : fl_I) (l : fl_L), p_X6_nameKind_5 n x2 x3 x4 s l → ab_C G (d + 1) 0 0 M_X6_nameKind 5 [some (.ref 4), some (.ref 1), some (.int x2), some (.int x3), some (.long x4), none, none] [] (hp D s l) (rt (some (.int (f_X6_nameKind_5 n x2 x3 x4 s l).1)) (hp D (f_X6_nameKind_5 n x2 x3 x4 s l).2.1 (f_X6_nameKind_5 n x2 x3 x4 s l).2.2)) := by
  intro n
  induction n with
  | zero => intro x2 x3 x4 s l hk; exact hk.elim
  | succ n ih =>
    intro x2 x3 x4 s l hk
    generalize he : f_X6_nameKind_5 (n + 1) x2 x3 x4 s l = res
    unfold f_X6_nameKind_5 at he
    unfold p_X6_nameKind_5 at hk
    refine r_aload_n rfl rfl ?_
    refine q_getfield rfl (cc_4 _) rfl ?_
    refine r_aload_n rfl rfl ?_
    refine q_getfield rfl (cc_1 _) rfl ?_
    refine r_icmp_ge rfl (fun c_13 => ?_) (fun c_13 => ?_)
    · rw [if_pos c_13] at he
      replace hk := hk.1 c_13
      refine r_iload_n rfl rfl ?_
      refine r_bipush_ (a := 8) rfl (by decide) ?_
      refine r_icmp_le rfl (fun c_70 => ?_) (fun c_70 => ?_)
      · rw [if_pos c_70] at he
        replace hk := hk.1 c_70
        refine r_aload_n rfl rfl ?_
        refine q_getfield rfl (cc_4 _) rfl ?_
        refine r_iload_n rfl rfl ?_
        refine r_lload rfl rfl ?_
        obtain ⟨hb0, hk⟩ := hk
        refine w_last rfl (cc_7 _) hb0 ?_
        refine r_iconst_ (a := 0) rfl (by decide) ?_
        refine r_istore rfl (Nat.le_of_ble_eq_true rfl) rfl ?_
        subst he
        exact r_weak (L1 := [some (.ref 4), none, none, none, some (.long x4), none, some (.int (0 : Int32))]) ⟨rfl, rfl, rfl, trivial⟩ (lp_X6_nameKind_86 fu _ _ _ _ hk)
      · rw [if_neg c_70] at he
        replace hk := hk.2 c_70
        refine r_iconst_ (a := 1) rfl (by decide) ?_
        refine r_iret rfl rfl rfl ?_
        subst he
        exact ⟨rfl, rfl⟩
    · rw [if_neg c_13] at he
      replace hk := hk.2 c_13
      refine r_aload_n rfl rfl ?_
      refine r_aload_n rfl rfl ?_
      refine q_getfield rfl (cc_4 _) rfl ?_
      obtain ⟨hb2, hk⟩ := hk
      refine q_callV0 [_] _ rfl kY_X4_byteAt kT_X4_byteAt rfl rfl (Nat.le_of_ble_eq_true rfl) (Nat.le_of_ble_eq_true rfl) (cc_1 _) (s_X4_byteAt hb2) (fun r h q => ?_)
      obtain ⟨rfl, rfl⟩ := q
      simp only [Option.toList, List.cons_append, List.nil_append]
      obtain ⟨hb3, hk⟩ := hk
      refine r_callS0 [_] _ rfl kY_X6_isLetter kT_X6_isLetter rfl rfl (Nat.le_of_ble_eq_true rfl) (Nat.le_of_ble_eq_true rfl) (s_X6_isLetter hb3) (fun r h q => ?_)
      obtain ⟨rfl, rfl⟩ := q
      simp only [Option.toList, List.cons_append, List.nil_append]
      refine r_if_eq rfl (fun c_27 => ?_) (fun c_27 => ?_)
      · rw [if_pos c_27] at he
        replace hk := hk.1 c_27
        refine r_iload_n rfl rfl ?_
        refine r_bipush_ (a := 8) rfl (by decide) ?_
        refine r_icmp_le rfl (fun c_70 => ?_) (fun c_70 => ?_)
        · rw [if_pos c_70] at he
          replace hk := hk.1 c_70
          refine r_aload_n rfl rfl ?_
          refine q_getfield rfl (cc_4 _) rfl ?_
          refine r_iload_n rfl rfl ?_
          refine r_lload rfl rfl ?_
          obtain ⟨hb4, hk⟩ := hk
          refine w_last rfl (cc_7 _) hb4 ?_
          refine r_iconst_ (a := 0) rfl (by decide) ?_
          refine r_istore rfl (Nat.le_of_ble_eq_true rfl) rfl ?_
          subst he
          exact r_weak (L1 := [some (.ref 4), none, none, none, some (.long x4), none, some (.int (0 : Int32))]) ⟨rfl, rfl, rfl, trivial⟩ (lp_X6_nameKind_86 fu _ _ _ _ hk)
        · rw [if_neg c_70] at he
          replace hk := hk.2 c_70
          refine r_iconst_ (a := 1) rfl (by decide) ?_
          refine r_iret rfl rfl rfl ?_
          subst he
          exact ⟨rfl, rfl⟩
      · rw [if_neg c_27] at he
        replace hk := hk.2 c_27
        refine r_lload rfl rfl ?_
        refine r_iload_n rfl rfl ?_
        refine r_aload_n rfl rfl ?_
        refine r_aload_n rfl rfl ?_
        refine q_getfield rfl (cc_4 _) rfl ?_
        obtain ⟨hb5, hk⟩ := hk
        refine q_callV0 [_] _ rfl kY_X4_byteAt kT_X4_byteAt rfl rfl (Nat.le_of_ble_eq_true rfl) (Nat.le_of_ble_eq_true rfl) (cc_1 _) (s_X4_byteAt hb5) (fun r h q => ?_)
        obtain ⟨rfl, rfl⟩ := q
        simp only [Option.toList, List.cons_append, List.nil_append]
        refine r_bipush_ (a := 97) rfl (by decide) ?_
        refine r_isub rfl ?_
        refine r_iconst_ (a := 1) rfl (by decide) ?_
        refine r_iadd rfl ?_
        obtain ⟨hb6, hk⟩ := hk
        refine r_callSN0 [_, _, _] _ rfl kY_X11_withSign kT_X11_withSign rfl rfl (Nat.le_of_ble_eq_true rfl) (Nat.le_of_ble_eq_true rfl) (s_X11_withSign hb6) (fun r h q => ?_)
        obtain ⟨rfl, rfl⟩ := q
        simp only [Option.toList, List.cons_append, List.nil_append]
        refine r_lstore rfl (Nat.le_of_ble_eq_true rfl) rfl ?_
        refine r_iinc (b := x3 + 1) rfl rfl rfl (Nat.le_of_ble_eq_true rfl) rfl ?_
        refine r_aload_n rfl rfl ?_
        refine r_dup rfl rfl ?_
        refine q_getfield rfl (cc_4 _) rfl ?_
        refine r_iconst_ (a := 1) rfl (by decide) ?_
        refine r_iadd rfl ?_
        refine w_put rfl (cc_4 _) ff_6_4 ft_6_4 (Nat.le_of_ble_eq_true rfl) rfl ?_
        refine r_goto rfl ?_
        subst he
        exact r_weak (L1 := [some (.ref 4), some (.ref 1), some (.int x2), some (.int (x3 + 1)), some (.long (f_X11_withSign x4 x3 (((f_X4_byteAt (s 4 4) s l) - (97 : Int32)) + (1 : Int32)))), none, none]) ⟨rfl, rfl, rfl, rfl, rfl, trivial⟩ (ih _ _ _ _ _ hk)

def f_X6_nameKind (v1 : Int32) (s : fl_I) (l : fl_L) : Int32 × fl_I × fl_L :=
  f_X6_nameKind_5 fu v1 (0 : Int32) (0 : Int64) s l

def p_X6_nameKind (v1 : Int32) (s : fl_I) (l : fl_L) : Prop :=
  p_X6_nameKind_5 fu v1 (0 : Int32) (0 : Int64) s l

set_option maxRecDepth 100000 in
set_option maxHeartbeats 4000000 in
theorem s_X6_nameKind {G : ab_G} {d : Nat} {D : fl_D} {s : fl_I} {l : fl_L} {v1 : Int32} (hk : p_X6_nameKind v1 s l) : ab_C G (d + 1) 0 0 M_X6_nameKind 0 (ab_ent [.ref 4, .ref 1, .int v1]) [] (hp D s l) (rt (some (.int (f_X6_nameKind v1 s l).1)) (hp D (f_X6_nameKind v1 s l).2.1 (f_X6_nameKind v1 s l).2.2)) := by
  generalize he : (f_X6_nameKind v1 s l) = res
  unfold f_X6_nameKind at he
  unfold p_X6_nameKind at hk
  refine r_weak (L1 := [some (.ref 4), some (.ref 1), some (.int v1), none, none, none, none]) ⟨rfl, rfl, rfl, trivial⟩ ?_
  refine r_iconst_ (a := 0) rfl (by decide) ?_
  refine r_istore_n rfl (Nat.le_of_ble_eq_true rfl) rfl ?_
  refine r_lconst (a := 0) rfl (by decide) ?_
  refine r_lstore rfl (Nat.le_of_ble_eq_true rfl) rfl ?_
  subst he
  exact r_weak (L1 := [some (.ref 4), some (.ref 1), some (.int v1), some (.int (0 : Int32)), some (.long (0 : Int64)), none, none]) ⟨rfl, rfl, rfl, rfl, rfl, trivial⟩ (lp_X6_nameKind_5 fu _ _ _ _ _ hk)

def f_X9_walk_2 : Nat → Int32 → Nat → fl_I → fl_L → fl_I × fl_L
  | 0, x1, a, s, l => (s, l)
  | n + 1, x1, a, s, l =>
    if ((s a 2) ≤ x1) then (s, l) else if ((s (a + 4) x1.toNatClampNeg) = (-2 : Int32)) then f_X9_walk_2 n (x1 + 1) a s l else if ((f_J6_compare_7cf53 ((s (a + 4) x1.toNatClampNeg) - (s (a + 4) x1.toNatClampNeg) / (10 : Int32) * (10 : Int32)) ((s (a + 3) x1.toNatClampNeg) - (s (a + 3) x1.toNatClampNeg) / (10 : Int32) * (10 : Int32))) = 0) then if (((wi s (a + 3) x1.toNatClampNeg ((s (a + 3) x1.toNatClampNeg) + ((10 : Int32) * (f_J6_compare_7cf53 ((s (a + 4) x1.toNatClampNeg) / (10 : Int32)) ((s (a + 3) x1.toNatClampNeg) / (10 : Int32)))))) (a + 3) x1.toNatClampNeg) = (s (a + 4) x1.toNatClampNeg)) then f_X9_walk_2 n (x1 + 1) a (wi (wi s (a + 3) x1.toNatClampNeg ((s (a + 3) x1.toNatClampNeg) + ((10 : Int32) * (f_J6_compare_7cf53 ((s (a + 4) x1.toNatClampNeg) / (10 : Int32)) ((s (a + 3) x1.toNatClampNeg) / (10 : Int32)))))) (a + 4) x1.toNatClampNeg (-2 : Int32)) l else f_X9_walk_2 n (x1 + 1) a (wi s (a + 3) x1.toNatClampNeg ((s (a + 3) x1.toNatClampNeg) + ((10 : Int32) * (f_J6_compare_7cf53 ((s (a + 4) x1.toNatClampNeg) / (10 : Int32)) ((s (a + 3) x1.toNatClampNeg) / (10 : Int32)))))) l else if (((wi s (a + 3) x1.toNatClampNeg ((s (a + 3) x1.toNatClampNeg) + (f_J6_compare_7cf53 ((s (a + 4) x1.toNatClampNeg) - (s (a + 4) x1.toNatClampNeg) / (10 : Int32) * (10 : Int32)) ((s (a + 3) x1.toNatClampNeg) - (s (a + 3) x1.toNatClampNeg) / (10 : Int32) * (10 : Int32))))) (a + 3) x1.toNatClampNeg) = (s (a + 4) x1.toNatClampNeg)) then f_X9_walk_2 n (x1 + 1) a (wi (wi s (a + 3) x1.toNatClampNeg ((s (a + 3) x1.toNatClampNeg) + (f_J6_compare_7cf53 ((s (a + 4) x1.toNatClampNeg) - (s (a + 4) x1.toNatClampNeg) / (10 : Int32) * (10 : Int32)) ((s (a + 3) x1.toNatClampNeg) - (s (a + 3) x1.toNatClampNeg) / (10 : Int32) * (10 : Int32))))) (a + 4) x1.toNatClampNeg (-2 : Int32)) l else f_X9_walk_2 n (x1 + 1) a (wi s (a + 3) x1.toNatClampNeg ((s (a + 3) x1.toNatClampNeg) + (f_J6_compare_7cf53 ((s (a + 4) x1.toNatClampNeg) - (s (a + 4) x1.toNatClampNeg) / (10 : Int32) * (10 : Int32)) ((s (a + 3) x1.toNatClampNeg) - (s (a + 3) x1.toNatClampNeg) / (10 : Int32) * (10 : Int32))))) l

def p_X9_walk_2 : Nat → Int32 → Nat → fl_I → fl_L → Prop
  | 0, _, _, _, _ => False
  | n + 1, x1, a, s, l =>
    ((((s a 2) ≤ x1) → True) ∧ (¬ ((s a 2) ≤ x1) → (vp_in x1 4) ∧ (vp_in x1 4) ∧ ((((s (a + 4) x1.toNatClampNeg) = (-2 : Int32)) → p_X9_walk_2 n (x1 + 1) a s l) ∧ (¬ ((s (a + 4) x1.toNatClampNeg) = (-2 : Int32)) → (p_J6_compare_7cf53 ((s (a + 4) x1.toNatClampNeg) - (s (a + 4) x1.toNatClampNeg) / (10 : Int32) * (10 : Int32)) ((s (a + 3) x1.toNatClampNeg) - (s (a + 3) x1.toNatClampNeg) / (10 : Int32) * (10 : Int32))) ∧ (p_J6_compare_7cf53 ((s (a + 4) x1.toNatClampNeg) / (10 : Int32)) ((s (a + 3) x1.toNatClampNeg) / (10 : Int32))) ∧ ((((f_J6_compare_7cf53 ((s (a + 4) x1.toNatClampNeg) - (s (a + 4) x1.toNatClampNeg) / (10 : Int32) * (10 : Int32)) ((s (a + 3) x1.toNatClampNeg) - (s (a + 3) x1.toNatClampNeg) / (10 : Int32) * (10 : Int32))) = 0) → (vp_in x1 4) ∧ (vp_in x1 4) ∧ (((((wi s (a + 3) x1.toNatClampNeg ((s (a + 3) x1.toNatClampNeg) + ((10 : Int32) * (f_J6_compare_7cf53 ((s (a + 4) x1.toNatClampNeg) / (10 : Int32)) ((s (a + 3) x1.toNatClampNeg) / (10 : Int32)))))) (a + 3) x1.toNatClampNeg) = (s (a + 4) x1.toNatClampNeg)) → (vp_in x1 4) ∧ p_X9_walk_2 n (x1 + 1) a (wi (wi s (a + 3) x1.toNatClampNeg ((s (a + 3) x1.toNatClampNeg) + ((10 : Int32) * (f_J6_compare_7cf53 ((s (a + 4) x1.toNatClampNeg) / (10 : Int32)) ((s (a + 3) x1.toNatClampNeg) / (10 : Int32)))))) (a + 4) x1.toNatClampNeg (-2 : Int32)) l) ∧ (¬ (((wi s (a + 3) x1.toNatClampNeg ((s (a + 3) x1.toNatClampNeg) + ((10 : Int32) * (f_J6_compare_7cf53 ((s (a + 4) x1.toNatClampNeg) / (10 : Int32)) ((s (a + 3) x1.toNatClampNeg) / (10 : Int32)))))) (a + 3) x1.toNatClampNeg) = (s (a + 4) x1.toNatClampNeg)) → p_X9_walk_2 n (x1 + 1) a (wi s (a + 3) x1.toNatClampNeg ((s (a + 3) x1.toNatClampNeg) + ((10 : Int32) * (f_J6_compare_7cf53 ((s (a + 4) x1.toNatClampNeg) / (10 : Int32)) ((s (a + 3) x1.toNatClampNeg) / (10 : Int32)))))) l))) ∧ (¬ ((f_J6_compare_7cf53 ((s (a + 4) x1.toNatClampNeg) - (s (a + 4) x1.toNatClampNeg) / (10 : Int32) * (10 : Int32)) ((s (a + 3) x1.toNatClampNeg) - (s (a + 3) x1.toNatClampNeg) / (10 : Int32) * (10 : Int32))) = 0) → (vp_in x1 4) ∧ (vp_in x1 4) ∧ (((((wi s (a + 3) x1.toNatClampNeg ((s (a + 3) x1.toNatClampNeg) + (f_J6_compare_7cf53 ((s (a + 4) x1.toNatClampNeg) - (s (a + 4) x1.toNatClampNeg) / (10 : Int32) * (10 : Int32)) ((s (a + 3) x1.toNatClampNeg) - (s (a + 3) x1.toNatClampNeg) / (10 : Int32) * (10 : Int32))))) (a + 3) x1.toNatClampNeg) = (s (a + 4) x1.toNatClampNeg)) → (vp_in x1 4) ∧ p_X9_walk_2 n (x1 + 1) a (wi (wi s (a + 3) x1.toNatClampNeg ((s (a + 3) x1.toNatClampNeg) + (f_J6_compare_7cf53 ((s (a + 4) x1.toNatClampNeg) - (s (a + 4) x1.toNatClampNeg) / (10 : Int32) * (10 : Int32)) ((s (a + 3) x1.toNatClampNeg) - (s (a + 3) x1.toNatClampNeg) / (10 : Int32) * (10 : Int32))))) (a + 4) x1.toNatClampNeg (-2 : Int32)) l) ∧ (¬ (((wi s (a + 3) x1.toNatClampNeg ((s (a + 3) x1.toNatClampNeg) + (f_J6_compare_7cf53 ((s (a + 4) x1.toNatClampNeg) - (s (a + 4) x1.toNatClampNeg) / (10 : Int32) * (10 : Int32)) ((s (a + 3) x1.toNatClampNeg) - (s (a + 3) x1.toNatClampNeg) / (10 : Int32) * (10 : Int32))))) (a + 3) x1.toNatClampNeg) = (s (a + 4) x1.toNatClampNeg)) → p_X9_walk_2 n (x1 + 1) a (wi s (a + 3) x1.toNatClampNeg ((s (a + 3) x1.toNatClampNeg) + (f_J6_compare_7cf53 ((s (a + 4) x1.toNatClampNeg) - (s (a + 4) x1.toNatClampNeg) / (10 : Int32) * (10 : Int32)) ((s (a + 3) x1.toNatClampNeg) - (s (a + 3) x1.toNatClampNeg) / (10 : Int32) * (10 : Int32))))) l))))))))

set_option maxRecDepth 100000 in
set_option maxHeartbeats 4000000 in
theorem lp_X9_walk_2 {G : ab_G} {d : Nat} {D : fl_D} {a : Nat} (hya : isY D a) : ∀ (n : Nat) (x1 : Int32) (s : fl_I) (l : fl_L), p_X9_walk_2 n x1 a s l → ab_C G (d + 1) 0 0 M_X9_walk 2 [some (.ref a), some (.int x1), none, none, none, none] [] (hp D s l) (rt none (hp D (f_X9_walk_2 n x1 a s l).1 (f_X9_walk_2 n x1 a s l).2)) := by
  intro n
  induction n with
  | zero => intro x1 s l hk; exact hk.elim
  | succ n ih =>
    intro x1 s l hk
    generalize he : f_X9_walk_2 (n + 1) x1 a s l = res
    unfold f_X9_walk_2 at he
    unfold p_X9_walk_2 at hk
    refine r_iload_n rfl rfl ?_
    refine r_aload_n rfl rfl ?_
    refine q_getfield rfl (cY_0 hya) rfl ?_
    refine r_icmp_ge rfl (fun c_7 => ?_) (fun c_7 => ?_)
    · rw [if_pos c_7] at he
      replace hk := hk.1 c_7
      refine r_ret rfl rfl ?_
      subst he
      exact ⟨rfl, rfl⟩
    · rw [if_neg c_7] at he
      replace hk := hk.2 c_7
      refine r_aload_n rfl rfl ?_
      refine q_getfield rfl (cY_0 hya) rfl ?_
      refine r_iload_n rfl rfl ?_
      obtain ⟨hb0, hk⟩ := hk
      refine q_iald rfl (cY_4 hya) hb0 ?_
      refine r_istore_n rfl (Nat.le_of_ble_eq_true rfl) rfl ?_
      refine r_aload_n rfl rfl ?_
      refine q_getfield rfl (cY_0 hya) rfl ?_
      refine r_iload_n rfl rfl ?_
      obtain ⟨hb1, hk⟩ := hk
      refine q_iald rfl (cY_3 hya) hb1 ?_
      refine r_istore_n rfl (Nat.le_of_ble_eq_true rfl) rfl ?_
      refine r_iload_n rfl rfl ?_
      refine r_bipush_ (a := -2) rfl (by decide) ?_
      refine r_icmp_ne rfl (fun c_27 => ?_) (fun c_27 => ?_)
      · rw [if_neg c_27] at he
        replace hk := hk.2 c_27
        refine r_iload_n rfl rfl ?_
        refine r_bipush_ (a := 10) rfl (by decide) ?_
        refine r_irem rfl (by decide) ?_
        refine r_iload_n rfl rfl ?_
        refine r_bipush_ (a := 10) rfl (by decide) ?_
        refine r_irem rfl (by decide) ?_
        obtain ⟨hb2, hk⟩ := hk
        refine r_callS0 [_, _] _ rfl kY_J6_compare_7cf53 kT_J6_compare_7cf53 rfl rfl (Nat.le_of_ble_eq_true rfl) (Nat.le_of_ble_eq_true rfl) (s_J6_compare_7cf53 hb2) (fun r h q => ?_)
        obtain ⟨rfl, rfl⟩ := q
        simp only [Option.toList, List.cons_append, List.nil_append]
        refine r_istore rfl (Nat.le_of_ble_eq_true rfl) rfl ?_
        refine r_iload_n rfl rfl ?_
        refine r_bipush_ (a := 10) rfl (by decide) ?_
        refine r_idiv rfl (by decide) ?_
        refine r_iload_n rfl rfl ?_
        refine r_bipush_ (a := 10) rfl (by decide) ?_
        refine r_idiv rfl (by decide) ?_
        obtain ⟨hb3, hk⟩ := hk
        refine r_callS0 [_, _] _ rfl kY_J6_compare_7cf53 kT_J6_compare_7cf53 rfl rfl (Nat.le_of_ble_eq_true rfl) (Nat.le_of_ble_eq_true rfl) (s_J6_compare_7cf53 hb3) (fun r h q => ?_)
        obtain ⟨rfl, rfl⟩ := q
        simp only [Option.toList, List.cons_append, List.nil_append]
        refine r_istore rfl (Nat.le_of_ble_eq_true rfl) rfl ?_
        refine r_aload_n rfl rfl ?_
        refine q_getfield rfl (cY_0 hya) rfl ?_
        refine r_iload_n rfl rfl ?_
        refine r_iload rfl rfl ?_
        refine r_if_eq rfl (fun c_66 => ?_) (fun c_66 => ?_)
        · rw [if_pos c_66] at he
          replace hk := hk.1 c_66
          refine r_iload_n rfl rfl ?_
          refine r_bipush_ (a := 10) rfl (by decide) ?_
          refine r_iload rfl rfl ?_
          refine r_imul rfl ?_
          refine r_iadd rfl ?_
          obtain ⟨hb4, hk⟩ := hk
          refine w_iast rfl (cY_3 hya) hb4 ?_
          refine r_aload_n rfl rfl ?_
          refine q_getfield rfl (cY_0 hya) rfl ?_
          refine r_iload_n rfl rfl ?_
          obtain ⟨hb5, hk⟩ := hk
          refine q_iald rfl (cY_3 hya) hb5 ?_
          refine r_iload_n rfl rfl ?_
          refine r_icmp_ne rfl (fun c_91 => ?_) (fun c_91 => ?_)
          · rw [if_neg c_91] at he
            replace hk := hk.2 c_91
            refine r_iinc (b := x1 + 1) rfl rfl rfl (Nat.le_of_ble_eq_true rfl) rfl ?_
            refine r_goto rfl ?_
            subst he
            exact r_weak (L1 := [some (.ref a), some (.int (x1 + 1)), none, none, none, none]) ⟨rfl, rfl, trivial⟩ (ih _ _ _ hk)
          · rw [if_pos c_91] at he
            replace hk := hk.1 c_91
            refine r_aload_n rfl rfl ?_
            refine q_getfield rfl (cY_0 hya) rfl ?_
            refine r_iload_n rfl rfl ?_
            refine r_bipush_ (a := -2) rfl (by decide) ?_
            obtain ⟨hb6, hk⟩ := hk
            refine w_iast rfl (cY_4 hya) hb6 ?_
            refine r_iinc (b := x1 + 1) rfl rfl rfl (Nat.le_of_ble_eq_true rfl) rfl ?_
            refine r_goto rfl ?_
            subst he
            exact r_weak (L1 := [some (.ref a), some (.int (x1 + 1)), none, none, none, none]) ⟨rfl, rfl, trivial⟩ (ih _ _ _ hk)
        · rw [if_neg c_66] at he
          replace hk := hk.2 c_66
          refine r_iload_n rfl rfl ?_
          refine r_iload rfl rfl ?_
          refine r_iadd rfl ?_
          refine r_goto rfl ?_
          obtain ⟨hb7, hk⟩ := hk
          refine w_iast rfl (cY_3 hya) hb7 ?_
          refine r_aload_n rfl rfl ?_
          refine q_getfield rfl (cY_0 hya) rfl ?_
          refine r_iload_n rfl rfl ?_
          obtain ⟨hb8, hk⟩ := hk
          refine q_iald rfl (cY_3 hya) hb8 ?_
          refine r_iload_n rfl rfl ?_
          refine r_icmp_ne rfl (fun c_91 => ?_) (fun c_91 => ?_)
          · rw [if_neg c_91] at he
            replace hk := hk.2 c_91
            refine r_iinc (b := x1 + 1) rfl rfl rfl (Nat.le_of_ble_eq_true rfl) rfl ?_
            refine r_goto rfl ?_
            subst he
            exact r_weak (L1 := [some (.ref a), some (.int (x1 + 1)), none, none, none, none]) ⟨rfl, rfl, trivial⟩ (ih _ _ _ hk)
          · rw [if_pos c_91] at he
            replace hk := hk.1 c_91
            refine r_aload_n rfl rfl ?_
            refine q_getfield rfl (cY_0 hya) rfl ?_
            refine r_iload_n rfl rfl ?_
            refine r_bipush_ (a := -2) rfl (by decide) ?_
            obtain ⟨hb9, hk⟩ := hk
            refine w_iast rfl (cY_4 hya) hb9 ?_
            refine r_iinc (b := x1 + 1) rfl rfl rfl (Nat.le_of_ble_eq_true rfl) rfl ?_
            refine r_goto rfl ?_
            subst he
            exact r_weak (L1 := [some (.ref a), some (.int (x1 + 1)), none, none, none, none]) ⟨rfl, rfl, trivial⟩ (ih _ _ _ hk)
      · rw [if_pos c_27] at he
        replace hk := hk.1 c_27
        refine r_goto rfl ?_
        refine r_iinc (b := x1 + 1) rfl rfl rfl (Nat.le_of_ble_eq_true rfl) rfl ?_
        refine r_goto rfl ?_
        subst he
        exact r_weak (L1 := [some (.ref a), some (.int (x1 + 1)), none, none, none, none]) ⟨rfl, rfl, trivial⟩ (ih _ _ _ hk)

def f_X9_walk (a : Nat) (s : fl_I) (l : fl_L) : fl_I × fl_L :=
  f_X9_walk_2 fu (0 : Int32) a s l

def p_X9_walk (a : Nat) (s : fl_I) (l : fl_L) : Prop :=
  p_X9_walk_2 fu (0 : Int32) a s l

set_option maxRecDepth 100000 in
set_option maxHeartbeats 4000000 in
theorem s_X9_walk {G : ab_G} {d : Nat} {D : fl_D} {s : fl_I} {l : fl_L} {a : Nat} (hya : isY D a)  (hk : p_X9_walk a s l) : ab_C G (d + 1) 0 0 M_X9_walk 0 (ab_ent [.ref a]) [] (hp D s l) (rt none (hp D (f_X9_walk a s l).1 (f_X9_walk a s l).2)) := by
  generalize he : (f_X9_walk a s l) = res
  unfold f_X9_walk at he
  unfold p_X9_walk at hk
  refine r_weak (L1 := [some (.ref a), none, none, none, none, none]) ⟨rfl, trivial⟩ ?_
  refine r_iconst_ (a := 0) rfl (by decide) ?_
  refine r_istore_n rfl (Nat.le_of_ble_eq_true rfl) rfl ?_
  subst he
  exact r_weak (L1 := [some (.ref a), some (.int (0 : Int32)), none, none, none, none]) ⟨rfl, rfl, trivial⟩ (lp_X9_walk_2 hya fu _ _ _ hk)

def f_X12_plain_57 : Nat → Int32 → Int32 → fl_I → fl_L → fl_I × fl_L
  | 0, x1, x2, s, l => (s, l)
  | n + 1, x1, x2, s, l =>
    if ((3 : Int32) ≤ x2) then (s, l) else f_X12_plain_57 n x1 (x2 + 1) (wi (wi s 82 (((3 : Int32) * x1) + x2).toNatClampNeg (0 : Int32)) 83 (((3 : Int32) * x1) + x2).toNatClampNeg (0 : Int32)) l

def p_X12_plain_57 : Nat → Int32 → Int32 → fl_I → fl_L → Prop
  | 0, _, _, _, _ => False
  | n + 1, x1, x2, s, l =>
    ((((3 : Int32) ≤ x2) → True) ∧ (¬ ((3 : Int32) ≤ x2) → (vp_in (((3 : Int32) * x1) + x2) 6) ∧ (vp_in (((3 : Int32) * x1) + x2) 6) ∧ p_X12_plain_57 n x1 (x2 + 1) (wi (wi s 82 (((3 : Int32) * x1) + x2).toNatClampNeg (0 : Int32)) 83 (((3 : Int32) * x1) + x2).toNatClampNeg (0 : Int32)) l))

set_option maxRecDepth 100000 in
set_option maxHeartbeats 4000000 in
theorem lp_X12_plain_57 {G : ab_G} {d : Nat} {D : fl_D} : ∀ (n : Nat) (x1 : Int32) (x2 : Int32) (s : fl_I) (l : fl_L), p_X12_plain_57 n x1 x2 s l → ab_C G d 0 0 M_X12_plain 57 [some (.ref 60), some (.int x1), some (.int x2)] [] (hp D s l) (rt none (hp D (f_X12_plain_57 n x1 x2 s l).1 (f_X12_plain_57 n x1 x2 s l).2)) := by
  intro n
  induction n with
  | zero => intro x1 x2 s l hk; exact hk.elim
  | succ n ih =>
    intro x1 x2 s l hk
    generalize he : f_X12_plain_57 (n + 1) x1 x2 s l = res
    unfold f_X12_plain_57 at he
    unfold p_X12_plain_57 at hk
    refine r_iload_n rfl rfl ?_
    refine r_iconst_ (a := 3) rfl (by decide) ?_
    refine r_icmp_ge rfl (fun c_59 => ?_) (fun c_59 => ?_)
    · rw [if_pos c_59] at he
      replace hk := hk.1 c_59
      refine r_ret rfl rfl ?_
      subst he
      exact ⟨rfl, rfl⟩
    · rw [if_neg c_59] at he
      replace hk := hk.2 c_59
      refine r_aload_n rfl rfl ?_
      refine q_getfield rfl (cc_60 _) rfl ?_
      refine r_iconst_ (a := 3) rfl (by decide) ?_
      refine r_iload_n rfl rfl ?_
      refine r_imul rfl ?_
      refine r_iload_n rfl rfl ?_
      refine r_iadd rfl ?_
      refine r_iconst_ (a := 0) rfl (by decide) ?_
      obtain ⟨hb7, hk⟩ := hk
      refine w_iast rfl (cc_82 _) hb7 ?_
      refine r_aload_n rfl rfl ?_
      refine q_getfield rfl (cc_60 _) rfl ?_
      refine r_iconst_ (a := 3) rfl (by decide) ?_
      refine r_iload_n rfl rfl ?_
      refine r_imul rfl ?_
      refine r_iload_n rfl rfl ?_
      refine r_iadd rfl ?_
      refine r_iconst_ (a := 0) rfl (by decide) ?_
      obtain ⟨hb8, hk⟩ := hk
      refine w_iast rfl (cc_83 _) hb8 ?_
      refine r_iinc (b := x2 + 1) rfl rfl rfl (Nat.le_of_ble_eq_true rfl) rfl ?_
      refine r_goto rfl ?_
      subst he
      exact r_weak (L1 := [some (.ref 60), some (.int x1), some (.int (x2 + 1))]) ⟨rfl, rfl, rfl, trivial⟩ (ih _ _ _ _ hk)

def f_X12_plain (v0 : Int32) (s : fl_I) (l : fl_L) : fl_I × fl_L :=
  f_X12_plain_57 fu v0 (0 : Int32) (wi (wi (wi (wi (wi (wi (wi s 68 v0.toNatClampNeg (0 : Int32)) 72 v0.toNatClampNeg (0 : Int32)) 74 v0.toNatClampNeg (0 : Int32)) 79 ((2 : Int32) * v0).toNatClampNeg (1 : Int32)) 79 (((2 : Int32) * v0) + (1 : Int32)).toNatClampNeg (0 : Int32)) 80 v0.toNatClampNeg (0 : Int32)) 81 v0.toNatClampNeg (0 : Int32)) l

def p_X12_plain (v0 : Int32) (s : fl_I) (l : fl_L) : Prop :=
  (vp_in v0 2) ∧ (vp_in v0 2) ∧ (vp_in v0 2) ∧ (vp_in ((2 : Int32) * v0) 4) ∧ (vp_in (((2 : Int32) * v0) + (1 : Int32)) 4) ∧ (vp_in v0 2) ∧ (vp_in v0 2) ∧ p_X12_plain_57 fu v0 (0 : Int32) (wi (wi (wi (wi (wi (wi (wi s 68 v0.toNatClampNeg (0 : Int32)) 72 v0.toNatClampNeg (0 : Int32)) 74 v0.toNatClampNeg (0 : Int32)) 79 ((2 : Int32) * v0).toNatClampNeg (1 : Int32)) 79 (((2 : Int32) * v0) + (1 : Int32)).toNatClampNeg (0 : Int32)) 80 v0.toNatClampNeg (0 : Int32)) 81 v0.toNatClampNeg (0 : Int32)) l

set_option maxRecDepth 100000 in
set_option maxHeartbeats 4000000 in
theorem s_X12_plain {G : ab_G} {d : Nat} {D : fl_D} {s : fl_I} {l : fl_L} {v0 : Int32} (hk : p_X12_plain v0 s l) : ab_C G d 0 0 M_X12_plain 0 (ab_ent [.ref 60, .int v0]) [] (hp D s l) (rt none (hp D (f_X12_plain v0 s l).1 (f_X12_plain v0 s l).2)) := by
  generalize he : (f_X12_plain v0 s l) = res
  unfold f_X12_plain at he
  unfold p_X12_plain at hk
  refine r_weak (L1 := [some (.ref 60), some (.int v0), none]) ⟨rfl, rfl, trivial⟩ ?_
  refine r_aload_n rfl rfl ?_
  refine q_getfield rfl (cc_60 _) rfl ?_
  refine r_iload_n rfl rfl ?_
  refine r_iconst_ (a := 0) rfl (by decide) ?_
  obtain ⟨hb0, hk⟩ := hk
  refine w_iast rfl (cc_68 _) hb0 ?_
  refine r_aload_n rfl rfl ?_
  refine q_getfield rfl (cc_60 _) rfl ?_
  refine r_iload_n rfl rfl ?_
  refine r_iconst_ (a := 0) rfl (by decide) ?_
  obtain ⟨hb1, hk⟩ := hk
  refine w_iast rfl (cc_72 _) hb1 ?_
  refine r_aload_n rfl rfl ?_
  refine q_getfield rfl (cc_60 _) rfl ?_
  refine r_iload_n rfl rfl ?_
  refine r_iconst_ (a := 0) rfl (by decide) ?_
  obtain ⟨hb2, hk⟩ := hk
  refine w_iast rfl (cc_74 _) hb2 ?_
  refine r_aload_n rfl rfl ?_
  refine q_getfield rfl (cc_60 _) rfl ?_
  refine r_iconst_ (a := 2) rfl (by decide) ?_
  refine r_iload_n rfl rfl ?_
  refine r_imul rfl ?_
  refine r_iconst_ (a := 1) rfl (by decide) ?_
  obtain ⟨hb3, hk⟩ := hk
  refine w_iast rfl (cc_79 _) hb3 ?_
  refine r_aload_n rfl rfl ?_
  refine q_getfield rfl (cc_60 _) rfl ?_
  refine r_iconst_ (a := 2) rfl (by decide) ?_
  refine r_iload_n rfl rfl ?_
  refine r_imul rfl ?_
  refine r_iconst_ (a := 1) rfl (by decide) ?_
  refine r_iadd rfl ?_
  refine r_iconst_ (a := 0) rfl (by decide) ?_
  obtain ⟨hb4, hk⟩ := hk
  refine w_iast rfl (cc_79 _) hb4 ?_
  refine r_aload_n rfl rfl ?_
  refine q_getfield rfl (cc_60 _) rfl ?_
  refine r_iload_n rfl rfl ?_
  refine r_iconst_ (a := 0) rfl (by decide) ?_
  obtain ⟨hb5, hk⟩ := hk
  refine w_iast rfl (cc_80 _) hb5 ?_
  refine r_aload_n rfl rfl ?_
  refine q_getfield rfl (cc_60 _) rfl ?_
  refine r_iload_n rfl rfl ?_
  refine r_iconst_ (a := 0) rfl (by decide) ?_
  obtain ⟨hb6, hk⟩ := hk
  refine w_iast rfl (cc_81 _) hb6 ?_
  refine r_iconst_ (a := 0) rfl (by decide) ?_
  refine r_istore_n rfl (Nat.le_of_ble_eq_true rfl) rfl ?_
  subst he
  exact r_weak (L1 := [some (.ref 60), some (.int v0), some (.int (0 : Int32))]) ⟨rfl, rfl, rfl, trivial⟩ (lp_X12_plain_57 fu _ _ _ _ hk)

def f_X12_fillsRest_37 (K2 : Int32 → fl_I → fl_L → fl_I × fl_L) (K14 : Int32 → Int32 → fl_I → fl_L → fl_I × fl_L) : Nat → Int32 → Int32 → Int32 → Int32 → fl_I → fl_L → fl_I × fl_L
  | 0, x1, x2, x3, x4, s, l => (s, l)
  | n + 1, x1, x2, x3, x4, s, l =>
    if ((s 60 60) ≤ x4) then K14 x1 (x2 + 1) (wi s 101 (((10 : Int32) * x1) + x2).toNatClampNeg x3) l else if (((x1 >>> (x4 &&& 31)) &&& (1 : Int32)) = 0) then f_X12_fillsRest_37 K2 K14 n x1 x2 x3 (x4 + 1) s l else if (x3 ≤ ((f_X12_stepsOff (s 100 x2.toNatClampNeg) (s 100 x4.toNatClampNeg)) + (s 101 (((10 : Int32) * (x1 &&& (((1 : Int32) <<< (x4 &&& 31)) ^^^ (-1 : Int32)))) + x4).toNatClampNeg))) then f_X12_fillsRest_37 K2 K14 n x1 x2 x3 (x4 + 1) s l else f_X12_fillsRest_37 K2 K14 n x1 x2 ((f_X12_stepsOff (s 100 x2.toNatClampNeg) (s 100 x4.toNatClampNeg)) + (s 101 (((10 : Int32) * (x1 &&& (((1 : Int32) <<< (x4 &&& 31)) ^^^ (-1 : Int32)))) + x4).toNatClampNeg)) (x4 + 1) s l

def p_X12_fillsRest_37 (P2 : Int32 → fl_I → fl_L → Prop) (P14 : Int32 → Int32 → fl_I → fl_L → Prop) : Nat → Int32 → Int32 → Int32 → Int32 → fl_I → fl_L → Prop
  | 0, _, _, _, _, _, _ => False
  | n + 1, x1, x2, x3, x4, s, l =>
    ((((s 60 60) ≤ x4) → (vp_in (((10 : Int32) * x1) + x2) 10240) ∧ P14 x1 (x2 + 1) (wi s 101 (((10 : Int32) * x1) + x2).toNatClampNeg x3) l) ∧ (¬ ((s 60 60) ≤ x4) → (((((x1 >>> (x4 &&& 31)) &&& (1 : Int32)) = 0) → p_X12_fillsRest_37 P2 P14 n x1 x2 x3 (x4 + 1) s l) ∧ (¬ (((x1 >>> (x4 &&& 31)) &&& (1 : Int32)) = 0) → (vp_in x2 80) ∧ (vp_in x4 80) ∧ (p_X12_stepsOff (s 100 x2.toNatClampNeg) (s 100 x4.toNatClampNeg)) ∧ (vp_in (((10 : Int32) * (x1 &&& (((1 : Int32) <<< (x4 &&& 31)) ^^^ (-1 : Int32)))) + x4) 10240) ∧ (((x3 ≤ ((f_X12_stepsOff (s 100 x2.toNatClampNeg) (s 100 x4.toNatClampNeg)) + (s 101 (((10 : Int32) * (x1 &&& (((1 : Int32) <<< (x4 &&& 31)) ^^^ (-1 : Int32)))) + x4).toNatClampNeg))) → p_X12_fillsRest_37 P2 P14 n x1 x2 x3 (x4 + 1) s l) ∧ (¬ (x3 ≤ ((f_X12_stepsOff (s 100 x2.toNatClampNeg) (s 100 x4.toNatClampNeg)) + (s 101 (((10 : Int32) * (x1 &&& (((1 : Int32) <<< (x4 &&& 31)) ^^^ (-1 : Int32)))) + x4).toNatClampNeg))) → p_X12_fillsRest_37 P2 P14 n x1 x2 ((f_X12_stepsOff (s 100 x2.toNatClampNeg) (s 100 x4.toNatClampNeg)) + (s 101 (((10 : Int32) * (x1 &&& (((1 : Int32) <<< (x4 &&& 31)) ^^^ (-1 : Int32)))) + x4).toNatClampNeg)) (x4 + 1) s l))))))

set_option maxRecDepth 100000 in
set_option maxHeartbeats 4000000 in
theorem lp_X12_fillsRest_37 {G : ab_G} {d : Nat} {D : fl_D} (K2 : Int32 → fl_I → fl_L → fl_I × fl_L) (P2 : Int32 → fl_I → fl_L → Prop) (hK2 : ∀ (x1 : Int32) (s : fl_I) (l : fl_L), P2 x1 s l → ab_C G (d + 2) 0 0 M_X12_fillsRest 2 [some (.ref 60), some (.int x1), none, none, none, none] [] (hp D s l) (rt none (hp D (K2 x1 s l).1 (K2 x1 s l).2))) (K14 : Int32 → Int32 → fl_I → fl_L → fl_I × fl_L) (P14 : Int32 → Int32 → fl_I → fl_L → Prop) (hK14 : ∀ (x1 : Int32) (x2 : Int32) (s : fl_I) (l : fl_L), P14 x1 x2 s l → ab_C G (d + 2) 0 0 M_X12_fillsRest 14 [some (.ref 60), some (.int x1), some (.int x2), none, none, none] [] (hp D s l) (rt none (hp D (K14 x1 x2 s l).1 (K14 x1 x2 s l).2))) : ∀ (n : Nat) (x1 : Int32) (x2 : Int32) (x3 : Int32) (x4 : Int32) (s : fl_I) (l : fl_L), p_X12_fillsRest_37 P2 P14 n x1 x2 x3 x4 s l → ab_C G (d + 2) 0 0 M_X12_fillsRest 37 [some (.ref 60), some (.int x1), some (.int x2), some (.int x3), some (.int x4), none] [] (hp D s l) (rt none (hp D (f_X12_fillsRest_37 K2 K14 n x1 x2 x3 x4 s l).1 (f_X12_fillsRest_37 K2 K14 n x1 x2 x3 x4 s l).2)) := by
  intro n
  induction n with
  | zero => intro x1 x2 x3 x4 s l hk; exact hk.elim
  | succ n ih =>
    intro x1 x2 x3 x4 s l hk
    generalize he : f_X12_fillsRest_37 K2 K14 (n + 1) x1 x2 x3 x4 s l = res
    unfold f_X12_fillsRest_37 at he
    unfold p_X12_fillsRest_37 at hk
    refine r_iload rfl rfl ?_
    refine r_aload_n rfl rfl ?_
    refine q_getfield rfl (cc_60 _) rfl ?_
    refine r_icmp_ge rfl (fun c_43 => ?_) (fun c_43 => ?_)
    · rw [if_pos c_43] at he
      replace hk := hk.1 c_43
      refine r_aload_n rfl rfl ?_
      refine q_getfield rfl (cc_60 _) rfl ?_
      refine r_bipush_ (a := 10) rfl (by decide) ?_
      refine r_iload_n rfl rfl ?_
      refine r_imul rfl ?_
      refine r_iload_n rfl rfl ?_
      refine r_iadd rfl ?_
      refine r_iload_n rfl rfl ?_
      obtain ⟨hb0, hk⟩ := hk
      refine w_iast rfl (cc_101 _) hb0 ?_
      refine r_iinc (b := x2 + 1) rfl rfl rfl (Nat.le_of_ble_eq_true rfl) rfl ?_
      refine r_goto rfl ?_
      subst he
      exact r_weak (L1 := [some (.ref 60), some (.int x1), some (.int (x2 + 1)), none, none, none]) ⟨rfl, rfl, rfl, trivial⟩ (hK14 _ _ _ _ hk)
    · rw [if_neg c_43] at he
      replace hk := hk.2 c_43
      refine r_iload_n rfl rfl ?_
      refine r_iload rfl rfl ?_
      refine r_ishr rfl ?_
      refine r_iconst_ (a := 1) rfl (by decide) ?_
      refine r_iand rfl ?_
      refine r_if_ne rfl (fun c_52 => ?_) (fun c_52 => ?_)
      · rw [if_neg c_52] at he
        replace hk := hk.2 c_52
        refine r_aload_n rfl rfl ?_
        refine q_getfield rfl (cc_60 _) rfl ?_
        refine r_iload_n rfl rfl ?_
        obtain ⟨hb1, hk⟩ := hk
        refine q_iald rfl (cc_100 _) hb1 ?_
        refine r_aload_n rfl rfl ?_
        refine q_getfield rfl (cc_60 _) rfl ?_
        refine r_iload rfl rfl ?_
        obtain ⟨hb2, hk⟩ := hk
        refine q_iald rfl (cc_100 _) hb2 ?_
        obtain ⟨hb3, hk⟩ := hk
        refine r_callS0 [_, _] _ rfl kY_X12_stepsOff kT_X12_stepsOff rfl rfl (Nat.le_of_ble_eq_true rfl) (Nat.le_of_ble_eq_true rfl) (s_X12_stepsOff hb3) (fun r h q => ?_)
        obtain ⟨rfl, rfl⟩ := q
        simp only [Option.toList, List.cons_append, List.nil_append]
        refine r_aload_n rfl rfl ?_
        refine q_getfield rfl (cc_60 _) rfl ?_
        refine r_bipush_ (a := 10) rfl (by decide) ?_
        refine r_iload_n rfl rfl ?_
        refine r_iconst_ (a := 1) rfl (by decide) ?_
        refine r_iload rfl rfl ?_
        refine r_ishl rfl ?_
        refine r_iconst_ (a := -1) rfl (by decide) ?_
        refine r_ixor rfl ?_
        refine r_iand rfl ?_
        refine r_imul rfl ?_
        refine r_iload rfl rfl ?_
        refine r_iadd rfl ?_
        obtain ⟨hb4, hk⟩ := hk
        refine q_iald rfl (cc_101 _) hb4 ?_
        refine r_iadd rfl ?_
        refine r_istore rfl (Nat.le_of_ble_eq_true rfl) rfl ?_
        refine r_iload rfl rfl ?_
        refine r_iload_n rfl rfl ?_
        refine r_icmp_ge rfl (fun c_99 => ?_) (fun c_99 => ?_)
        · rw [if_pos c_99] at he
          replace hk := hk.1 c_99
          refine r_iinc (b := x4 + 1) rfl rfl rfl (Nat.le_of_ble_eq_true rfl) rfl ?_
          refine r_goto rfl ?_
          subst he
          exact r_weak (L1 := [some (.ref 60), some (.int x1), some (.int x2), some (.int x3), some (.int (x4 + 1)), none]) ⟨rfl, rfl, rfl, rfl, rfl, trivial⟩ (ih _ _ _ _ _ _ hk)
        · rw [if_neg c_99] at he
          replace hk := hk.2 c_99
          refine r_iload rfl rfl ?_
          refine r_istore_n rfl (Nat.le_of_ble_eq_true rfl) rfl ?_
          refine r_iinc (b := x4 + 1) rfl rfl rfl (Nat.le_of_ble_eq_true rfl) rfl ?_
          refine r_goto rfl ?_
          subst he
          exact r_weak (L1 := [some (.ref 60), some (.int x1), some (.int x2), some (.int ((f_X12_stepsOff (s 100 x2.toNatClampNeg) (s 100 x4.toNatClampNeg)) + (s 101 (((10 : Int32) * (x1 &&& (((1 : Int32) <<< (x4 &&& 31)) ^^^ (-1 : Int32)))) + x4).toNatClampNeg))), some (.int (x4 + 1)), none]) ⟨rfl, rfl, rfl, rfl, rfl, trivial⟩ (ih _ _ _ _ _ _ hk)
      · rw [if_pos c_52] at he
        replace hk := hk.1 c_52
        refine r_goto rfl ?_
        refine r_iinc (b := x4 + 1) rfl rfl rfl (Nat.le_of_ble_eq_true rfl) rfl ?_
        refine r_goto rfl ?_
        subst he
        exact r_weak (L1 := [some (.ref 60), some (.int x1), some (.int x2), some (.int x3), some (.int (x4 + 1)), none]) ⟨rfl, rfl, rfl, rfl, rfl, trivial⟩ (ih _ _ _ _ _ _ hk)

def f_X12_fillsRest_14 (K2 : Int32 → fl_I → fl_L → fl_I × fl_L) : Nat → Int32 → Int32 → fl_I → fl_L → fl_I × fl_L
  | 0, x1, x2, s, l => (s, l)
  | n + 1, x1, x2, s, l =>
    if ((s 60 60) ≤ x2) then K2 (x1 + 1) s l else if (x1 = 0) then f_X12_fillsRest_37 K2 (fun x1 x2 s l => f_X12_fillsRest_14 K2 n x1 x2 s l) fu x1 x2 (0 : Int32) (0 : Int32) s l else f_X12_fillsRest_37 K2 (fun x1 x2 s l => f_X12_fillsRest_14 K2 n x1 x2 s l) fu x1 x2 (9999 : Int32) (0 : Int32) s l

def p_X12_fillsRest_14 (P2 : Int32 → fl_I → fl_L → Prop) : Nat → Int32 → Int32 → fl_I → fl_L → Prop
  | 0, _, _, _, _ => False
  | n + 1, x1, x2, s, l =>
    ((((s 60 60) ≤ x2) → P2 (x1 + 1) s l) ∧ (¬ ((s 60 60) ≤ x2) → (((x1 = 0) → p_X12_fillsRest_37 P2 (fun x1 x2 s l => p_X12_fillsRest_14 P2 n x1 x2 s l) fu x1 x2 (0 : Int32) (0 : Int32) s l) ∧ (¬ (x1 = 0) → p_X12_fillsRest_37 P2 (fun x1 x2 s l => p_X12_fillsRest_14 P2 n x1 x2 s l) fu x1 x2 (9999 : Int32) (0 : Int32) s l))))

set_option maxRecDepth 100000 in
set_option maxHeartbeats 4000000 in
theorem lp_X12_fillsRest_14 {G : ab_G} {d : Nat} {D : fl_D} (K2 : Int32 → fl_I → fl_L → fl_I × fl_L) (P2 : Int32 → fl_I → fl_L → Prop) (hK2 : ∀ (x1 : Int32) (s : fl_I) (l : fl_L), P2 x1 s l → ab_C G (d + 2) 0 0 M_X12_fillsRest 2 [some (.ref 60), some (.int x1), none, none, none, none] [] (hp D s l) (rt none (hp D (K2 x1 s l).1 (K2 x1 s l).2))) : ∀ (n : Nat) (x1 : Int32) (x2 : Int32) (s : fl_I) (l : fl_L), p_X12_fillsRest_14 P2 n x1 x2 s l → ab_C G (d + 2) 0 0 M_X12_fillsRest 14 [some (.ref 60), some (.int x1), some (.int x2), none, none, none] [] (hp D s l) (rt none (hp D (f_X12_fillsRest_14 K2 n x1 x2 s l).1 (f_X12_fillsRest_14 K2 n x1 x2 s l).2)) := by
  intro n
  induction n with
  | zero => intro x1 x2 s l hk; exact hk.elim
  | succ n ih =>
    intro x1 x2 s l hk
    generalize he : f_X12_fillsRest_14 K2 (n + 1) x1 x2 s l = res
    unfold f_X12_fillsRest_14 at he
    unfold p_X12_fillsRest_14 at hk
    refine r_iload_n rfl rfl ?_
    refine r_aload_n rfl rfl ?_
    refine q_getfield rfl (cc_60 _) rfl ?_
    refine r_icmp_ge rfl (fun c_19 => ?_) (fun c_19 => ?_)
    · rw [if_pos c_19] at he
      replace hk := hk.1 c_19
      refine r_iinc (b := x1 + 1) rfl rfl rfl (Nat.le_of_ble_eq_true rfl) rfl ?_
      refine r_goto rfl ?_
      subst he
      exact r_weak (L1 := [some (.ref 60), some (.int (x1 + 1)), none, none, none, none]) ⟨rfl, rfl, trivial⟩ (hK2 _ _ _ hk)
    · rw [if_neg c_19] at he
      replace hk := hk.2 c_19
      refine r_iload_n rfl rfl ?_
      refine r_if_ne rfl (fun c_23 => ?_) (fun c_23 => ?_)
      · rw [if_neg c_23] at he
        replace hk := hk.2 c_23
        refine r_sipush_ (a := 9999) rfl (by decide) ?_
        refine r_istore_n rfl (Nat.le_of_ble_eq_true rfl) rfl ?_
        refine r_iconst_ (a := 0) rfl (by decide) ?_
        refine r_istore rfl (Nat.le_of_ble_eq_true rfl) rfl ?_
        subst he
        exact r_weak (L1 := [some (.ref 60), some (.int x1), some (.int x2), some (.int (9999 : Int32)), some (.int (0 : Int32)), none]) ⟨rfl, rfl, rfl, rfl, rfl, trivial⟩ (lp_X12_fillsRest_37 _ _ hK2 _ _ (fun _ _ _ _ h9 => ih _ _ _ _ h9) fu _ _ _ _ _ _ hk)
      · rw [if_pos c_23] at he
        replace hk := hk.1 c_23
        refine r_iconst_ (a := 0) rfl (by decide) ?_
        refine r_goto rfl ?_
        refine r_istore_n rfl (Nat.le_of_ble_eq_true rfl) rfl ?_
        refine r_iconst_ (a := 0) rfl (by decide) ?_
        refine r_istore rfl (Nat.le_of_ble_eq_true rfl) rfl ?_
        subst he
        exact r_weak (L1 := [some (.ref 60), some (.int x1), some (.int x2), some (.int (0 : Int32)), some (.int (0 : Int32)), none]) ⟨rfl, rfl, rfl, rfl, rfl, trivial⟩ (lp_X12_fillsRest_37 _ _ hK2 _ _ (fun _ _ _ _ h9 => ih _ _ _ _ h9) fu _ _ _ _ _ _ hk)

def f_X12_fillsRest_2 : Nat → Int32 → fl_I → fl_L → fl_I × fl_L
  | 0, x1, s, l => (s, l)
  | n + 1, x1, s, l =>
    if (((1 : Int32) <<< ((s 60 60) &&& 31)) ≤ x1) then (s, l) else f_X12_fillsRest_14 (fun x1 s l => f_X12_fillsRest_2 n x1 s l) fu x1 (0 : Int32) s l

def p_X12_fillsRest_2 : Nat → Int32 → fl_I → fl_L → Prop
  | 0, _, _, _ => False
  | n + 1, x1, s, l =>
    (((((1 : Int32) <<< ((s 60 60) &&& 31)) ≤ x1) → True) ∧ (¬ (((1 : Int32) <<< ((s 60 60) &&& 31)) ≤ x1) → p_X12_fillsRest_14 (fun x1 s l => p_X12_fillsRest_2 n x1 s l) fu x1 (0 : Int32) s l))

set_option maxRecDepth 100000 in
set_option maxHeartbeats 4000000 in
theorem lp_X12_fillsRest_2 {G : ab_G} {d : Nat} {D : fl_D} : ∀ (n : Nat) (x1 : Int32) (s : fl_I) (l : fl_L), p_X12_fillsRest_2 n x1 s l → ab_C G (d + 2) 0 0 M_X12_fillsRest 2 [some (.ref 60), some (.int x1), none, none, none, none] [] (hp D s l) (rt none (hp D (f_X12_fillsRest_2 n x1 s l).1 (f_X12_fillsRest_2 n x1 s l).2)) := by
  intro n
  induction n with
  | zero => intro x1 s l hk; exact hk.elim
  | succ n ih =>
    intro x1 s l hk
    generalize he : f_X12_fillsRest_2 (n + 1) x1 s l = res
    unfold f_X12_fillsRest_2 at he
    unfold p_X12_fillsRest_2 at hk
    refine r_iload_n rfl rfl ?_
    refine r_iconst_ (a := 1) rfl (by decide) ?_
    refine r_aload_n rfl rfl ?_
    refine q_getfield rfl (cc_60 _) rfl ?_
    refine r_ishl rfl ?_
    refine r_icmp_ge rfl (fun c_9 => ?_) (fun c_9 => ?_)
    · rw [if_pos c_9] at he
      replace hk := hk.1 c_9
      refine r_ret rfl rfl ?_
      subst he
      exact ⟨rfl, rfl⟩
    · rw [if_neg c_9] at he
      replace hk := hk.2 c_9
      refine r_iconst_ (a := 0) rfl (by decide) ?_
      refine r_istore_n rfl (Nat.le_of_ble_eq_true rfl) rfl ?_
      subst he
      exact r_weak (L1 := [some (.ref 60), some (.int x1), some (.int (0 : Int32)), none, none, none]) ⟨rfl, rfl, rfl, trivial⟩ (lp_X12_fillsRest_14 _ _ (fun _ _ _ h9 => ih _ _ _ h9) fu _ _ _ _ hk)

def f_X12_fillsRest (s : fl_I) (l : fl_L) : fl_I × fl_L :=
  f_X12_fillsRest_2 fu (0 : Int32) s l

def p_X12_fillsRest (s : fl_I) (l : fl_L) : Prop :=
  p_X12_fillsRest_2 fu (0 : Int32) s l

set_option maxRecDepth 100000 in
set_option maxHeartbeats 4000000 in
theorem s_X12_fillsRest {G : ab_G} {d : Nat} {D : fl_D} {s : fl_I} {l : fl_L}  (hk : p_X12_fillsRest s l) : ab_C G (d + 2) 0 0 M_X12_fillsRest 0 (ab_ent [.ref 60]) [] (hp D s l) (rt none (hp D (f_X12_fillsRest s l).1 (f_X12_fillsRest s l).2)) := by
  generalize he : (f_X12_fillsRest s l) = res
  unfold f_X12_fillsRest at he
  unfold p_X12_fillsRest at hk
  refine r_weak (L1 := [some (.ref 60), none, none, none, none, none]) ⟨rfl, trivial⟩ ?_
  refine r_iconst_ (a := 0) rfl (by decide) ?_
  refine r_istore_n rfl (Nat.le_of_ble_eq_true rfl) rfl ?_
  subst he
  exact r_weak (L1 := [some (.ref 60), some (.int (0 : Int32)), none, none, none, none]) ⟨rfl, rfl, trivial⟩ (lp_X12_fillsRest_2 fu _ _ _ hk)

def f_X12_pickerGoes_144 (s : fl_I) (l : fl_L) : fl_I × fl_L :=
    (s, l)

def p_X12_pickerGoes_144 (s : fl_I) (l : fl_L) : Prop :=
    True

set_option maxRecDepth 100000 in
set_option maxHeartbeats 4000000 in
theorem lp_X12_pickerGoes_144 {G : ab_G} {d : Nat} {D : fl_D} : ∀ (s : fl_I) (l : fl_L), p_X12_pickerGoes_144  s l → ab_C G (d + 1) 0 0 M_X12_pickerGoes 144 [none, none, none] [] (hp D s l) (rt none (hp D (f_X12_pickerGoes_144  s l).1 (f_X12_pickerGoes_144  s l).2)) := by
  intro  s l hk
  generalize he : f_X12_pickerGoes_144  s l = res
  unfold f_X12_pickerGoes_144 at he
  unfold p_X12_pickerGoes_144 at hk
  refine r_ret rfl rfl ?_
  subst he
  exact ⟨rfl, rfl⟩

def f_X12_pickerGoes_123 (x1 : Int32) (x2 : Int32) (s : fl_I) (l : fl_L) : fl_I × fl_L :=
    if ((f_X12_cellOfPicker x1 s l) = x2) then f_X12_pickerGoes_144  (wi s 95 ((136 : Int32) + x1).toNatClampNeg (-2 : Int32)) l else f_X12_pickerGoes_144  s l

def p_X12_pickerGoes_123 (x1 : Int32) (x2 : Int32) (s : fl_I) (l : fl_L) : Prop :=
    (p_X12_cellOfPicker x1 s l) ∧ ((((f_X12_cellOfPicker x1 s l) = x2) → (vp_in ((136 : Int32) + x1) 141) ∧ p_X12_pickerGoes_144  (wi s 95 ((136 : Int32) + x1).toNatClampNeg (-2 : Int32)) l) ∧ (¬ ((f_X12_cellOfPicker x1 s l) = x2) → p_X12_pickerGoes_144  s l))

set_option maxRecDepth 100000 in
set_option maxHeartbeats 4000000 in
theorem lp_X12_pickerGoes_123 {G : ab_G} {d : Nat} {D : fl_D} : ∀ (x1 : Int32) (x2 : Int32) (s : fl_I) (l : fl_L), p_X12_pickerGoes_123 x1 x2 s l → ab_C G (d + 1) 0 0 M_X12_pickerGoes 123 [some (.ref 60), some (.int x1), some (.int x2)] [] (hp D s l) (rt none (hp D (f_X12_pickerGoes_123 x1 x2 s l).1 (f_X12_pickerGoes_123 x1 x2 s l).2)) := by
  intro x1 x2 s l hk
  generalize he : f_X12_pickerGoes_123 x1 x2 s l = res
  unfold f_X12_pickerGoes_123 at he
  unfold p_X12_pickerGoes_123 at hk
  refine r_aload_n rfl rfl ?_
  refine r_iload_n rfl rfl ?_
  obtain ⟨hb3, hk⟩ := hk
  refine q_callV0 [_] _ rfl kY_X12_cellOfPicker kT_X12_cellOfPicker rfl rfl (Nat.le_of_ble_eq_true rfl) (Nat.le_of_ble_eq_true rfl) (cc_60 _) (s_X12_cellOfPicker hb3) (fun r h q => ?_)
  obtain ⟨rfl, rfl⟩ := q
  simp only [Option.toList, List.cons_append, List.nil_append]
  refine r_iload_n rfl rfl ?_
  refine r_icmp_ne rfl (fun c_129 => ?_) (fun c_129 => ?_)
  · rw [if_neg c_129] at he
    replace hk := hk.2 c_129
    subst he
    exact r_weak (L1 := [none, none, none]) trivial (lp_X12_pickerGoes_144 _ _ hk)
  · rw [if_pos c_129] at he
    replace hk := hk.1 c_129
    refine r_aload_n rfl rfl ?_
    refine q_getfield rfl (cc_60 _) rfl ?_
    refine r_sipush_ (a := 136) rfl (by decide) ?_
    refine r_iload_n rfl rfl ?_
    refine r_iadd rfl ?_
    refine r_bipush_ (a := -2) rfl (by decide) ?_
    obtain ⟨hb4, hk⟩ := hk
    refine w_iast rfl (cc_95 _) hb4 ?_
    subst he
    exact r_weak (L1 := [none, none, none]) trivial (lp_X12_pickerGoes_144 _ _ hk)

def f_X12_pickerGoes (v0 : Int32) (s : fl_I) (l : fl_L) : fl_I × fl_L :=
  if (0 ≤ (s 95 ((136 : Int32) + v0).toNatClampNeg)) then if ((s 95 ((128 : Int32) + v0).toNatClampNeg) = ((s 95 ((136 : Int32) + v0).toNatClampNeg) - (s 95 ((136 : Int32) + v0).toNatClampNeg) / (10 : Int32) * (10 : Int32))) then if ((s 95 ((132 : Int32) + v0).toNatClampNeg) = ((s 95 ((136 : Int32) + v0).toNatClampNeg) / (10 : Int32))) then f_X12_pickerGoes_123 v0 (s 95 ((136 : Int32) + v0).toNatClampNeg) s l else if (((s 95 ((136 : Int32) + v0).toNatClampNeg) / (10 : Int32)) ≤ (s 95 ((132 : Int32) + v0).toNatClampNeg)) then f_X12_pickerGoes_123 v0 (s 95 ((136 : Int32) + v0).toNatClampNeg) (wi s 95 ((132 : Int32) + v0).toNatClampNeg ((s 95 ((132 : Int32) + v0).toNatClampNeg) + (-1 : Int32))) l else f_X12_pickerGoes_123 v0 (s 95 ((136 : Int32) + v0).toNatClampNeg) (wi s 95 ((132 : Int32) + v0).toNatClampNeg ((s 95 ((132 : Int32) + v0).toNatClampNeg) + (1 : Int32))) l else if (((s 95 ((136 : Int32) + v0).toNatClampNeg) - (s 95 ((136 : Int32) + v0).toNatClampNeg) / (10 : Int32) * (10 : Int32)) ≤ (s 95 ((128 : Int32) + v0).toNatClampNeg)) then f_X12_pickerGoes_123 v0 (s 95 ((136 : Int32) + v0).toNatClampNeg) (wi s 95 ((128 : Int32) + v0).toNatClampNeg ((s 95 ((128 : Int32) + v0).toNatClampNeg) + (-1 : Int32))) l else f_X12_pickerGoes_123 v0 (s 95 ((136 : Int32) + v0).toNatClampNeg) (wi s 95 ((128 : Int32) + v0).toNatClampNeg ((s 95 ((128 : Int32) + v0).toNatClampNeg) + (1 : Int32))) l else (s, l)

def p_X12_pickerGoes (v0 : Int32) (s : fl_I) (l : fl_L) : Prop :=
  (vp_in ((136 : Int32) + v0) 141) ∧ (((0 ≤ (s 95 ((136 : Int32) + v0).toNatClampNeg)) → (vp_in ((128 : Int32) + v0) 141) ∧ ((((s 95 ((128 : Int32) + v0).toNatClampNeg) = ((s 95 ((136 : Int32) + v0).toNatClampNeg) - (s 95 ((136 : Int32) + v0).toNatClampNeg) / (10 : Int32) * (10 : Int32))) → (vp_in ((132 : Int32) + v0) 141) ∧ ((((s 95 ((132 : Int32) + v0).toNatClampNeg) = ((s 95 ((136 : Int32) + v0).toNatClampNeg) / (10 : Int32))) → p_X12_pickerGoes_123 v0 (s 95 ((136 : Int32) + v0).toNatClampNeg) s l) ∧ (¬ ((s 95 ((132 : Int32) + v0).toNatClampNeg) = ((s 95 ((136 : Int32) + v0).toNatClampNeg) / (10 : Int32))) → (vp_in ((132 : Int32) + v0) 141) ∧ (vp_in ((132 : Int32) + v0) 141) ∧ (((((s 95 ((136 : Int32) + v0).toNatClampNeg) / (10 : Int32)) ≤ (s 95 ((132 : Int32) + v0).toNatClampNeg)) → (vp_in ((132 : Int32) + v0) 141) ∧ p_X12_pickerGoes_123 v0 (s 95 ((136 : Int32) + v0).toNatClampNeg) (wi s 95 ((132 : Int32) + v0).toNatClampNeg ((s 95 ((132 : Int32) + v0).toNatClampNeg) + (-1 : Int32))) l) ∧ (¬ (((s 95 ((136 : Int32) + v0).toNatClampNeg) / (10 : Int32)) ≤ (s 95 ((132 : Int32) + v0).toNatClampNeg)) → (vp_in ((132 : Int32) + v0) 141) ∧ p_X12_pickerGoes_123 v0 (s 95 ((136 : Int32) + v0).toNatClampNeg) (wi s 95 ((132 : Int32) + v0).toNatClampNeg ((s 95 ((132 : Int32) + v0).toNatClampNeg) + (1 : Int32))) l))))) ∧ (¬ ((s 95 ((128 : Int32) + v0).toNatClampNeg) = ((s 95 ((136 : Int32) + v0).toNatClampNeg) - (s 95 ((136 : Int32) + v0).toNatClampNeg) / (10 : Int32) * (10 : Int32))) → (vp_in ((128 : Int32) + v0) 141) ∧ (vp_in ((128 : Int32) + v0) 141) ∧ (((((s 95 ((136 : Int32) + v0).toNatClampNeg) - (s 95 ((136 : Int32) + v0).toNatClampNeg) / (10 : Int32) * (10 : Int32)) ≤ (s 95 ((128 : Int32) + v0).toNatClampNeg)) → (vp_in ((128 : Int32) + v0) 141) ∧ p_X12_pickerGoes_123 v0 (s 95 ((136 : Int32) + v0).toNatClampNeg) (wi s 95 ((128 : Int32) + v0).toNatClampNeg ((s 95 ((128 : Int32) + v0).toNatClampNeg) + (-1 : Int32))) l) ∧ (¬ (((s 95 ((136 : Int32) + v0).toNatClampNeg) - (s 95 ((136 : Int32) + v0).toNatClampNeg) / (10 : Int32) * (10 : Int32)) ≤ (s 95 ((128 : Int32) + v0).toNatClampNeg)) → (vp_in ((128 : Int32) + v0) 141) ∧ p_X12_pickerGoes_123 v0 (s 95 ((136 : Int32) + v0).toNatClampNeg) (wi s 95 ((128 : Int32) + v0).toNatClampNeg ((s 95 ((128 : Int32) + v0).toNatClampNeg) + (1 : Int32))) l))))) ∧ (¬ (0 ≤ (s 95 ((136 : Int32) + v0).toNatClampNeg)) → True))

set_option maxRecDepth 100000 in
set_option maxHeartbeats 4000000 in
theorem s_X12_pickerGoes {G : ab_G} {d : Nat} {D : fl_D} {s : fl_I} {l : fl_L} {v0 : Int32} (hk : p_X12_pickerGoes v0 s l) : ab_C G (d + 1) 0 0 M_X12_pickerGoes 0 (ab_ent [.ref 60, .int v0]) [] (hp D s l) (rt none (hp D (f_X12_pickerGoes v0 s l).1 (f_X12_pickerGoes v0 s l).2)) := by
  generalize he : (f_X12_pickerGoes v0 s l) = res
  unfold f_X12_pickerGoes at he
  unfold p_X12_pickerGoes at hk
  refine r_weak (L1 := [some (.ref 60), some (.int v0), none]) ⟨rfl, rfl, trivial⟩ ?_
  refine r_aload_n rfl rfl ?_
  refine q_getfield rfl (cc_60 _) rfl ?_
  refine r_sipush_ (a := 136) rfl (by decide) ?_
  refine r_iload_n rfl rfl ?_
  refine r_iadd rfl ?_
  obtain ⟨hb0, hk⟩ := hk
  refine q_iald rfl (cc_95 _) hb0 ?_
  refine r_istore_n rfl (Nat.le_of_ble_eq_true rfl) rfl ?_
  refine r_iload_n rfl rfl ?_
  refine r_if_ge rfl (fun c_12 => ?_) (fun c_12 => ?_)
  · rw [if_pos c_12] at he
    replace hk := hk.1 c_12
    refine r_aload_n rfl rfl ?_
    refine q_getfield rfl (cc_60 _) rfl ?_
    refine r_sipush_ (a := 128) rfl (by decide) ?_
    refine r_iload_n rfl rfl ?_
    refine r_iadd rfl ?_
    obtain ⟨hb1, hk⟩ := hk
    refine q_iald rfl (cc_95 _) hb1 ?_
    refine r_iload_n rfl rfl ?_
    refine r_bipush_ (a := 10) rfl (by decide) ?_
    refine r_irem rfl (by decide) ?_
    refine r_icmp_eq rfl (fun c_30 => ?_) (fun c_30 => ?_)
    · rw [if_pos c_30] at he
      replace hk := hk.1 c_30
      refine r_aload_n rfl rfl ?_
      refine q_getfield rfl (cc_60 _) rfl ?_
      refine r_sipush_ (a := 132) rfl (by decide) ?_
      refine r_iload_n rfl rfl ?_
      refine r_iadd rfl ?_
      obtain ⟨hb2, hk⟩ := hk
      refine q_iald rfl (cc_95 _) hb2 ?_
      refine r_iload_n rfl rfl ?_
      refine r_bipush_ (a := 10) rfl (by decide) ?_
      refine r_idiv rfl (by decide) ?_
      refine r_icmp_eq rfl (fun c_85 => ?_) (fun c_85 => ?_)
      · rw [if_pos c_85] at he
        replace hk := hk.1 c_85
        subst he
        exact r_weak (L1 := [some (.ref 60), some (.int v0), some (.int (s 95 ((136 : Int32) + v0).toNatClampNeg))]) ⟨rfl, rfl, rfl, trivial⟩ (lp_X12_pickerGoes_123 _ _ _ _ hk)
      · rw [if_neg c_85] at he
        replace hk := hk.2 c_85
        refine r_aload_n rfl rfl ?_
        refine q_getfield rfl (cc_60 _) rfl ?_
        refine r_sipush_ (a := 132) rfl (by decide) ?_
        refine r_iload_n rfl rfl ?_
        refine r_iadd rfl ?_
        refine r_dup2 rfl rfl rfl ?_
        obtain ⟨hb5, hk⟩ := hk
        refine q_iald rfl (cc_95 _) hb5 ?_
        refine r_aload_n rfl rfl ?_
        refine q_getfield rfl (cc_60 _) rfl ?_
        refine r_sipush_ (a := 132) rfl (by decide) ?_
        refine r_iload_n rfl rfl ?_
        refine r_iadd rfl ?_
        obtain ⟨hb6, hk⟩ := hk
        refine q_iald rfl (cc_95 _) hb6 ?_
        refine r_iload_n rfl rfl ?_
        refine r_bipush_ (a := 10) rfl (by decide) ?_
        refine r_idiv rfl (by decide) ?_
        refine r_icmp_ge rfl (fun c_113 => ?_) (fun c_113 => ?_)
        · rw [if_pos c_113] at he
          replace hk := hk.1 c_113
          refine r_iconst_ (a := -1) rfl (by decide) ?_
          refine r_iadd rfl ?_
          obtain ⟨hb7, hk⟩ := hk
          refine w_iast rfl (cc_95 _) hb7 ?_
          subst he
          exact r_weak (L1 := [some (.ref 60), some (.int v0), some (.int (s 95 ((136 : Int32) + v0).toNatClampNeg))]) ⟨rfl, rfl, rfl, trivial⟩ (lp_X12_pickerGoes_123 _ _ _ _ hk)
        · rw [if_neg c_113] at he
          replace hk := hk.2 c_113
          refine r_iconst_ (a := 1) rfl (by decide) ?_
          refine r_goto rfl ?_
          refine r_iadd rfl ?_
          obtain ⟨hb8, hk⟩ := hk
          refine w_iast rfl (cc_95 _) hb8 ?_
          subst he
          exact r_weak (L1 := [some (.ref 60), some (.int v0), some (.int (s 95 ((136 : Int32) + v0).toNatClampNeg))]) ⟨rfl, rfl, rfl, trivial⟩ (lp_X12_pickerGoes_123 _ _ _ _ hk)
    · rw [if_neg c_30] at he
      replace hk := hk.2 c_30
      refine r_aload_n rfl rfl ?_
      refine q_getfield rfl (cc_60 _) rfl ?_
      refine r_sipush_ (a := 128) rfl (by decide) ?_
      refine r_iload_n rfl rfl ?_
      refine r_iadd rfl ?_
      refine r_dup2 rfl rfl rfl ?_
      obtain ⟨hb9, hk⟩ := hk
      refine q_iald rfl (cc_95 _) hb9 ?_
      refine r_aload_n rfl rfl ?_
      refine q_getfield rfl (cc_60 _) rfl ?_
      refine r_sipush_ (a := 128) rfl (by decide) ?_
      refine r_iload_n rfl rfl ?_
      refine r_iadd rfl ?_
      obtain ⟨hb10, hk⟩ := hk
      refine q_iald rfl (cc_95 _) hb10 ?_
      refine r_iload_n rfl rfl ?_
      refine r_bipush_ (a := 10) rfl (by decide) ?_
      refine r_irem rfl (by decide) ?_
      refine r_icmp_ge rfl (fun c_58 => ?_) (fun c_58 => ?_)
      · rw [if_pos c_58] at he
        replace hk := hk.1 c_58
        refine r_iconst_ (a := -1) rfl (by decide) ?_
        refine r_iadd rfl ?_
        obtain ⟨hb11, hk⟩ := hk
        refine w_iast rfl (cc_95 _) hb11 ?_
        refine r_goto rfl ?_
        subst he
        exact r_weak (L1 := [some (.ref 60), some (.int v0), some (.int (s 95 ((136 : Int32) + v0).toNatClampNeg))]) ⟨rfl, rfl, rfl, trivial⟩ (lp_X12_pickerGoes_123 _ _ _ _ hk)
      · rw [if_neg c_58] at he
        replace hk := hk.2 c_58
        refine r_iconst_ (a := 1) rfl (by decide) ?_
        refine r_goto rfl ?_
        refine r_iadd rfl ?_
        obtain ⟨hb12, hk⟩ := hk
        refine w_iast rfl (cc_95 _) hb12 ?_
        refine r_goto rfl ?_
        subst he
        exact r_weak (L1 := [some (.ref 60), some (.int v0), some (.int (s 95 ((136 : Int32) + v0).toNatClampNeg))]) ⟨rfl, rfl, rfl, trivial⟩ (lp_X12_pickerGoes_123 _ _ _ _ hk)
  · rw [if_neg c_12] at he
    replace hk := hk.2 c_12
    refine r_ret rfl rfl ?_
    subst he
    exact ⟨rfl, rfl⟩

def f_X12_termOf_159 (K5 : Int32 → Int32 → Int32 → fl_I → fl_L → Int32 × fl_I × fl_L) (x2 : Int32) (x3 : Int32) (x4 : Int32) (s : fl_I) (l : fl_L) : Int32 × fl_I × fl_L :=
    K5 x2 x3 (x4 + 1) s l

def p_X12_termOf_159 (P5 : Int32 → Int32 → Int32 → fl_I → fl_L → Prop) (x2 : Int32) (x3 : Int32) (x4 : Int32) (s : fl_I) (l : fl_L) : Prop :=
    P5 x2 x3 (x4 + 1) s l

set_option maxRecDepth 100000 in
set_option maxHeartbeats 4000000 in
theorem lp_X12_termOf_159 {G : ab_G} {d : Nat} {D : fl_D} (K5 : Int32 → Int32 → Int32 → fl_I → fl_L → Int32 × fl_I × fl_L) (P5 : Int32 → Int32 → Int32 → fl_I → fl_L → Prop) (hK5 : ∀ (x2 : Int32) (x3 : Int32) (x4 : Int32) (s : fl_I) (l : fl_L), P5 x2 x3 x4 s l → ab_C G d 0 0 M_X12_termOf 5 [some (.ref 60), none, some (.int x2), some (.int x3), some (.int x4), none, none, none] [] (hp D s l) (rt (some (.int (K5 x2 x3 x4 s l).1)) (hp D (K5 x2 x3 x4 s l).2.1 (K5 x2 x3 x4 s l).2.2))) : ∀ (x2 : Int32) (x3 : Int32) (x4 : Int32) (s : fl_I) (l : fl_L), p_X12_termOf_159 P5 x2 x3 x4 s l → ab_C G d 0 0 M_X12_termOf 159 [some (.ref 60), none, some (.int x2), some (.int x3), some (.int x4), none, none, none] [] (hp D s l) (rt (some (.int (f_X12_termOf_159 K5 x2 x3 x4 s l).1)) (hp D (f_X12_termOf_159 K5 x2 x3 x4 s l).2.1 (f_X12_termOf_159 K5 x2 x3 x4 s l).2.2)) := by
  intro x2 x3 x4 s l hk
  generalize he : f_X12_termOf_159 K5 x2 x3 x4 s l = res
  unfold f_X12_termOf_159 at he
  unfold p_X12_termOf_159 at hk
  refine r_iinc (b := x4 + 1) rfl rfl rfl (Nat.le_of_ble_eq_true rfl) rfl ?_
  refine r_goto rfl ?_
  subst he
  exact r_weak (L1 := [some (.ref 60), none, some (.int x2), some (.int x3), some (.int (x4 + 1)), none, none, none]) ⟨rfl, rfl, rfl, rfl, trivial⟩ (hK5 _ _ _ _ _ hk)

def f_X12_termOf_104 (K5 : Int32 → Int32 → Int32 → fl_I → fl_L → Int32 × fl_I × fl_L) (x2 : Int32) (x3 : Int32) (x4 : Int32) (x5 : Int32) (x6 : Int32) (x7 : Int32) (s : fl_I) (l : fl_L) : Int32 × fl_I × fl_L :=
    if (x5 = (2 : Int32)) then f_X12_termOf_159 K5 x2 x3 x4 (wi s 93 (x3 - (1 : Int32)).toNatClampNeg (x6 + x7)) l else if (x5 = (3 : Int32)) then f_X12_termOf_159 K5 x2 x3 x4 (wi s 93 (x3 - (1 : Int32)).toNatClampNeg (x6 - x7)) l else if (x5 = (4 : Int32)) then f_X12_termOf_159 K5 x2 x3 x4 (wi s 93 (x3 - (1 : Int32)).toNatClampNeg (x6 * x7)) l else f_X12_termOf_159 K5 x2 x3 x4 (wi s 93 (x3 - (1 : Int32)).toNatClampNeg (x6 / x7)) l

def p_X12_termOf_104 (P5 : Int32 → Int32 → Int32 → fl_I → fl_L → Prop) (x2 : Int32) (x3 : Int32) (x4 : Int32) (x5 : Int32) (x6 : Int32) (x7 : Int32) (s : fl_I) (l : fl_L) : Prop :=
    (((x5 = (2 : Int32)) → (vp_in (x3 - (1 : Int32)) 400) ∧ p_X12_termOf_159 P5 x2 x3 x4 (wi s 93 (x3 - (1 : Int32)).toNatClampNeg (x6 + x7)) l) ∧ (¬ (x5 = (2 : Int32)) → (((x5 = (3 : Int32)) → (vp_in (x3 - (1 : Int32)) 400) ∧ p_X12_termOf_159 P5 x2 x3 x4 (wi s 93 (x3 - (1 : Int32)).toNatClampNeg (x6 - x7)) l) ∧ (¬ (x5 = (3 : Int32)) → (((x5 = (4 : Int32)) → (vp_in (x3 - (1 : Int32)) 400) ∧ p_X12_termOf_159 P5 x2 x3 x4 (wi s 93 (x3 - (1 : Int32)).toNatClampNeg (x6 * x7)) l) ∧ (¬ (x5 = (4 : Int32)) → (¬ x7 = 0) ∧ (vp_in (x3 - (1 : Int32)) 400) ∧ p_X12_termOf_159 P5 x2 x3 x4 (wi s 93 (x3 - (1 : Int32)).toNatClampNeg (x6 / x7)) l))))))

set_option maxRecDepth 100000 in
set_option maxHeartbeats 4000000 in
theorem lp_X12_termOf_104 {G : ab_G} {d : Nat} {D : fl_D} (K5 : Int32 → Int32 → Int32 → fl_I → fl_L → Int32 × fl_I × fl_L) (P5 : Int32 → Int32 → Int32 → fl_I → fl_L → Prop) (hK5 : ∀ (x2 : Int32) (x3 : Int32) (x4 : Int32) (s : fl_I) (l : fl_L), P5 x2 x3 x4 s l → ab_C G d 0 0 M_X12_termOf 5 [some (.ref 60), none, some (.int x2), some (.int x3), some (.int x4), none, none, none] [] (hp D s l) (rt (some (.int (K5 x2 x3 x4 s l).1)) (hp D (K5 x2 x3 x4 s l).2.1 (K5 x2 x3 x4 s l).2.2))) : ∀ (x2 : Int32) (x3 : Int32) (x4 : Int32) (x5 : Int32) (x6 : Int32) (x7 : Int32) (s : fl_I) (l : fl_L), p_X12_termOf_104 P5 x2 x3 x4 x5 x6 x7 s l → ab_C G d 0 0 M_X12_termOf 104 [some (.ref 60), none, some (.int x2), some (.int x3), some (.int x4), some (.int x5), some (.int x6), some (.int x7)] [] (hp D s l) (rt (some (.int (f_X12_termOf_104 K5 x2 x3 x4 x5 x6 x7 s l).1)) (hp D (f_X12_termOf_104 K5 x2 x3 x4 x5 x6 x7 s l).2.1 (f_X12_termOf_104 K5 x2 x3 x4 x5 x6 x7 s l).2.2)) := by
  intro x2 x3 x4 x5 x6 x7 s l hk
  generalize he : f_X12_termOf_104 K5 x2 x3 x4 x5 x6 x7 s l = res
  unfold f_X12_termOf_104 at he
  unfold p_X12_termOf_104 at hk
  refine r_aload_n rfl rfl ?_
  refine q_getfield rfl (cc_60 _) rfl ?_
  refine r_iload_n rfl rfl ?_
  refine r_iconst_ (a := 1) rfl (by decide) ?_
  refine r_isub rfl ?_
  refine r_iload rfl rfl ?_
  refine r_iconst_ (a := 2) rfl (by decide) ?_
  refine r_icmp_ne rfl (fun c_114 => ?_) (fun c_114 => ?_)
  · rw [if_neg c_114] at he
    replace hk := hk.2 c_114
    refine r_iload rfl rfl ?_
    refine r_iconst_ (a := 3) rfl (by decide) ?_
    refine r_icmp_ne rfl (fun c_128 => ?_) (fun c_128 => ?_)
    · rw [if_neg c_128] at he
      replace hk := hk.2 c_128
      refine r_iload rfl rfl ?_
      refine r_iconst_ (a := 4) rfl (by decide) ?_
      refine r_icmp_ne rfl (fun c_142 => ?_) (fun c_142 => ?_)
      · rw [if_neg c_142] at he
        replace hk := hk.2 c_142
        refine r_iload rfl rfl ?_
        refine r_iload rfl rfl ?_
        obtain ⟨hb3, hk⟩ := hk
        refine r_idiv rfl hb3 ?_
        obtain ⟨hb4, hk⟩ := hk
        refine w_iast rfl (cc_93 _) hb4 ?_
        subst he
        exact r_weak (L1 := [some (.ref 60), none, some (.int x2), some (.int x3), some (.int x4), none, none, none]) ⟨rfl, rfl, rfl, rfl, trivial⟩ (lp_X12_termOf_159 _ _ hK5 _ _ _ _ _ hk)
      · rw [if_pos c_142] at he
        replace hk := hk.1 c_142
        refine r_iload rfl rfl ?_
        refine r_iload rfl rfl ?_
        refine r_imul rfl ?_
        refine r_goto rfl ?_
        obtain ⟨hb5, hk⟩ := hk
        refine w_iast rfl (cc_93 _) hb5 ?_
        subst he
        exact r_weak (L1 := [some (.ref 60), none, some (.int x2), some (.int x3), some (.int x4), none, none, none]) ⟨rfl, rfl, rfl, rfl, trivial⟩ (lp_X12_termOf_159 _ _ hK5 _ _ _ _ _ hk)
    · rw [if_pos c_128] at he
      replace hk := hk.1 c_128
      refine r_iload rfl rfl ?_
      refine r_iload rfl rfl ?_
      refine r_isub rfl ?_
      refine r_goto rfl ?_
      obtain ⟨hb6, hk⟩ := hk
      refine w_iast rfl (cc_93 _) hb6 ?_
      subst he
      exact r_weak (L1 := [some (.ref 60), none, some (.int x2), some (.int x3), some (.int x4), none, none, none]) ⟨rfl, rfl, rfl, rfl, trivial⟩ (lp_X12_termOf_159 _ _ hK5 _ _ _ _ _ hk)
  · rw [if_pos c_114] at he
    replace hk := hk.1 c_114
    refine r_iload rfl rfl ?_
    refine r_iload rfl rfl ?_
    refine r_iadd rfl ?_
    refine r_goto rfl ?_
    obtain ⟨hb7, hk⟩ := hk
    refine w_iast rfl (cc_93 _) hb7 ?_
    subst he
    exact r_weak (L1 := [some (.ref 60), none, some (.int x2), some (.int x3), some (.int x4), none, none, none]) ⟨rfl, rfl, rfl, rfl, trivial⟩ (lp_X12_termOf_159 _ _ hK5 _ _ _ _ _ hk)

def f_X12_termOf_5 : Nat → Int32 → Int32 → Int32 → fl_I → fl_L → Int32 × fl_I × fl_L
  | 0, x2, x3, x4, s, l => (0, s, l)
  | n + 1, x2, x3, x4, s, l =>
    if (x2 ≤ x4) then ((s 93 (0 : Int32).toNatClampNeg), s, l) else if ((2 : Int32) ≤ (s 89 x4.toNatClampNeg)) then if ((s 89 x4.toNatClampNeg) = (5 : Int32)) then if ((s 93 (x3 + (-1)).toNatClampNeg) = 0) then ((0 : Int32), (wi s 60 49 (1 : Int32)), l) else f_X12_termOf_104 (fun x2 x3 x4 s l => f_X12_termOf_5 n x2 x3 x4 s l) x2 (x3 + (-1)) x4 (s 89 x4.toNatClampNeg) (s 93 ((x3 + (-1)) - (1 : Int32)).toNatClampNeg) (s 93 (x3 + (-1)).toNatClampNeg) s l else f_X12_termOf_104 (fun x2 x3 x4 s l => f_X12_termOf_5 n x2 x3 x4 s l) x2 (x3 + (-1)) x4 (s 89 x4.toNatClampNeg) (s 93 ((x3 + (-1)) - (1 : Int32)).toNatClampNeg) (s 93 (x3 + (-1)).toNatClampNeg) s l else if ((s 89 x4.toNatClampNeg) = 0) then f_X12_termOf_159 (fun x2 x3 x4 s l => f_X12_termOf_5 n x2 x3 x4 s l) x2 (x3 + 1) x4 (wi s 93 x3.toNatClampNeg (s 90 x4.toNatClampNeg)) l else f_X12_termOf_159 (fun x2 x3 x4 s l => f_X12_termOf_5 n x2 x3 x4 s l) x2 (x3 + 1) x4 (wi s 93 x3.toNatClampNeg (s 92 (s 90 x4.toNatClampNeg).toNatClampNeg)) l

def p_X12_termOf_5 : Nat → Int32 → Int32 → Int32 → fl_I → fl_L → Prop
  | 0, _, _, _, _, _ => False
  | n + 1, x2, x3, x4, s, l =>
    (((x2 ≤ x4) → True) ∧ (¬ (x2 ≤ x4) → (vp_in x4 840) ∧ ((((2 : Int32) ≤ (s 89 x4.toNatClampNeg)) → (vp_in ((x3 + (-1)) - (1 : Int32)) 400) ∧ (vp_in (x3 + (-1)) 400) ∧ ((((s 89 x4.toNatClampNeg) = (5 : Int32)) → ((((s 93 (x3 + (-1)).toNatClampNeg) = 0) → True) ∧ (¬ ((s 93 (x3 + (-1)).toNatClampNeg) = 0) → p_X12_termOf_104 (fun x2 x3 x4 s l => p_X12_termOf_5 n x2 x3 x4 s l) x2 (x3 + (-1)) x4 (s 89 x4.toNatClampNeg) (s 93 ((x3 + (-1)) - (1 : Int32)).toNatClampNeg) (s 93 (x3 + (-1)).toNatClampNeg) s l))) ∧ (¬ ((s 89 x4.toNatClampNeg) = (5 : Int32)) → p_X12_termOf_104 (fun x2 x3 x4 s l => p_X12_termOf_5 n x2 x3 x4 s l) x2 (x3 + (-1)) x4 (s 89 x4.toNatClampNeg) (s 93 ((x3 + (-1)) - (1 : Int32)).toNatClampNeg) (s 93 (x3 + (-1)).toNatClampNeg) s l))) ∧ (¬ ((2 : Int32) ≤ (s 89 x4.toNatClampNeg)) → ((((s 89 x4.toNatClampNeg) = 0) → (vp_in x4 840) ∧ (vp_in x3 400) ∧ p_X12_termOf_159 (fun x2 x3 x4 s l => p_X12_termOf_5 n x2 x3 x4 s l) x2 (x3 + 1) x4 (wi s 93 x3.toNatClampNeg (s 90 x4.toNatClampNeg)) l) ∧ (¬ ((s 89 x4.toNatClampNeg) = 0) → (vp_in x4 840) ∧ (vp_in (s 90 x4.toNatClampNeg) 9) ∧ (vp_in x3 400) ∧ p_X12_termOf_159 (fun x2 x3 x4 s l => p_X12_termOf_5 n x2 x3 x4 s l) x2 (x3 + 1) x4 (wi s 93 x3.toNatClampNeg (s 92 (s 90 x4.toNatClampNeg).toNatClampNeg)) l))))))

set_option maxRecDepth 100000 in
set_option maxHeartbeats 4000000 in
theorem lp_X12_termOf_5 {G : ab_G} {d : Nat} {D : fl_D} : ∀ (n : Nat) (x2 : Int32) (x3 : Int32) (x4 : Int32) (s : fl_I) (l : fl_L), p_X12_termOf_5 n x2 x3 x4 s l → ab_C G d 0 0 M_X12_termOf 5 [some (.ref 60), none, some (.int x2), some (.int x3), some (.int x4), none, none, none] [] (hp D s l) (rt (some (.int (f_X12_termOf_5 n x2 x3 x4 s l).1)) (hp D (f_X12_termOf_5 n x2 x3 x4 s l).2.1 (f_X12_termOf_5 n x2 x3 x4 s l).2.2)) := by
  intro n
  induction n with
  | zero => intro x2 x3 x4 s l hk; exact hk.elim
  | succ n ih =>
    intro x2 x3 x4 s l hk
    generalize he : f_X12_termOf_5 (n + 1) x2 x3 x4 s l = res
    unfold f_X12_termOf_5 at he
    unfold p_X12_termOf_5 at hk
    refine r_iload rfl rfl ?_
    refine r_iload_n rfl rfl ?_
    refine r_icmp_ge rfl (fun c_8 => ?_) (fun c_8 => ?_)
    · rw [if_pos c_8] at he
      replace hk := hk.1 c_8
      refine r_aload_n rfl rfl ?_
      refine q_getfield rfl (cc_60 _) rfl ?_
      refine r_iconst_ (a := 0) rfl (by decide) ?_
      refine q_iald rfl (cc_93 _) (by unfold vp_in; decide) ?_
      refine r_iret rfl rfl rfl ?_
      subst he
      exact ⟨rfl, rfl⟩
    · rw [if_neg c_8] at he
      replace hk := hk.2 c_8
      refine r_aload_n rfl rfl ?_
      refine q_getfield rfl (cc_60 _) rfl ?_
      refine r_iload rfl rfl ?_
      obtain ⟨hb0, hk⟩ := hk
      refine q_iald rfl (cc_89 _) hb0 ?_
      refine r_istore rfl (Nat.le_of_ble_eq_true rfl) rfl ?_
      refine r_iload rfl rfl ?_
      refine r_iconst_ (a := 2) rfl (by decide) ?_
      refine r_icmp_ge rfl (fun c_23 => ?_) (fun c_23 => ?_)
      · rw [if_pos c_23] at he
        replace hk := hk.1 c_23
        refine r_iinc (b := x3 + (-1)) rfl rfl rfl (Nat.le_of_ble_eq_true rfl) rfl ?_
        refine r_aload_n rfl rfl ?_
        refine q_getfield rfl (cc_60 _) rfl ?_
        refine r_iload_n rfl rfl ?_
        refine r_iconst_ (a := 1) rfl (by decide) ?_
        refine r_isub rfl ?_
        obtain ⟨hb1, hk⟩ := hk
        refine q_iald rfl (cc_93 _) hb1 ?_
        refine r_istore rfl (Nat.le_of_ble_eq_true rfl) rfl ?_
        refine r_aload_n rfl rfl ?_
        refine q_getfield rfl (cc_60 _) rfl ?_
        refine r_iload_n rfl rfl ?_
        obtain ⟨hb2, hk⟩ := hk
        refine q_iald rfl (cc_93 _) hb2 ?_
        refine r_istore rfl (Nat.le_of_ble_eq_true rfl) rfl ?_
        refine r_iload rfl rfl ?_
        refine r_iconst_ (a := 5) rfl (by decide) ?_
        refine r_icmp_ne rfl (fun c_89 => ?_) (fun c_89 => ?_)
        · rw [if_neg c_89] at he
          replace hk := hk.2 c_89
          subst he
          exact r_weak (L1 := [some (.ref 60), none, some (.int x2), some (.int (x3 + (-1))), some (.int x4), some (.int (s 89 x4.toNatClampNeg)), some (.int (s 93 ((x3 + (-1)) - (1 : Int32)).toNatClampNeg)), some (.int (s 93 (x3 + (-1)).toNatClampNeg))]) ⟨rfl, rfl, rfl, rfl, rfl, rfl, rfl, trivial⟩ (lp_X12_termOf_104 _ _ (fun _ _ _ _ _ h9 => ih _ _ _ _ _ h9) _ _ _ _ _ _ _ _ hk)
        · rw [if_pos c_89] at he
          replace hk := hk.1 c_89
          refine r_iload rfl rfl ?_
          refine r_if_ne rfl (fun c_94 => ?_) (fun c_94 => ?_)
          · rw [if_neg c_94] at he
            replace hk := hk.2 c_94
            subst he
            exact r_weak (L1 := [some (.ref 60), none, some (.int x2), some (.int (x3 + (-1))), some (.int x4), some (.int (s 89 x4.toNatClampNeg)), some (.int (s 93 ((x3 + (-1)) - (1 : Int32)).toNatClampNeg)), some (.int (s 93 (x3 + (-1)).toNatClampNeg))]) ⟨rfl, rfl, rfl, rfl, rfl, rfl, rfl, trivial⟩ (lp_X12_termOf_104 _ _ (fun _ _ _ _ _ h9 => ih _ _ _ _ _ h9) _ _ _ _ _ _ _ _ hk)
          · rw [if_pos c_94] at he
            replace hk := hk.1 c_94
            refine r_aload_n rfl rfl ?_
            refine r_iconst_ (a := 1) rfl (by decide) ?_
            refine w_putZ rfl (cc_60 _) ff_12_49 ft_12_49 (by decide) (Nat.le_of_ble_eq_true rfl) rfl ?_
            refine r_iconst_ (a := 0) rfl (by decide) ?_
            refine r_iret rfl rfl rfl ?_
            subst he
            exact ⟨rfl, rfl⟩
      · rw [if_neg c_23] at he
        replace hk := hk.2 c_23
        refine r_aload_n rfl rfl ?_
        refine q_getfield rfl (cc_60 _) rfl ?_
        refine r_iload_n rfl rfl ?_
        refine r_iload rfl rfl ?_
        refine r_if_ne rfl (fun c_33 => ?_) (fun c_33 => ?_)
        · rw [if_neg c_33] at he
          replace hk := hk.2 c_33
          refine r_aload_n rfl rfl ?_
          refine q_getfield rfl (cc_60 _) rfl ?_
          refine r_aload_n rfl rfl ?_
          refine q_getfield rfl (cc_60 _) rfl ?_
          refine r_iload rfl rfl ?_
          obtain ⟨hb8, hk⟩ := hk
          refine q_iald rfl (cc_90 _) hb8 ?_
          obtain ⟨hb9, hk⟩ := hk
          refine q_iald rfl (cc_92 _) hb9 ?_
          obtain ⟨hb10, hk⟩ := hk
          refine w_iast rfl (cc_93 _) hb10 ?_
          refine r_iinc (b := x3 + 1) rfl rfl rfl (Nat.le_of_ble_eq_true rfl) rfl ?_
          refine r_goto rfl ?_
          subst he
          exact r_weak (L1 := [some (.ref 60), none, some (.int x2), some (.int (x3 + 1)), some (.int x4), none, none, none]) ⟨rfl, rfl, rfl, rfl, trivial⟩ (lp_X12_termOf_159 _ _ (fun _ _ _ _ _ h9 => ih _ _ _ _ _ h9) _ _ _ _ _ hk)
        · rw [if_pos c_33] at he
          replace hk := hk.1 c_33
          refine r_aload_n rfl rfl ?_
          refine q_getfield rfl (cc_60 _) rfl ?_
          refine r_iload rfl rfl ?_
          obtain ⟨hb11, hk⟩ := hk
          refine q_iald rfl (cc_90 _) hb11 ?_
          refine r_goto rfl ?_
          obtain ⟨hb12, hk⟩ := hk
          refine w_iast rfl (cc_93 _) hb12 ?_
          refine r_iinc (b := x3 + 1) rfl rfl rfl (Nat.le_of_ble_eq_true rfl) rfl ?_
          refine r_goto rfl ?_
          subst he
          exact r_weak (L1 := [some (.ref 60), none, some (.int x2), some (.int (x3 + 1)), some (.int x4), none, none, none]) ⟨rfl, rfl, rfl, rfl, trivial⟩ (lp_X12_termOf_159 _ _ (fun _ _ _ _ _ h9 => ih _ _ _ _ _ h9) _ _ _ _ _ hk)

def f_X12_termOf (v0 : Int32) (v1 : Int32) (s : fl_I) (l : fl_L) : Int32 × fl_I × fl_L :=
  f_X12_termOf_5 fu v1 (0 : Int32) v0 s l

def p_X12_termOf (v0 : Int32) (v1 : Int32) (s : fl_I) (l : fl_L) : Prop :=
  p_X12_termOf_5 fu v1 (0 : Int32) v0 s l

set_option maxRecDepth 100000 in
set_option maxHeartbeats 4000000 in
theorem s_X12_termOf {G : ab_G} {d : Nat} {D : fl_D} {s : fl_I} {l : fl_L} {v0 : Int32} {v1 : Int32} (hk : p_X12_termOf v0 v1 s l) : ab_C G d 0 0 M_X12_termOf 0 (ab_ent [.ref 60, .int v0, .int v1]) [] (hp D s l) (rt (some (.int (f_X12_termOf v0 v1 s l).1)) (hp D (f_X12_termOf v0 v1 s l).2.1 (f_X12_termOf v0 v1 s l).2.2)) := by
  generalize he : (f_X12_termOf v0 v1 s l) = res
  unfold f_X12_termOf at he
  unfold p_X12_termOf at hk
  refine r_weak (L1 := [some (.ref 60), some (.int v0), some (.int v1), none, none, none, none, none]) ⟨rfl, rfl, rfl, trivial⟩ ?_
  refine r_iconst_ (a := 0) rfl (by decide) ?_
  refine r_istore_n rfl (Nat.le_of_ble_eq_true rfl) rfl ?_
  refine r_iload_n rfl rfl ?_
  refine r_istore rfl (Nat.le_of_ble_eq_true rfl) rfl ?_
  subst he
  exact r_weak (L1 := [some (.ref 60), none, some (.int v1), some (.int (0 : Int32)), some (.int v0), none, none, none]) ⟨rfl, rfl, rfl, rfl, trivial⟩ (lp_X12_termOf_5 fu _ _ _ _ _ hk)

