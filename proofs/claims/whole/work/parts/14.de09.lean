def f_X9_walk_2 (fu : Nat) : Nat → Int32 → Nat → fl_I → fl_L → fl_I × fl_L
  | 0, x1, a, s, l => (s, l)
  | n + 1, x1, a, s, l =>
    if ((s a 2) ≤ x1) then (s, l) else if ((s (a + 4) x1.toNatClampNeg) = (-2 : Int32)) then f_X9_walk_2 fu n (x1 + 1) a s l else if ((f_J6_compare_7cf53 fu ((s (a + 4) x1.toNatClampNeg) - (s (a + 4) x1.toNatClampNeg) / (10 : Int32) * (10 : Int32)) ((s (a + 3) x1.toNatClampNeg) - (s (a + 3) x1.toNatClampNeg) / (10 : Int32) * (10 : Int32))) = 0) then if (((wi s (a + 3) x1.toNatClampNeg ((s (a + 3) x1.toNatClampNeg) + ((10 : Int32) * (f_J6_compare_7cf53 fu ((s (a + 4) x1.toNatClampNeg) / (10 : Int32)) ((s (a + 3) x1.toNatClampNeg) / (10 : Int32)))))) (a + 3) x1.toNatClampNeg) = (s (a + 4) x1.toNatClampNeg)) then f_X9_walk_2 fu n (x1 + 1) a (wi (wi s (a + 3) x1.toNatClampNeg ((s (a + 3) x1.toNatClampNeg) + ((10 : Int32) * (f_J6_compare_7cf53 fu ((s (a + 4) x1.toNatClampNeg) / (10 : Int32)) ((s (a + 3) x1.toNatClampNeg) / (10 : Int32)))))) (a + 4) x1.toNatClampNeg (-2 : Int32)) l else f_X9_walk_2 fu n (x1 + 1) a (wi s (a + 3) x1.toNatClampNeg ((s (a + 3) x1.toNatClampNeg) + ((10 : Int32) * (f_J6_compare_7cf53 fu ((s (a + 4) x1.toNatClampNeg) / (10 : Int32)) ((s (a + 3) x1.toNatClampNeg) / (10 : Int32)))))) l else if (((wi s (a + 3) x1.toNatClampNeg ((s (a + 3) x1.toNatClampNeg) + (f_J6_compare_7cf53 fu ((s (a + 4) x1.toNatClampNeg) - (s (a + 4) x1.toNatClampNeg) / (10 : Int32) * (10 : Int32)) ((s (a + 3) x1.toNatClampNeg) - (s (a + 3) x1.toNatClampNeg) / (10 : Int32) * (10 : Int32))))) (a + 3) x1.toNatClampNeg) = (s (a + 4) x1.toNatClampNeg)) then f_X9_walk_2 fu n (x1 + 1) a (wi (wi s (a + 3) x1.toNatClampNeg ((s (a + 3) x1.toNatClampNeg) + (f_J6_compare_7cf53 fu ((s (a + 4) x1.toNatClampNeg) - (s (a + 4) x1.toNatClampNeg) / (10 : Int32) * (10 : Int32)) ((s (a + 3) x1.toNatClampNeg) - (s (a + 3) x1.toNatClampNeg) / (10 : Int32) * (10 : Int32))))) (a + 4) x1.toNatClampNeg (-2 : Int32)) l else f_X9_walk_2 fu n (x1 + 1) a (wi s (a + 3) x1.toNatClampNeg ((s (a + 3) x1.toNatClampNeg) + (f_J6_compare_7cf53 fu ((s (a + 4) x1.toNatClampNeg) - (s (a + 4) x1.toNatClampNeg) / (10 : Int32) * (10 : Int32)) ((s (a + 3) x1.toNatClampNeg) - (s (a + 3) x1.toNatClampNeg) / (10 : Int32) * (10 : Int32))))) l

def p_X9_walk_2 (fu : Nat) : Nat → Int32 → Nat → fl_I → fl_L → Prop
  | 0, _, _, _, _ => False
  | n + 1, x1, a, s, l =>
    ((((s a 2) ≤ x1) → True) ∧ (¬ ((s a 2) ≤ x1) → (vp_in x1 4) ∧ (vp_in x1 4) ∧ ((((s (a + 4) x1.toNatClampNeg) = (-2 : Int32)) → p_X9_walk_2 fu n (x1 + 1) a s l) ∧ (¬ ((s (a + 4) x1.toNatClampNeg) = (-2 : Int32)) → (p_J6_compare_7cf53 fu ((s (a + 4) x1.toNatClampNeg) - (s (a + 4) x1.toNatClampNeg) / (10 : Int32) * (10 : Int32)) ((s (a + 3) x1.toNatClampNeg) - (s (a + 3) x1.toNatClampNeg) / (10 : Int32) * (10 : Int32))) ∧ (p_J6_compare_7cf53 fu ((s (a + 4) x1.toNatClampNeg) / (10 : Int32)) ((s (a + 3) x1.toNatClampNeg) / (10 : Int32))) ∧ ((((f_J6_compare_7cf53 fu ((s (a + 4) x1.toNatClampNeg) - (s (a + 4) x1.toNatClampNeg) / (10 : Int32) * (10 : Int32)) ((s (a + 3) x1.toNatClampNeg) - (s (a + 3) x1.toNatClampNeg) / (10 : Int32) * (10 : Int32))) = 0) → (vp_in x1 4) ∧ (vp_in x1 4) ∧ (((((wi s (a + 3) x1.toNatClampNeg ((s (a + 3) x1.toNatClampNeg) + ((10 : Int32) * (f_J6_compare_7cf53 fu ((s (a + 4) x1.toNatClampNeg) / (10 : Int32)) ((s (a + 3) x1.toNatClampNeg) / (10 : Int32)))))) (a + 3) x1.toNatClampNeg) = (s (a + 4) x1.toNatClampNeg)) → (vp_in x1 4) ∧ p_X9_walk_2 fu n (x1 + 1) a (wi (wi s (a + 3) x1.toNatClampNeg ((s (a + 3) x1.toNatClampNeg) + ((10 : Int32) * (f_J6_compare_7cf53 fu ((s (a + 4) x1.toNatClampNeg) / (10 : Int32)) ((s (a + 3) x1.toNatClampNeg) / (10 : Int32)))))) (a + 4) x1.toNatClampNeg (-2 : Int32)) l) ∧ (¬ (((wi s (a + 3) x1.toNatClampNeg ((s (a + 3) x1.toNatClampNeg) + ((10 : Int32) * (f_J6_compare_7cf53 fu ((s (a + 4) x1.toNatClampNeg) / (10 : Int32)) ((s (a + 3) x1.toNatClampNeg) / (10 : Int32)))))) (a + 3) x1.toNatClampNeg) = (s (a + 4) x1.toNatClampNeg)) → p_X9_walk_2 fu n (x1 + 1) a (wi s (a + 3) x1.toNatClampNeg ((s (a + 3) x1.toNatClampNeg) + ((10 : Int32) * (f_J6_compare_7cf53 fu ((s (a + 4) x1.toNatClampNeg) / (10 : Int32)) ((s (a + 3) x1.toNatClampNeg) / (10 : Int32)))))) l))) ∧ (¬ ((f_J6_compare_7cf53 fu ((s (a + 4) x1.toNatClampNeg) - (s (a + 4) x1.toNatClampNeg) / (10 : Int32) * (10 : Int32)) ((s (a + 3) x1.toNatClampNeg) - (s (a + 3) x1.toNatClampNeg) / (10 : Int32) * (10 : Int32))) = 0) → (vp_in x1 4) ∧ (vp_in x1 4) ∧ (((((wi s (a + 3) x1.toNatClampNeg ((s (a + 3) x1.toNatClampNeg) + (f_J6_compare_7cf53 fu ((s (a + 4) x1.toNatClampNeg) - (s (a + 4) x1.toNatClampNeg) / (10 : Int32) * (10 : Int32)) ((s (a + 3) x1.toNatClampNeg) - (s (a + 3) x1.toNatClampNeg) / (10 : Int32) * (10 : Int32))))) (a + 3) x1.toNatClampNeg) = (s (a + 4) x1.toNatClampNeg)) → (vp_in x1 4) ∧ p_X9_walk_2 fu n (x1 + 1) a (wi (wi s (a + 3) x1.toNatClampNeg ((s (a + 3) x1.toNatClampNeg) + (f_J6_compare_7cf53 fu ((s (a + 4) x1.toNatClampNeg) - (s (a + 4) x1.toNatClampNeg) / (10 : Int32) * (10 : Int32)) ((s (a + 3) x1.toNatClampNeg) - (s (a + 3) x1.toNatClampNeg) / (10 : Int32) * (10 : Int32))))) (a + 4) x1.toNatClampNeg (-2 : Int32)) l) ∧ (¬ (((wi s (a + 3) x1.toNatClampNeg ((s (a + 3) x1.toNatClampNeg) + (f_J6_compare_7cf53 fu ((s (a + 4) x1.toNatClampNeg) - (s (a + 4) x1.toNatClampNeg) / (10 : Int32) * (10 : Int32)) ((s (a + 3) x1.toNatClampNeg) - (s (a + 3) x1.toNatClampNeg) / (10 : Int32) * (10 : Int32))))) (a + 3) x1.toNatClampNeg) = (s (a + 4) x1.toNatClampNeg)) → p_X9_walk_2 fu n (x1 + 1) a (wi s (a + 3) x1.toNatClampNeg ((s (a + 3) x1.toNatClampNeg) + (f_J6_compare_7cf53 fu ((s (a + 4) x1.toNatClampNeg) - (s (a + 4) x1.toNatClampNeg) / (10 : Int32) * (10 : Int32)) ((s (a + 3) x1.toNatClampNeg) - (s (a + 3) x1.toNatClampNeg) / (10 : Int32) * (10 : Int32))))) l))))))))

set_option maxRecDepth 100000 in
set_option maxHeartbeats 4000000 in
theorem lp_X9_walk_2 {G : ab_G} {fu : Nat} {d : Nat} {D : fl_D} {a : Nat} (hya : isY D a) : ∀ (n : Nat) (x1 : Int32) (s : fl_I) (l : fl_L), p_X9_walk_2 fu n x1 a s l → ab_C G (d + 1) 0 0 M_X9_walk 2 [some (.ref a), some (.int x1), none, none, none, none] [] (hp D s l) (rt none (hp D (f_X9_walk_2 fu n x1 a s l).1 (f_X9_walk_2 fu n x1 a s l).2)) := by
  intro n
  induction n with
  | zero => intro x1 s l hk; exact hk.elim
  | succ n ih =>
    intro x1 s l hk
    generalize he : f_X9_walk_2 fu (n + 1) x1 a s l = res
    unfold f_X9_walk_2 at he
    unfold p_X9_walk_2 at hk
    refine r_iload_n rfl rfl ?_
    refine r_aload_n rfl rfl ?_
    refine q_getfield rfl (cY_0 hya) rfl ?_
    refine r_icmp_ge rfl (fun c_7 => ?_) (fun c_7 => ?_)
    · rw [if_pos c_7] at he
      replace hk := hk.1 c_7
      refine r_ret rfl rfl ?_
      exact fin_v he
    · rw [if_neg c_7] at he
      replace hk := hk.2 c_7
      refine r_aload_n rfl rfl ?_
      refine q_getfield rfl (cY_0 hya) rfl ?_
      refine r_iload_n rfl rfl ?_
      obtain ⟨hb0, hk⟩ := hk
      refine q_iald rfl (cY_4 hya) hb0 ?_
      refine r_istore_n rfl (Nat.le_of_ble_eq_true rfl) rfl ?_
      refine r_aload_n rfl rfl ?_
      refine q_getfield rfl (cY_0 hya) rfl ?_
      refine r_iload_n rfl rfl ?_
      obtain ⟨hb1, hk⟩ := hk
      refine q_iald rfl (cY_3 hya) hb1 ?_
      refine r_istore_n rfl (Nat.le_of_ble_eq_true rfl) rfl ?_
      refine r_iload_n rfl rfl ?_
      refine r_bipush_ (a := -2) rfl (by decide) ?_
      refine r_icmp_ne rfl (fun c_27 => ?_) (fun c_27 => ?_)
      · rw [if_neg c_27] at he
        replace hk := hk.2 c_27
        refine r_iload_n rfl rfl ?_
        refine r_bipush_ (a := 10) rfl (by decide) ?_
        refine r_irem rfl (by decide) ?_
        refine r_iload_n rfl rfl ?_
        refine r_bipush_ (a := 10) rfl (by decide) ?_
        refine r_irem rfl (by decide) ?_
        obtain ⟨hb2, hk⟩ := hk
        refine r_callS0 [_, _] _ rfl kY_J6_compare_7cf53 kT_J6_compare_7cf53 rfl rfl (Nat.le_of_ble_eq_true rfl) (Nat.le_of_ble_eq_true rfl) (s_J6_compare_7cf53 hb2) (fun r h q => ?_)
        obtain ⟨rfl, rfl⟩ := q
        simp only [Option.toList, List.cons_append, List.nil_append]
        refine r_istore rfl (Nat.le_of_ble_eq_true rfl) rfl ?_
        refine r_iload_n rfl rfl ?_
        refine r_bipush_ (a := 10) rfl (by decide) ?_
        refine r_idiv rfl (by decide) ?_
        refine r_iload_n rfl rfl ?_
        refine r_bipush_ (a := 10) rfl (by decide) ?_
        refine r_idiv rfl (by decide) ?_
        obtain ⟨hb3, hk⟩ := hk
        refine r_callS0 [_, _] _ rfl kY_J6_compare_7cf53 kT_J6_compare_7cf53 rfl rfl (Nat.le_of_ble_eq_true rfl) (Nat.le_of_ble_eq_true rfl) (s_J6_compare_7cf53 hb3) (fun r h q => ?_)
        obtain ⟨rfl, rfl⟩ := q
        simp only [Option.toList, List.cons_append, List.nil_append]
        refine r_istore rfl (Nat.le_of_ble_eq_true rfl) rfl ?_
        refine r_aload_n rfl rfl ?_
        refine q_getfield rfl (cY_0 hya) rfl ?_
        refine r_iload_n rfl rfl ?_
        refine r_iload rfl rfl ?_
        refine r_if_eq rfl (fun c_66 => ?_) (fun c_66 => ?_)
        · rw [if_pos c_66] at he
          replace hk := hk.1 c_66
          refine r_iload_n rfl rfl ?_
          refine r_bipush_ (a := 10) rfl (by decide) ?_
          refine r_iload rfl rfl ?_
          refine r_imul rfl ?_
          refine r_iadd rfl ?_
          obtain ⟨hb4, hk⟩ := hk
          refine w_iast rfl (cY_3 hya) hb4 ?_
          refine r_aload_n rfl rfl ?_
          refine q_getfield rfl (cY_0 hya) rfl ?_
          refine r_iload_n rfl rfl ?_
          obtain ⟨hb5, hk⟩ := hk
          refine q_iald rfl (cY_3 hya) hb5 ?_
          refine r_iload_n rfl rfl ?_
          refine r_icmp_ne rfl (fun c_91 => ?_) (fun c_91 => ?_)
          · rw [if_neg c_91] at he
            replace hk := hk.2 c_91
            refine r_iinc (b := x1 + 1) rfl rfl rfl (Nat.le_of_ble_eq_true rfl) rfl ?_
            refine r_goto rfl ?_
            subst he
            exact r_weak (L1 := [some (.ref a), some (.int (x1 + 1)), none, none, none, none]) ⟨rfl, rfl, trivial⟩ (ih _ _ _ hk)
          · rw [if_pos c_91] at he
            replace hk := hk.1 c_91
            refine r_aload_n rfl rfl ?_
            refine q_getfield rfl (cY_0 hya) rfl ?_
            refine r_iload_n rfl rfl ?_
            refine r_bipush_ (a := -2) rfl (by decide) ?_
            obtain ⟨hb6, hk⟩ := hk
            refine w_iast rfl (cY_4 hya) hb6 ?_
            refine r_iinc (b := x1 + 1) rfl rfl rfl (Nat.le_of_ble_eq_true rfl) rfl ?_
            refine r_goto rfl ?_
            subst he
            exact r_weak (L1 := [some (.ref a), some (.int (x1 + 1)), none, none, none, none]) ⟨rfl, rfl, trivial⟩ (ih _ _ _ hk)
        · rw [if_neg c_66] at he
          replace hk := hk.2 c_66
          refine r_iload_n rfl rfl ?_
          refine r_iload rfl rfl ?_
          refine r_iadd rfl ?_
          refine r_goto rfl ?_
          obtain ⟨hb7, hk⟩ := hk
          refine w_iast rfl (cY_3 hya) hb7 ?_
          refine r_aload_n rfl rfl ?_
          refine q_getfield rfl (cY_0 hya) rfl ?_
          refine r_iload_n rfl rfl ?_
          obtain ⟨hb8, hk⟩ := hk
          refine q_iald rfl (cY_3 hya) hb8 ?_
          refine r_iload_n rfl rfl ?_
          refine r_icmp_ne rfl (fun c_91 => ?_) (fun c_91 => ?_)
          · rw [if_neg c_91] at he
            replace hk := hk.2 c_91
            refine r_iinc (b := x1 + 1) rfl rfl rfl (Nat.le_of_ble_eq_true rfl) rfl ?_
            refine r_goto rfl ?_
            subst he
            exact r_weak (L1 := [some (.ref a), some (.int (x1 + 1)), none, none, none, none]) ⟨rfl, rfl, trivial⟩ (ih _ _ _ hk)
          · rw [if_pos c_91] at he
            replace hk := hk.1 c_91
            refine r_aload_n rfl rfl ?_
            refine q_getfield rfl (cY_0 hya) rfl ?_
            refine r_iload_n rfl rfl ?_
            refine r_bipush_ (a := -2) rfl (by decide) ?_
            obtain ⟨hb9, hk⟩ := hk
            refine w_iast rfl (cY_4 hya) hb9 ?_
            refine r_iinc (b := x1 + 1) rfl rfl rfl (Nat.le_of_ble_eq_true rfl) rfl ?_
            refine r_goto rfl ?_
            subst he
            exact r_weak (L1 := [some (.ref a), some (.int (x1 + 1)), none, none, none, none]) ⟨rfl, rfl, trivial⟩ (ih _ _ _ hk)
      · rw [if_pos c_27] at he
        replace hk := hk.1 c_27
        refine r_goto rfl ?_
        refine r_iinc (b := x1 + 1) rfl rfl rfl (Nat.le_of_ble_eq_true rfl) rfl ?_
        refine r_goto rfl ?_
        subst he
        exact r_weak (L1 := [some (.ref a), some (.int (x1 + 1)), none, none, none, none]) ⟨rfl, rfl, trivial⟩ (ih _ _ _ hk)

def f_X9_walk (fu : Nat) (a : Nat) (s : fl_I) (l : fl_L) : fl_I × fl_L :=
  f_X9_walk_2 fu fu (0 : Int32) a s l

def p_X9_walk (fu : Nat) (a : Nat) (s : fl_I) (l : fl_L) : Prop :=
  p_X9_walk_2 fu fu (0 : Int32) a s l

set_option maxRecDepth 100000 in
set_option maxHeartbeats 4000000 in
theorem s_X9_walk {G : ab_G} {fu : Nat} {d : Nat} {D : fl_D} {s : fl_I} {l : fl_L} {a : Nat} (hya : isY D a)  (hk : p_X9_walk fu a s l) : ab_C G (d + 1) 0 0 M_X9_walk 0 (ab_ent [.ref a]) [] (hp D s l) (rt none (hp D (f_X9_walk fu a s l).1 (f_X9_walk fu a s l).2)) := by
  generalize he : (f_X9_walk fu a s l) = res
  unfold f_X9_walk at he
  unfold p_X9_walk at hk
  refine r_weak (L1 := [some (.ref a), none, none, none, none, none]) ⟨rfl, trivial⟩ ?_
  refine r_iconst_ (a := 0) rfl (by decide) ?_
  refine r_istore_n rfl (Nat.le_of_ble_eq_true rfl) rfl ?_
  subst he
  exact r_weak (L1 := [some (.ref a), some (.int (0 : Int32)), none, none, none, none]) ⟨rfl, rfl, trivial⟩ (lp_X9_walk_2 hya fu _ _ _ hk)

def f_X12_plain_57 (fu : Nat) : Nat → Int32 → Int32 → fl_I → fl_L → fl_I × fl_L
  | 0, x1, x2, s, l => (s, l)
  | n + 1, x1, x2, s, l =>
    if ((3 : Int32) ≤ x2) then (s, l) else f_X12_plain_57 fu n x1 (x2 + 1) (wi (wi s 82 (((3 : Int32) * x1) + x2).toNatClampNeg (0 : Int32)) 83 (((3 : Int32) * x1) + x2).toNatClampNeg (0 : Int32)) l

def p_X12_plain_57 (fu : Nat) : Nat → Int32 → Int32 → fl_I → fl_L → Prop
  | 0, _, _, _, _ => False
  | n + 1, x1, x2, s, l =>
    ((((3 : Int32) ≤ x2) → True) ∧ (¬ ((3 : Int32) ≤ x2) → (vp_in (((3 : Int32) * x1) + x2) 6) ∧ (vp_in (((3 : Int32) * x1) + x2) 6) ∧ p_X12_plain_57 fu n x1 (x2 + 1) (wi (wi s 82 (((3 : Int32) * x1) + x2).toNatClampNeg (0 : Int32)) 83 (((3 : Int32) * x1) + x2).toNatClampNeg (0 : Int32)) l))

set_option maxRecDepth 100000 in
set_option maxHeartbeats 4000000 in
theorem lp_X12_plain_57 {G : ab_G} {fu : Nat} {d : Nat} {D : fl_D} : ∀ (n : Nat) (x1 : Int32) (x2 : Int32) (s : fl_I) (l : fl_L), p_X12_plain_57 fu n x1 x2 s l → ab_C G d 0 0 M_X12_plain 57 [some (.ref 60), some (.int x1), some (.int x2)] [] (hp D s l) (rt none (hp D (f_X12_plain_57 fu n x1 x2 s l).1 (f_X12_plain_57 fu n x1 x2 s l).2)) := by
  intro n
  induction n with
  | zero => intro x1 x2 s l hk; exact hk.elim
  | succ n ih =>
    intro x1 x2 s l hk
    generalize he : f_X12_plain_57 fu (n + 1) x1 x2 s l = res
    unfold f_X12_plain_57 at he
    unfold p_X12_plain_57 at hk
    refine r_iload_n rfl rfl ?_
    refine r_iconst_ (a := 3) rfl (by decide) ?_
    refine r_icmp_ge rfl (fun c_59 => ?_) (fun c_59 => ?_)
    · rw [if_pos c_59] at he
      replace hk := hk.1 c_59
      refine r_ret rfl rfl ?_
      exact fin_v he
    · rw [if_neg c_59] at he
      replace hk := hk.2 c_59
      refine r_aload_n rfl rfl ?_
      refine q_getfield rfl (cc_60 _) rfl ?_
      refine r_iconst_ (a := 3) rfl (by decide) ?_
      refine r_iload_n rfl rfl ?_
      refine r_imul rfl ?_
      refine r_iload_n rfl rfl ?_
      refine r_iadd rfl ?_
      refine r_iconst_ (a := 0) rfl (by decide) ?_
      obtain ⟨hb7, hk⟩ := hk
      refine w_iast rfl (cc_82 _) hb7 ?_
      refine r_aload_n rfl rfl ?_
      refine q_getfield rfl (cc_60 _) rfl ?_
      refine r_iconst_ (a := 3) rfl (by decide) ?_
      refine r_iload_n rfl rfl ?_
      refine r_imul rfl ?_
      refine r_iload_n rfl rfl ?_
      refine r_iadd rfl ?_
      refine r_iconst_ (a := 0) rfl (by decide) ?_
      obtain ⟨hb8, hk⟩ := hk
      refine w_iast rfl (cc_83 _) hb8 ?_
      refine r_iinc (b := x2 + 1) rfl rfl rfl (Nat.le_of_ble_eq_true rfl) rfl ?_
      refine r_goto rfl ?_
      subst he
      exact r_weak (L1 := [some (.ref 60), some (.int x1), some (.int (x2 + 1))]) ⟨rfl, rfl, rfl, trivial⟩ (ih _ _ _ _ hk)

def f_X12_plain (fu : Nat) (v0 : Int32) (s : fl_I) (l : fl_L) : fl_I × fl_L :=
  f_X12_plain_57 fu fu v0 (0 : Int32) (wi (wi (wi (wi (wi (wi (wi s 68 v0.toNatClampNeg (0 : Int32)) 72 v0.toNatClampNeg (0 : Int32)) 74 v0.toNatClampNeg (0 : Int32)) 79 ((2 : Int32) * v0).toNatClampNeg (1 : Int32)) 79 (((2 : Int32) * v0) + (1 : Int32)).toNatClampNeg (0 : Int32)) 80 v0.toNatClampNeg (0 : Int32)) 81 v0.toNatClampNeg (0 : Int32)) l

def p_X12_plain (fu : Nat) (v0 : Int32) (s : fl_I) (l : fl_L) : Prop :=
  (vp_in v0 2) ∧ (vp_in v0 2) ∧ (vp_in v0 2) ∧ (vp_in ((2 : Int32) * v0) 4) ∧ (vp_in (((2 : Int32) * v0) + (1 : Int32)) 4) ∧ (vp_in v0 2) ∧ (vp_in v0 2) ∧ p_X12_plain_57 fu fu v0 (0 : Int32) (wi (wi (wi (wi (wi (wi (wi s 68 v0.toNatClampNeg (0 : Int32)) 72 v0.toNatClampNeg (0 : Int32)) 74 v0.toNatClampNeg (0 : Int32)) 79 ((2 : Int32) * v0).toNatClampNeg (1 : Int32)) 79 (((2 : Int32) * v0) + (1 : Int32)).toNatClampNeg (0 : Int32)) 80 v0.toNatClampNeg (0 : Int32)) 81 v0.toNatClampNeg (0 : Int32)) l

set_option maxRecDepth 100000 in
set_option maxHeartbeats 4000000 in
theorem s_X12_plain {G : ab_G} {fu : Nat} {d : Nat} {D : fl_D} {s : fl_I} {l : fl_L} {v0 : Int32} (hk : p_X12_plain fu v0 s l) : ab_C G d 0 0 M_X12_plain 0 (ab_ent [.ref 60, .int v0]) [] (hp D s l) (rt none (hp D (f_X12_plain fu v0 s l).1 (f_X12_plain fu v0 s l).2)) := by
  generalize he : (f_X12_plain fu v0 s l) = res
  unfold f_X12_plain at he
  unfold p_X12_plain at hk
  refine r_weak (L1 := [some (.ref 60), some (.int v0), none]) ⟨rfl, rfl, trivial⟩ ?_
  refine r_aload_n rfl rfl ?_
  refine q_getfield rfl (cc_60 _) rfl ?_
  refine r_iload_n rfl rfl ?_
  refine r_iconst_ (a := 0) rfl (by decide) ?_
  obtain ⟨hb0, hk⟩ := hk
  refine w_iast rfl (cc_68 _) hb0 ?_
  refine r_aload_n rfl rfl ?_
  refine q_getfield rfl (cc_60 _) rfl ?_
  refine r_iload_n rfl rfl ?_
  refine r_iconst_ (a := 0) rfl (by decide) ?_
  obtain ⟨hb1, hk⟩ := hk
  refine w_iast rfl (cc_72 _) hb1 ?_
  refine r_aload_n rfl rfl ?_
  refine q_getfield rfl (cc_60 _) rfl ?_
  refine r_iload_n rfl rfl ?_
  refine r_iconst_ (a := 0) rfl (by decide) ?_
  obtain ⟨hb2, hk⟩ := hk
  refine w_iast rfl (cc_74 _) hb2 ?_
  refine r_aload_n rfl rfl ?_
  refine q_getfield rfl (cc_60 _) rfl ?_
  refine r_iconst_ (a := 2) rfl (by decide) ?_
  refine r_iload_n rfl rfl ?_
  refine r_imul rfl ?_
  refine r_iconst_ (a := 1) rfl (by decide) ?_
  obtain ⟨hb3, hk⟩ := hk
  refine w_iast rfl (cc_79 _) hb3 ?_
  refine r_aload_n rfl rfl ?_
  refine q_getfield rfl (cc_60 _) rfl ?_
  refine r_iconst_ (a := 2) rfl (by decide) ?_
  refine r_iload_n rfl rfl ?_
  refine r_imul rfl ?_
  refine r_iconst_ (a := 1) rfl (by decide) ?_
  refine r_iadd rfl ?_
  refine r_iconst_ (a := 0) rfl (by decide) ?_
  obtain ⟨hb4, hk⟩ := hk
  refine w_iast rfl (cc_79 _) hb4 ?_
  refine r_aload_n rfl rfl ?_
  refine q_getfield rfl (cc_60 _) rfl ?_
  refine r_iload_n rfl rfl ?_
  refine r_iconst_ (a := 0) rfl (by decide) ?_
  obtain ⟨hb5, hk⟩ := hk
  refine w_iast rfl (cc_80 _) hb5 ?_
  refine r_aload_n rfl rfl ?_
  refine q_getfield rfl (cc_60 _) rfl ?_
  refine r_iload_n rfl rfl ?_
  refine r_iconst_ (a := 0) rfl (by decide) ?_
  obtain ⟨hb6, hk⟩ := hk
  refine w_iast rfl (cc_81 _) hb6 ?_
  refine r_iconst_ (a := 0) rfl (by decide) ?_
  refine r_istore_n rfl (Nat.le_of_ble_eq_true rfl) rfl ?_
  subst he
  exact r_weak (L1 := [some (.ref 60), some (.int v0), some (.int (0 : Int32))]) ⟨rfl, rfl, rfl, trivial⟩ (lp_X12_plain_57 fu _ _ _ _ hk)

def f_X12_fillsRest_37 (fu : Nat) (K2 : Int32 → fl_I → fl_L → fl_I × fl_L) (K14 : Int32 → Int32 → fl_I → fl_L → fl_I × fl_L) : Nat → Int32 → Int32 → Int32 → Int32 → fl_I → fl_L → fl_I × fl_L
  | 0, x1, x2, x3, x4, s, l => (s, l)
  | n + 1, x1, x2, x3, x4, s, l =>
    if ((s 60 60) ≤ x4) then K14 x1 (x2 + 1) (wi s 101 (((10 : Int32) * x1) + x2).toNatClampNeg x3) l else if (((x1 >>> (x4 &&& 31)) &&& (1 : Int32)) = 0) then f_X12_fillsRest_37 fu K2 K14 n x1 x2 x3 (x4 + 1) s l else if (x3 ≤ ((f_X12_stepsOff fu (s 100 x2.toNatClampNeg) (s 100 x4.toNatClampNeg)) + (s 101 (((10 : Int32) * (x1 &&& (((1 : Int32) <<< (x4 &&& 31)) ^^^ (-1 : Int32)))) + x4).toNatClampNeg))) then f_X12_fillsRest_37 fu K2 K14 n x1 x2 x3 (x4 + 1) s l else f_X12_fillsRest_37 fu K2 K14 n x1 x2 ((f_X12_stepsOff fu (s 100 x2.toNatClampNeg) (s 100 x4.toNatClampNeg)) + (s 101 (((10 : Int32) * (x1 &&& (((1 : Int32) <<< (x4 &&& 31)) ^^^ (-1 : Int32)))) + x4).toNatClampNeg)) (x4 + 1) s l

def p_X12_fillsRest_37 (fu : Nat) (P2 : Int32 → fl_I → fl_L → Prop) (P14 : Int32 → Int32 → fl_I → fl_L → Prop) : Nat → Int32 → Int32 → Int32 → Int32 → fl_I → fl_L → Prop
  | 0, _, _, _, _, _, _ => False
  | n + 1, x1, x2, x3, x4, s, l =>
    ((((s 60 60) ≤ x4) → (vp_in (((10 : Int32) * x1) + x2) 10240) ∧ P14 x1 (x2 + 1) (wi s 101 (((10 : Int32) * x1) + x2).toNatClampNeg x3) l) ∧ (¬ ((s 60 60) ≤ x4) → (((((x1 >>> (x4 &&& 31)) &&& (1 : Int32)) = 0) → p_X12_fillsRest_37 fu P2 P14 n x1 x2 x3 (x4 + 1) s l) ∧ (¬ (((x1 >>> (x4 &&& 31)) &&& (1 : Int32)) = 0) → (vp_in x2 80) ∧ (vp_in x4 80) ∧ (p_X12_stepsOff fu (s 100 x2.toNatClampNeg) (s 100 x4.toNatClampNeg)) ∧ (vp_in (((10 : Int32) * (x1 &&& (((1 : Int32) <<< (x4 &&& 31)) ^^^ (-1 : Int32)))) + x4) 10240) ∧ (((x3 ≤ ((f_X12_stepsOff fu (s 100 x2.toNatClampNeg) (s 100 x4.toNatClampNeg)) + (s 101 (((10 : Int32) * (x1 &&& (((1 : Int32) <<< (x4 &&& 31)) ^^^ (-1 : Int32)))) + x4).toNatClampNeg))) → p_X12_fillsRest_37 fu P2 P14 n x1 x2 x3 (x4 + 1) s l) ∧ (¬ (x3 ≤ ((f_X12_stepsOff fu (s 100 x2.toNatClampNeg) (s 100 x4.toNatClampNeg)) + (s 101 (((10 : Int32) * (x1 &&& (((1 : Int32) <<< (x4 &&& 31)) ^^^ (-1 : Int32)))) + x4).toNatClampNeg))) → p_X12_fillsRest_37 fu P2 P14 n x1 x2 ((f_X12_stepsOff fu (s 100 x2.toNatClampNeg) (s 100 x4.toNatClampNeg)) + (s 101 (((10 : Int32) * (x1 &&& (((1 : Int32) <<< (x4 &&& 31)) ^^^ (-1 : Int32)))) + x4).toNatClampNeg)) (x4 + 1) s l))))))

set_option maxRecDepth 100000 in
set_option maxHeartbeats 4000000 in
theorem lp_X12_fillsRest_37 {G : ab_G} {fu : Nat} {d : Nat} {D : fl_D} (K2 : Int32 → fl_I → fl_L → fl_I × fl_L) (P2 : Int32 → fl_I → fl_L → Prop) (hK2 : ∀ (x1 : Int32) (s : fl_I) (l : fl_L), P2 x1 s l → ab_C G (d + 2) 0 0 M_X12_fillsRest 2 [some (.ref 60), some (.int x1), none, none, none, none] [] (hp D s l) (rt none (hp D (K2 x1 s l).1 (K2 x1 s l).2))) (K14 : Int32 → Int32 → fl_I → fl_L → fl_I × fl_L) (P14 : Int32 → Int32 → fl_I → fl_L → Prop) (hK14 : ∀ (x1 : Int32) (x2 : Int32) (s : fl_I) (l : fl_L), P14 x1 x2 s l → ab_C G (d + 2) 0 0 M_X12_fillsRest 14 [some (.ref 60), some (.int x1), some (.int x2), none, none, none] [] (hp D s l) (rt none (hp D (K14 x1 x2 s l).1 (K14 x1 x2 s l).2))) : ∀ (n : Nat) (x1 : Int32) (x2 : Int32) (x3 : Int32) (x4 : Int32) (s : fl_I) (l : fl_L), p_X12_fillsRest_37 fu P2 P14 n x1 x2 x3 x4 s l → ab_C G (d + 2) 0 0 M_X12_fillsRest 37 [some (.ref 60), some (.int x1), some (.int x2), some (.int x3), some (.int x4), none] [] (hp D s l) (rt none (hp D (f_X12_fillsRest_37 fu K2 K14 n x1 x2 x3 x4 s l).1 (f_X12_fillsRest_37 fu K2 K14 n x1 x2 x3 x4 s l).2)) := by
  intro n
  induction n with
  | zero => intro x1 x2 x3 x4 s l hk; exact hk.elim
  | succ n ih =>
    intro x1 x2 x3 x4 s l hk
    generalize he : f_X12_fillsRest_37 fu K2 K14 (n + 1) x1 x2 x3 x4 s l = res
    unfold f_X12_fillsRest_37 at he
    unfold p_X12_fillsRest_37 at hk
    refine r_iload rfl rfl ?_
    refine r_aload_n rfl rfl ?_
    refine q_getfield rfl (cc_60 _) rfl ?_
    refine r_icmp_ge rfl (fun c_43 => ?_) (fun c_43 => ?_)
    · rw [if_pos c_43] at he
      replace hk := hk.1 c_43
      refine r_aload_n rfl rfl ?_
      refine q_getfield rfl (cc_60 _) rfl ?_
      refine r_bipush_ (a := 10) rfl (by decide) ?_
      refine r_iload_n rfl rfl ?_
      refine r_imul rfl ?_
      refine r_iload_n rfl rfl ?_
      refine r_iadd rfl ?_
      refine r_iload_n rfl rfl ?_
      obtain ⟨hb0, hk⟩ := hk
      refine w_iast rfl (cc_101 _) hb0 ?_
      refine r_iinc (b := x2 + 1) rfl rfl rfl (Nat.le_of_ble_eq_true rfl) rfl ?_
      refine r_goto rfl ?_
      subst he
      exact r_weak (L1 := [some (.ref 60), some (.int x1), some (.int (x2 + 1)), none, none, none]) ⟨rfl, rfl, rfl, trivial⟩ (hK14 _ _ _ _ hk)
    · rw [if_neg c_43] at he
      replace hk := hk.2 c_43
      refine r_iload_n rfl rfl ?_
      refine r_iload rfl rfl ?_
      refine r_ishr rfl ?_
      refine r_iconst_ (a := 1) rfl (by decide) ?_
      refine r_iand rfl ?_
      refine r_if_ne rfl (fun c_52 => ?_) (fun c_52 => ?_)
      · rw [if_neg c_52] at he
        replace hk := hk.2 c_52
        refine r_aload_n rfl rfl ?_
        refine q_getfield rfl (cc_60 _) rfl ?_
        refine r_iload_n rfl rfl ?_
        obtain ⟨hb1, hk⟩ := hk
        refine q_iald rfl (cc_100 _) hb1 ?_
        refine r_aload_n rfl rfl ?_
        refine q_getfield rfl (cc_60 _) rfl ?_
        refine r_iload rfl rfl ?_
        obtain ⟨hb2, hk⟩ := hk
        refine q_iald rfl (cc_100 _) hb2 ?_
        obtain ⟨hb3, hk⟩ := hk
        refine r_callS0 [_, _] _ rfl kY_X12_stepsOff kT_X12_stepsOff rfl rfl (Nat.le_of_ble_eq_true rfl) (Nat.le_of_ble_eq_true rfl) (s_X12_stepsOff hb3) (fun r h q => ?_)
        obtain ⟨rfl, rfl⟩ := q
        simp only [Option.toList, List.cons_append, List.nil_append]
        refine r_aload_n rfl rfl ?_
        refine q_getfield rfl (cc_60 _) rfl ?_
        refine r_bipush_ (a := 10) rfl (by decide) ?_
        refine r_iload_n rfl rfl ?_
        refine r_iconst_ (a := 1) rfl (by decide) ?_
        refine r_iload rfl rfl ?_
        refine r_ishl rfl ?_
        refine r_iconst_ (a := -1) rfl (by decide) ?_
        refine r_ixor rfl ?_
        refine r_iand rfl ?_
        refine r_imul rfl ?_
        refine r_iload rfl rfl ?_
        refine r_iadd rfl ?_
        obtain ⟨hb4, hk⟩ := hk
        refine q_iald rfl (cc_101 _) hb4 ?_
        refine r_iadd rfl ?_
        refine r_istore rfl (Nat.le_of_ble_eq_true rfl) rfl ?_
        refine r_iload rfl rfl ?_
        refine r_iload_n rfl rfl ?_
        refine r_icmp_ge rfl (fun c_99 => ?_) (fun c_99 => ?_)
        · rw [if_pos c_99] at he
          replace hk := hk.1 c_99
          refine r_iinc (b := x4 + 1) rfl rfl rfl (Nat.le_of_ble_eq_true rfl) rfl ?_
          refine r_goto rfl ?_
          subst he
          exact r_weak (L1 := [some (.ref 60), some (.int x1), some (.int x2), some (.int x3), some (.int (x4 + 1)), none]) ⟨rfl, rfl, rfl, rfl, rfl, trivial⟩ (ih _ _ _ _ _ _ hk)
        · rw [if_neg c_99] at he
          replace hk := hk.2 c_99
          refine r_iload rfl rfl ?_
          refine r_istore_n rfl (Nat.le_of_ble_eq_true rfl) rfl ?_
          refine r_iinc (b := x4 + 1) rfl rfl rfl (Nat.le_of_ble_eq_true rfl) rfl ?_
          refine r_goto rfl ?_
          subst he
          exact r_weak (L1 := [some (.ref 60), some (.int x1), some (.int x2), some (.int ((f_X12_stepsOff fu (s 100 x2.toNatClampNeg) (s 100 x4.toNatClampNeg)) + (s 101 (((10 : Int32) * (x1 &&& (((1 : Int32) <<< (x4 &&& 31)) ^^^ (-1 : Int32)))) + x4).toNatClampNeg))), some (.int (x4 + 1)), none]) ⟨rfl, rfl, rfl, rfl, rfl, trivial⟩ (ih _ _ _ _ _ _ hk)
      · rw [if_pos c_52] at he
        replace hk := hk.1 c_52
        refine r_goto rfl ?_
        refine r_iinc (b := x4 + 1) rfl rfl rfl (Nat.le_of_ble_eq_true rfl) rfl ?_
        refine r_goto rfl ?_
        subst he
        exact r_weak (L1 := [some (.ref 60), some (.int x1), some (.int x2), some (.int x3), some (.int (x4 + 1)), none]) ⟨rfl, rfl, rfl, rfl, rfl, trivial⟩ (ih _ _ _ _ _ _ hk)

def f_X12_fillsRest_14 (fu : Nat) (K2 : Int32 → fl_I → fl_L → fl_I × fl_L) : Nat → Int32 → Int32 → fl_I → fl_L → fl_I × fl_L
  | 0, x1, x2, s, l => (s, l)
  | n + 1, x1, x2, s, l =>
    if ((s 60 60) ≤ x2) then K2 (x1 + 1) s l else if (x1 = 0) then f_X12_fillsRest_37 fu K2 (fun x1 x2 s l => f_X12_fillsRest_14 fu K2 n x1 x2 s l) fu x1 x2 (0 : Int32) (0 : Int32) s l else f_X12_fillsRest_37 fu K2 (fun x1 x2 s l => f_X12_fillsRest_14 fu K2 n x1 x2 s l) fu x1 x2 (9999 : Int32) (0 : Int32) s l

def p_X12_fillsRest_14 (fu : Nat) (P2 : Int32 → fl_I → fl_L → Prop) : Nat → Int32 → Int32 → fl_I → fl_L → Prop
  | 0, _, _, _, _ => False
  | n + 1, x1, x2, s, l =>
    ((((s 60 60) ≤ x2) → P2 (x1 + 1) s l) ∧ (¬ ((s 60 60) ≤ x2) → (((x1 = 0) → p_X12_fillsRest_37 fu P2 (fun x1 x2 s l => p_X12_fillsRest_14 fu P2 n x1 x2 s l) fu x1 x2 (0 : Int32) (0 : Int32) s l) ∧ (¬ (x1 = 0) → p_X12_fillsRest_37 fu P2 (fun x1 x2 s l => p_X12_fillsRest_14 fu P2 n x1 x2 s l) fu x1 x2 (9999 : Int32) (0 : Int32) s l))))

set_option maxRecDepth 100000 in
set_option maxHeartbeats 4000000 in
theorem lp_X12_fillsRest_14 {G : ab_G} {fu : Nat} {d : Nat} {D : fl_D} (K2 : Int32 → fl_I → fl_L → fl_I × fl_L) (P2 : Int32 → fl_I → fl_L → Prop) (hK2 : ∀ (x1 : Int32) (s : fl_I) (l : fl_L), P2 x1 s l → ab_C G (d + 2) 0 0 M_X12_fillsRest 2 [some (.ref 60), some (.int x1), none, none, none, none] [] (hp D s l) (rt none (hp D (K2 x1 s l).1 (K2 x1 s l).2))) : ∀ (n : Nat) (x1 : Int32) (x2 : Int32) (s : fl_I) (l : fl_L), p_X12_fillsRest_14 fu P2 n x1 x2 s l → ab_C G (d + 2) 0 0 M_X12_fillsRest 14 [some (.ref 60), some (.int x1), some (.int x2), none, none, none] [] (hp D s l) (rt none (hp D (f_X12_fillsRest_14 fu K2 n x1 x2 s l).1 (f_X12_fillsRest_14 fu K2 n x1 x2 s l).2)) := by
  intro n
  induction n with
  | zero => intro x1 x2 s l hk; exact hk.elim
  | succ n ih =>
    intro x1 x2 s l hk
    generalize he : f_X12_fillsRest_14 fu K2 (n + 1) x1 x2 s l = res
    unfold f_X12_fillsRest_14 at he
    unfold p_X12_fillsRest_14 at hk
    refine r_iload_n rfl rfl ?_
    refine r_aload_n rfl rfl ?_
    refine q_getfield rfl (cc_60 _) rfl ?_
    refine r_icmp_ge rfl (fun c_19 => ?_) (fun c_19 => ?_)
    · rw [if_pos c_19] at he
      replace hk := hk.1 c_19
      refine r_iinc (b := x1 + 1) rfl rfl rfl (Nat.le_of_ble_eq_true rfl) rfl ?_
      refine r_goto rfl ?_
      subst he
      exact r_weak (L1 := [some (.ref 60), some (.int (x1 + 1)), none, none, none, none]) ⟨rfl, rfl, trivial⟩ (hK2 _ _ _ hk)
    · rw [if_neg c_19] at he
      replace hk := hk.2 c_19
      refine r_iload_n rfl rfl ?_
      refine r_if_ne rfl (fun c_23 => ?_) (fun c_23 => ?_)
      · rw [if_neg c_23] at he
        replace hk := hk.2 c_23
        refine r_sipush_ (a := 9999) rfl (by decide) ?_
        refine r_istore_n rfl (Nat.le_of_ble_eq_true rfl) rfl ?_
        refine r_iconst_ (a := 0) rfl (by decide) ?_
        refine r_istore rfl (Nat.le_of_ble_eq_true rfl) rfl ?_
        subst he
        exact r_weak (L1 := [some (.ref 60), some (.int x1), some (.int x2), some (.int (9999 : Int32)), some (.int (0 : Int32)), none]) ⟨rfl, rfl, rfl, rfl, rfl, trivial⟩ (lp_X12_fillsRest_37 _ _ hK2 _ _ (fun _ _ _ _ h9 => ih _ _ _ _ h9) fu _ _ _ _ _ _ hk)
      · rw [if_pos c_23] at he
        replace hk := hk.1 c_23
        refine r_iconst_ (a := 0) rfl (by decide) ?_
        refine r_goto rfl ?_
        refine r_istore_n rfl (Nat.le_of_ble_eq_true rfl) rfl ?_
        refine r_iconst_ (a := 0) rfl (by decide) ?_
        refine r_istore rfl (Nat.le_of_ble_eq_true rfl) rfl ?_
        subst he
        exact r_weak (L1 := [some (.ref 60), some (.int x1), some (.int x2), some (.int (0 : Int32)), some (.int (0 : Int32)), none]) ⟨rfl, rfl, rfl, rfl, rfl, trivial⟩ (lp_X12_fillsRest_37 _ _ hK2 _ _ (fun _ _ _ _ h9 => ih _ _ _ _ h9) fu _ _ _ _ _ _ hk)

def f_X12_fillsRest_2 (fu : Nat) : Nat → Int32 → fl_I → fl_L → fl_I × fl_L
  | 0, x1, s, l => (s, l)
  | n + 1, x1, s, l =>
    if (((1 : Int32) <<< ((s 60 60) &&& 31)) ≤ x1) then (s, l) else f_X12_fillsRest_14 fu (fun x1 s l => f_X12_fillsRest_2 fu n x1 s l) fu x1 (0 : Int32) s l

def p_X12_fillsRest_2 (fu : Nat) : Nat → Int32 → fl_I → fl_L → Prop
  | 0, _, _, _ => False
  | n + 1, x1, s, l =>
    (((((1 : Int32) <<< ((s 60 60) &&& 31)) ≤ x1) → True) ∧ (¬ (((1 : Int32) <<< ((s 60 60) &&& 31)) ≤ x1) → p_X12_fillsRest_14 fu (fun x1 s l => p_X12_fillsRest_2 fu n x1 s l) fu x1 (0 : Int32) s l))

set_option maxRecDepth 100000 in
set_option maxHeartbeats 4000000 in
theorem lp_X12_fillsRest_2 {G : ab_G} {fu : Nat} {d : Nat} {D : fl_D} : ∀ (n : Nat) (x1 : Int32) (s : fl_I) (l : fl_L), p_X12_fillsRest_2 fu n x1 s l → ab_C G (d + 2) 0 0 M_X12_fillsRest 2 [some (.ref 60), some (.int x1), none, none, none, none] [] (hp D s l) (rt none (hp D (f_X12_fillsRest_2 fu n x1 s l).1 (f_X12_fillsRest_2 fu n x1 s l).2)) := by
  intro n
  induction n with
  | zero => intro x1 s l hk; exact hk.elim
  | succ n ih =>
    intro x1 s l hk
    generalize he : f_X12_fillsRest_2 fu (n + 1) x1 s l = res
    unfold f_X12_fillsRest_2 at he
    unfold p_X12_fillsRest_2 at hk
    refine r_iload_n rfl rfl ?_
    refine r_iconst_ (a := 1) rfl (by decide) ?_
    refine r_aload_n rfl rfl ?_
    refine q_getfield rfl (cc_60 _) rfl ?_
    refine r_ishl rfl ?_
    refine r_icmp_ge rfl (fun c_9 => ?_) (fun c_9 => ?_)
    · rw [if_pos c_9] at he
      replace hk := hk.1 c_9
      refine r_ret rfl rfl ?_
      exact fin_v he
    · rw [if_neg c_9] at he
      replace hk := hk.2 c_9
      refine r_iconst_ (a := 0) rfl (by decide) ?_
      refine r_istore_n rfl (Nat.le_of_ble_eq_true rfl) rfl ?_
      subst he
      exact r_weak (L1 := [some (.ref 60), some (.int x1), some (.int (0 : Int32)), none, none, none]) ⟨rfl, rfl, rfl, trivial⟩ (lp_X12_fillsRest_14 _ _ (fun _ _ _ h9 => ih _ _ _ h9) fu _ _ _ _ hk)

def f_X12_fillsRest (fu : Nat) (s : fl_I) (l : fl_L) : fl_I × fl_L :=
  f_X12_fillsRest_2 fu fu (0 : Int32) s l

def p_X12_fillsRest (fu : Nat) (s : fl_I) (l : fl_L) : Prop :=
  p_X12_fillsRest_2 fu fu (0 : Int32) s l

set_option maxRecDepth 100000 in
set_option maxHeartbeats 4000000 in
theorem s_X12_fillsRest {G : ab_G} {fu : Nat} {d : Nat} {D : fl_D} {s : fl_I} {l : fl_L}  (hk : p_X12_fillsRest fu s l) : ab_C G (d + 2) 0 0 M_X12_fillsRest 0 (ab_ent [.ref 60]) [] (hp D s l) (rt none (hp D (f_X12_fillsRest fu s l).1 (f_X12_fillsRest fu s l).2)) := by
  generalize he : (f_X12_fillsRest fu s l) = res
  unfold f_X12_fillsRest at he
  unfold p_X12_fillsRest at hk
  refine r_weak (L1 := [some (.ref 60), none, none, none, none, none]) ⟨rfl, trivial⟩ ?_
  refine r_iconst_ (a := 0) rfl (by decide) ?_
  refine r_istore_n rfl (Nat.le_of_ble_eq_true rfl) rfl ?_
  subst he
  exact r_weak (L1 := [some (.ref 60), some (.int (0 : Int32)), none, none, none, none]) ⟨rfl, rfl, trivial⟩ (lp_X12_fillsRest_2 fu _ _ _ hk)

