def f_X11_longest_47 (fu : Nat) : Nat → Int32 → Int32 → Int32 → Int32 → fl_D → fl_I → fl_L → Int32 × fl_I × fl_L
  | 0, x2, x3, x4, x5, D, s, l => (0, s, l)
  | n + 1, x2, x3, x4, x5, D, s, l =>
    if ((s (if D.2.2.1 then 20 else 9) 1) ≤ x5) then (x3, s, l) else if (((x2 >>> (x5 &&& 31)) &&& (1 : Int32)) = (1 : Int32)) then if ((f_X11_nameLength fu (l ((if D.2.2.1 then 20 else 9) + 2) x5.toNatClampNeg)) ≤ x4) then f_X11_longest_47 fu n x2 x3 x4 (x5 + 1) D s l else f_X11_longest_47 fu n x2 x5 (f_X11_nameLength fu (l ((if D.2.2.1 then 20 else 9) + 2) x5.toNatClampNeg)) (x5 + 1) D s l else f_X11_longest_47 fu n x2 x3 x4 (x5 + 1) D s l

def p_X11_longest_47 (fu : Nat) : Nat → Int32 → Int32 → Int32 → Int32 → fl_D → fl_I → fl_L → Prop
  | 0, _, _, _, _, _, _, _ => False
  | n + 1, x2, x3, x4, x5, D, s, l =>
    ((((s (if D.2.2.1 then 20 else 9) 1) ≤ x5) → True) ∧ (¬ ((s (if D.2.2.1 then 20 else 9) 1) ≤ x5) → (vp_in x5 8) ∧ (p_X11_nameLength fu (l ((if D.2.2.1 then 20 else 9) + 2) x5.toNatClampNeg)) ∧ (((((x2 >>> (x5 &&& 31)) &&& (1 : Int32)) = (1 : Int32)) → ((((f_X11_nameLength fu (l ((if D.2.2.1 then 20 else 9) + 2) x5.toNatClampNeg)) ≤ x4) → p_X11_longest_47 fu n x2 x3 x4 (x5 + 1) D s l) ∧ (¬ ((f_X11_nameLength fu (l ((if D.2.2.1 then 20 else 9) + 2) x5.toNatClampNeg)) ≤ x4) → p_X11_longest_47 fu n x2 x5 (f_X11_nameLength fu (l ((if D.2.2.1 then 20 else 9) + 2) x5.toNatClampNeg)) (x5 + 1) D s l))) ∧ (¬ (((x2 >>> (x5 &&& 31)) &&& (1 : Int32)) = (1 : Int32)) → p_X11_longest_47 fu n x2 x3 x4 (x5 + 1) D s l))))

set_option maxRecDepth 100000 in
set_option maxHeartbeats 1000000 in
theorem lp_X11_longest_47 {G : ab_G} {fu : Nat} {d : Nat} {D : fl_D} : ∀ (n : Nat) (x2 : Int32) (x3 : Int32) (x4 : Int32) (x5 : Int32) (s : fl_I) (l : fl_L), p_X11_longest_47 fu n x2 x3 x4 x5 D s l → ab_C G (d + 5) 0 0 M_X11_longest 47 [some (.ref 0), none, some (.int x2), some (.int x3), some (.int x4), some (.int x5), none] [] (hp D s l) (rt (some (.int (f_X11_longest_47 fu n x2 x3 x4 x5 D s l).1)) (hp D (f_X11_longest_47 fu n x2 x3 x4 x5 D s l).2.1 (f_X11_longest_47 fu n x2 x3 x4 x5 D s l).2.2)) := by
  intro n
  induction n with
  | zero => intro x2 x3 x4 x5 s l hk; exact hk.elim
  | succ n ih =>
    intro x2 x3 x4 x5 s l hk
    generalize he : f_X11_longest_47 fu (n + 1) x2 x3 x4 x5 D s l = res
    unfold f_X11_longest_47 at he
    unfold p_X11_longest_47 at hk
    refine r_iload rfl rfl ?_
    refine r_aload_n rfl rfl ?_
    refine q_getfield rfl (cc_0 _) rfl ?_
    refine q_getfield rfl (cT_0 (isT_l _)) rfl ?_
    refine r_icmp_ge rfl (fun c_56 => ?_) (fun c_56 => ?_)
    · rw [if_pos c_56] at he
      replace hk := hk.1 c_56
      refine r_iload_n rfl rfl ?_
      refine r_iret rfl rfl rfl ?_
      first | with_reducible exact fin_i he | exact fin_i he
    · rw [if_neg c_56] at he
      replace hk := hk.2 c_56
      refine r_aload_n rfl rfl ?_
      refine q_getfield rfl (cc_0 _) rfl ?_
      refine q_getfield rfl (cT_0 (isT_l _)) rfl ?_
      refine r_iload rfl rfl ?_
      obtain ⟨hb3, hk⟩ := hk
      refine q_lald rfl (cT_2 (isT_l _)) hb3 ?_
      obtain ⟨hb4, hk⟩ := hk
      refine r_callS0 [_] _ rfl kY_X11_nameLength kT_X11_nameLength rfl rfl (Nat.le_of_ble_eq_true rfl) (Nat.le_of_ble_eq_true rfl) (s_X11_nameLength hb4) (fun r h q => ?_)
      obtain ⟨rfl, rfl⟩ := q
      simp only [Option.toList, List.cons_append, List.nil_append]
      refine r_istore rfl (Nat.le_of_ble_eq_true rfl) rfl ?_
      refine r_iload_n rfl rfl ?_
      refine r_iload rfl rfl ?_
      refine r_ishr rfl ?_
      refine r_iconst_ (a := 1) rfl (by decide) ?_
      refine r_iand rfl ?_
      refine r_iconst_ (a := 1) rfl (by decide) ?_
      refine r_icmp_ne rfl (fun c_81 => ?_) (fun c_81 => ?_)
      · rw [if_neg c_81] at he
        replace hk := hk.2 c_81
        refine r_iinc (b := x5 + 1) rfl rfl rfl (Nat.le_of_ble_eq_true rfl) rfl ?_
        refine r_goto rfl ?_
        subst he
        exact r_weak (L1 := [some (.ref 0), none, some (.int x2), some (.int x3), some (.int x4), some (.int (x5 + 1)), none]) ⟨rfl, rfl, rfl, rfl, rfl, trivial⟩ (ih _ _ _ _ _ _ hk)
      · rw [if_pos c_81] at he
        replace hk := hk.1 c_81
        refine r_iload rfl rfl ?_
        refine r_iload rfl rfl ?_
        refine r_icmp_le rfl (fun c_88 => ?_) (fun c_88 => ?_)
        · rw [if_pos c_88] at he
          replace hk := hk.1 c_88
          refine r_iinc (b := x5 + 1) rfl rfl rfl (Nat.le_of_ble_eq_true rfl) rfl ?_
          refine r_goto rfl ?_
          subst he
          exact r_weak (L1 := [some (.ref 0), none, some (.int x2), some (.int x3), some (.int x4), some (.int (x5 + 1)), none]) ⟨rfl, rfl, rfl, rfl, rfl, trivial⟩ (ih _ _ _ _ _ _ hk)
        · rw [if_neg c_88] at he
          replace hk := hk.2 c_88
          refine r_iload rfl rfl ?_
          refine r_istore rfl (Nat.le_of_ble_eq_true rfl) rfl ?_
          refine r_iload rfl rfl ?_
          refine r_istore_n rfl (Nat.le_of_ble_eq_true rfl) rfl ?_
          refine r_iinc (b := x5 + 1) rfl rfl rfl (Nat.le_of_ble_eq_true rfl) rfl ?_
          refine r_goto rfl ?_
          subst he
          exact r_weak (L1 := [some (.ref 0), none, some (.int x2), some (.int x5), some (.int (f_X11_nameLength fu (l ((if D.2.2.1 then 20 else 9) + 2) x5.toNatClampNeg))), some (.int (x5 + 1)), none]) ⟨rfl, rfl, rfl, rfl, rfl, trivial⟩ (ih _ _ _ _ _ _ hk)

def f_X11_longest (fu : Nat) (v0 : Int32) (D : fl_D) (s : fl_I) (l : fl_L) : Int32 × fl_I × fl_L :=
  if ((f_X11_isHeap fu v0 s l) = 0) then ((-1 : Int32), s, l) else f_X11_longest_47 fu fu (f_X0_makes fu (if D.2.2.1 then 20 else 9) (f_X0_gather fu v0 (if D.2.2.1 then 20 else 9) 31 s l).1 (f_X0_gather fu v0 (if D.2.2.1 then 20 else 9) 31 s l).2).1 (-2 : Int32) (0 : Int32) (0 : Int32) D (f_X0_makes fu (if D.2.2.1 then 20 else 9) (f_X0_gather fu v0 (if D.2.2.1 then 20 else 9) 31 s l).1 (f_X0_gather fu v0 (if D.2.2.1 then 20 else 9) 31 s l).2).2.1 (f_X0_makes fu (if D.2.2.1 then 20 else 9) (f_X0_gather fu v0 (if D.2.2.1 then 20 else 9) 31 s l).1 (f_X0_gather fu v0 (if D.2.2.1 then 20 else 9) 31 s l).2).2.2

def p_X11_longest (fu : Nat) (v0 : Int32) (D : fl_D) (s : fl_I) (l : fl_L) : Prop :=
  (p_X11_isHeap fu v0 s l) ∧ ((((f_X11_isHeap fu v0 s l) = 0) → True) ∧ (¬ ((f_X11_isHeap fu v0 s l) = 0) → (p_X0_gather fu v0 (if D.2.2.1 then 20 else 9) 31 s l) ∧ (p_X0_makes fu (if D.2.2.1 then 20 else 9) (f_X0_gather fu v0 (if D.2.2.1 then 20 else 9) 31 s l).1 (f_X0_gather fu v0 (if D.2.2.1 then 20 else 9) 31 s l).2) ∧ p_X11_longest_47 fu fu (f_X0_makes fu (if D.2.2.1 then 20 else 9) (f_X0_gather fu v0 (if D.2.2.1 then 20 else 9) 31 s l).1 (f_X0_gather fu v0 (if D.2.2.1 then 20 else 9) 31 s l).2).1 (-2 : Int32) (0 : Int32) (0 : Int32) D (f_X0_makes fu (if D.2.2.1 then 20 else 9) (f_X0_gather fu v0 (if D.2.2.1 then 20 else 9) 31 s l).1 (f_X0_gather fu v0 (if D.2.2.1 then 20 else 9) 31 s l).2).2.1 (f_X0_makes fu (if D.2.2.1 then 20 else 9) (f_X0_gather fu v0 (if D.2.2.1 then 20 else 9) 31 s l).1 (f_X0_gather fu v0 (if D.2.2.1 then 20 else 9) 31 s l).2).2.2))

set_option maxRecDepth 100000 in
set_option maxHeartbeats 1000000 in
theorem s_X11_longest {G : ab_G} {fu : Nat} {d : Nat} {D : fl_D} {s : fl_I} {l : fl_L} {v0 : Int32} (hk : p_X11_longest fu v0 D s l) : ab_C G (d + 5) 0 0 M_X11_longest 0 (ab_ent [.ref 0, .int v0]) [] (hp D s l) (rt (some (.int (f_X11_longest fu v0 D s l).1)) (hp D (f_X11_longest fu v0 D s l).2.1 (f_X11_longest fu v0 D s l).2.2)) := by
  generalize he : (f_X11_longest fu v0 D s l) = res
  unfold f_X11_longest at he
  unfold p_X11_longest at hk
  refine r_weak (L1 := [some (.ref 0), some (.int v0), none, none, none, none, none]) ⟨rfl, rfl, trivial⟩ ?_
  refine r_aload_n rfl rfl ?_
  refine r_iload_n rfl rfl ?_
  obtain ⟨hb0, hk⟩ := hk
  refine q_callV0 [_] _ rfl kY_X11_isHeap kT_X11_isHeap rfl rfl (Nat.le_of_ble_eq_true rfl) (Nat.le_of_ble_eq_true rfl) (cc_0 _) (s_X11_isHeap hb0) (fun r h q => ?_)
  obtain ⟨rfl, rfl⟩ := q
  simp only [Option.toList, List.cons_append, List.nil_append]
  refine r_if_ne rfl (fun c_5 => ?_) (fun c_5 => ?_)
  · rw [if_neg c_5] at he
    replace hk := hk.2 c_5
    refine r_aload_n rfl rfl ?_
    refine q_getfield rfl (cc_0 _) rfl ?_
    refine r_aload_n rfl rfl ?_
    refine q_getfield rfl (cc_0 _) rfl ?_
    refine r_aload_n rfl rfl ?_
    refine q_getfield rfl (cc_0 _) rfl ?_
    refine r_iload_n rfl rfl ?_
    obtain ⟨hb1, hk⟩ := hk
    refine q_callV0 [_, _, _] _ rfl kY_X0_gather kT_X0_gather rfl rfl (Nat.le_of_ble_eq_true rfl) (Nat.le_of_ble_eq_true rfl) (cc_55 _) (s_X0_gather (isT_l _) (Or.inl rfl) hb1) (fun r h q => ?_)
    obtain ⟨rfl, rfl⟩ := q
    simp only [Option.toList, List.cons_append, List.nil_append]
    refine r_aload_n rfl rfl ?_
    refine q_getfield rfl (cc_0 _) rfl ?_
    refine r_aload_n rfl rfl ?_
    refine q_getfield rfl (cc_0 _) rfl ?_
    obtain ⟨hb2, hk⟩ := hk
    refine q_callV0 [_] _ rfl kY_X0_makes kT_X0_makes rfl rfl (Nat.le_of_ble_eq_true rfl) (Nat.le_of_ble_eq_true rfl) (cc_55 _) (s_X0_makes (isT_l _) hb2) (fun r h q => ?_)
    obtain ⟨rfl, rfl⟩ := q
    simp only [Option.toList, List.cons_append, List.nil_append]
    refine r_istore_n rfl (Nat.le_of_ble_eq_true rfl) rfl ?_
    refine r_bipush_ (a := -2) rfl (by decide) ?_
    refine r_istore_n rfl (Nat.le_of_ble_eq_true rfl) rfl ?_
    refine r_iconst_ (a := 0) rfl (by decide) ?_
    refine r_istore rfl (Nat.le_of_ble_eq_true rfl) rfl ?_
    refine r_iconst_ (a := 0) rfl (by decide) ?_
    refine r_istore rfl (Nat.le_of_ble_eq_true rfl) rfl ?_
    subst he
    exact r_weak (L1 := [some (.ref 0), none, some (.int (f_X0_makes fu (if D.2.2.1 then 20 else 9) (f_X0_gather fu v0 (if D.2.2.1 then 20 else 9) 31 s l).1 (f_X0_gather fu v0 (if D.2.2.1 then 20 else 9) 31 s l).2).1), some (.int (-2 : Int32)), some (.int (0 : Int32)), some (.int (0 : Int32)), none]) ⟨rfl, rfl, rfl, rfl, rfl, trivial⟩ (lp_X11_longest_47 fu _ _ _ _ _ _ hk)
  · rw [if_pos c_5] at he
    replace hk := hk.1 c_5
    refine r_iconst_ (a := -1) rfl (by decide) ?_
    refine r_iret rfl rfl rfl ?_
    first | with_reducible exact fin_i he | exact fin_i he

def f_X11_pickerIn (fu : Nat) (v0 : Int32) (v1 : Int32) (v2 : Int32) (D : fl_D) (s : fl_I) (l : fl_L) : Int32 × fl_I × fl_L :=
  if ((f_X11_isPicker fu v0 s l) = 0) then ((-1 : Int32), s, l) else if (v1 < 0) then ((-1 : Int32), s, l) else if ((40 : Int32) < v1) then ((-1 : Int32), s, l) else if (v2 < 0) then ((-1 : Int32), s, l) else if (v2 ≤ (2 : Int32)) then if (v2 = (2 : Int32)) then (((f_X9_goOn fu v1 ((f_X10_copy fu 37 31 s l).1 (if D.2.2.1 then 20 else 9) 18) (if D.2.2.1 then 20 else 9) 37 (f_X10_copy fu 37 31 s l).1 (f_X10_copy fu 37 31 s l).2).1 42 v0.toNatClampNeg), (f_X9_goOn fu v1 ((f_X10_copy fu 37 31 s l).1 (if D.2.2.1 then 20 else 9) 18) (if D.2.2.1 then 20 else 9) 37 (f_X10_copy fu 37 31 s l).1 (f_X10_copy fu 37 31 s l).2).1, (f_X9_goOn fu v1 ((f_X10_copy fu 37 31 s l).1 (if D.2.2.1 then 20 else 9) 18) (if D.2.2.1 then 20 else 9) 37 (f_X10_copy fu 37 31 s l).1 (f_X10_copy fu 37 31 s l).2).2) else if (v2 = 0) then ((((f_X9_goOn fu v1 ((f_X10_copy fu 37 31 s l).1 (if D.2.2.1 then 20 else 9) 18) (if D.2.2.1 then 20 else 9) 37 (f_X10_copy fu 37 31 s l).1 (f_X10_copy fu 37 31 s l).2).1 40 v0.toNatClampNeg) - ((f_X9_goOn fu v1 ((f_X10_copy fu 37 31 s l).1 (if D.2.2.1 then 20 else 9) 18) (if D.2.2.1 then 20 else 9) 37 (f_X10_copy fu 37 31 s l).1 (f_X10_copy fu 37 31 s l).2).1 40 v0.toNatClampNeg) / (10 : Int32) * (10 : Int32)), (f_X9_goOn fu v1 ((f_X10_copy fu 37 31 s l).1 (if D.2.2.1 then 20 else 9) 18) (if D.2.2.1 then 20 else 9) 37 (f_X10_copy fu 37 31 s l).1 (f_X10_copy fu 37 31 s l).2).1, (f_X9_goOn fu v1 ((f_X10_copy fu 37 31 s l).1 (if D.2.2.1 then 20 else 9) 18) (if D.2.2.1 then 20 else 9) 37 (f_X10_copy fu 37 31 s l).1 (f_X10_copy fu 37 31 s l).2).2) else ((((f_X9_goOn fu v1 ((f_X10_copy fu 37 31 s l).1 (if D.2.2.1 then 20 else 9) 18) (if D.2.2.1 then 20 else 9) 37 (f_X10_copy fu 37 31 s l).1 (f_X10_copy fu 37 31 s l).2).1 40 v0.toNatClampNeg) / (10 : Int32)), (f_X9_goOn fu v1 ((f_X10_copy fu 37 31 s l).1 (if D.2.2.1 then 20 else 9) 18) (if D.2.2.1 then 20 else 9) 37 (f_X10_copy fu 37 31 s l).1 (f_X10_copy fu 37 31 s l).2).1, (f_X9_goOn fu v1 ((f_X10_copy fu 37 31 s l).1 (if D.2.2.1 then 20 else 9) 18) (if D.2.2.1 then 20 else 9) 37 (f_X10_copy fu 37 31 s l).1 (f_X10_copy fu 37 31 s l).2).2) else ((-1 : Int32), s, l)

def p_X11_pickerIn (fu : Nat) (v0 : Int32) (v1 : Int32) (v2 : Int32) (D : fl_D) (s : fl_I) (l : fl_L) : Prop :=
  (p_X11_isPicker fu v0 s l) ∧ ((((f_X11_isPicker fu v0 s l) = 0) → True) ∧ (¬ ((f_X11_isPicker fu v0 s l) = 0) → (((v1 < 0) → True) ∧ (¬ (v1 < 0) → ((((40 : Int32) < v1) → True) ∧ (¬ ((40 : Int32) < v1) → (((v2 < 0) → True) ∧ (¬ (v2 < 0) → (((v2 ≤ (2 : Int32)) → (p_X10_copy fu 37 31 s l) ∧ (p_X9_goOn fu v1 ((f_X10_copy fu 37 31 s l).1 (if D.2.2.1 then 20 else 9) 18) (if D.2.2.1 then 20 else 9) 37 (f_X10_copy fu 37 31 s l).1 (f_X10_copy fu 37 31 s l).2) ∧ (((v2 = (2 : Int32)) → (vp_in v0 4) ∧ True) ∧ (¬ (v2 = (2 : Int32)) → (vp_in v0 4) ∧ (((v2 = 0) → True) ∧ (¬ (v2 = 0) → True))))) ∧ (¬ (v2 ≤ (2 : Int32)) → True))))))))))

set_option maxRecDepth 100000 in
set_option maxHeartbeats 1000000 in
theorem s_X11_pickerIn {G : ab_G} {fu : Nat} {d : Nat} {D : fl_D} {s : fl_I} {l : fl_L} {v0 : Int32} {v1 : Int32} {v2 : Int32} (hk : p_X11_pickerIn fu v0 v1 v2 D s l) : ab_C G (d + 5) 0 0 M_X11_pickerIn 0 (ab_ent [.ref 0, .int v0, .int v1, .int v2]) [] (hp D s l) (rt (some (.int (f_X11_pickerIn fu v0 v1 v2 D s l).1)) (hp D (f_X11_pickerIn fu v0 v1 v2 D s l).2.1 (f_X11_pickerIn fu v0 v1 v2 D s l).2.2)) := by
  generalize he : (f_X11_pickerIn fu v0 v1 v2 D s l) = res
  unfold f_X11_pickerIn at he
  unfold p_X11_pickerIn at hk
  refine r_weak (L1 := [some (.ref 0), some (.int v0), some (.int v1), some (.int v2), none]) ⟨rfl, rfl, rfl, rfl, trivial⟩ ?_
  refine r_aload_n rfl rfl ?_
  refine r_iload_n rfl rfl ?_
  obtain ⟨hb0, hk⟩ := hk
  refine q_callV0 [_] _ rfl kY_X11_isPicker kT_X11_isPicker rfl rfl (Nat.le_of_ble_eq_true rfl) (Nat.le_of_ble_eq_true rfl) (cc_0 _) (s_X11_isPicker hb0) (fun r h q => ?_)
  obtain ⟨rfl, rfl⟩ := q
  simp only [Option.toList, List.cons_append, List.nil_append]
  refine r_if_eq rfl (fun c_5 => ?_) (fun c_5 => ?_)
  · rw [if_pos c_5] at he
    replace hk := hk.1 c_5
    refine r_iconst_ (a := -1) rfl (by decide) ?_
    refine r_iret rfl rfl rfl ?_
    first | with_reducible exact fin_i he | exact fin_i he
  · rw [if_neg c_5] at he
    replace hk := hk.2 c_5
    refine r_iload_n rfl rfl ?_
    refine r_if_lt rfl (fun c_9 => ?_) (fun c_9 => ?_)
    · rw [if_pos c_9] at he
      replace hk := hk.1 c_9
      refine r_iconst_ (a := -1) rfl (by decide) ?_
      refine r_iret rfl rfl rfl ?_
      first | with_reducible exact fin_i he | exact fin_i he
    · rw [if_neg c_9] at he
      replace hk := hk.2 c_9
      refine r_iload_n rfl rfl ?_
      refine r_bipush_ (a := 40) rfl (by decide) ?_
      refine r_icmp_gt rfl (fun c_15 => ?_) (fun c_15 => ?_)
      · rw [if_pos c_15] at he
        replace hk := hk.1 c_15
        refine r_iconst_ (a := -1) rfl (by decide) ?_
        refine r_iret rfl rfl rfl ?_
        first | with_reducible exact fin_i he | exact fin_i he
      · rw [if_neg c_15] at he
        replace hk := hk.2 c_15
        refine r_iload_n rfl rfl ?_
        refine r_if_lt rfl (fun c_19 => ?_) (fun c_19 => ?_)
        · rw [if_pos c_19] at he
          replace hk := hk.1 c_19
          refine r_iconst_ (a := -1) rfl (by decide) ?_
          refine r_iret rfl rfl rfl ?_
          first | with_reducible exact fin_i he | exact fin_i he
        · rw [if_neg c_19] at he
          replace hk := hk.2 c_19
          refine r_iload_n rfl rfl ?_
          refine r_iconst_ (a := 2) rfl (by decide) ?_
          refine r_icmp_le rfl (fun c_24 => ?_) (fun c_24 => ?_)
          · rw [if_pos c_24] at he
            replace hk := hk.1 c_24
            refine r_aload_n rfl rfl ?_
            refine q_getfield rfl (cc_0 _) rfl ?_
            refine r_aload_n rfl rfl ?_
            refine q_getfield rfl (cc_0 _) rfl ?_
            obtain ⟨hb1, hk⟩ := hk
            refine q_callV0 [_] _ rfl kY_X10_copy kT_X10_copy rfl rfl (Nat.le_of_ble_eq_true rfl) (Nat.le_of_ble_eq_true rfl) (cc_37 _) (s_X10_copy (Or.inr (Or.inl rfl)) (Or.inl rfl) hb1) (fun r h q => ?_)
            obtain ⟨rfl, rfl⟩ := q
            simp only [Option.toList, List.cons_append, List.nil_append]
            refine r_aload_n rfl rfl ?_
            refine q_getfield rfl (cc_0 _) rfl ?_
            refine r_aload_n rfl rfl ?_
            refine q_getfield rfl (cc_0 _) rfl ?_
            refine r_aload_n rfl rfl ?_
            refine q_getfield rfl (cc_0 _) rfl ?_
            refine r_iload_n rfl rfl ?_
            refine r_aload_n rfl rfl ?_
            refine q_getfield rfl (cc_0 _) rfl ?_
            refine q_getfield rfl (cT_0 (isT_l _)) rfl ?_
            obtain ⟨hb2, hk⟩ := hk
            refine q_callV0 [_, _, _, _] _ rfl kY_X9_goOn kT_X9_goOn rfl rfl (Nat.le_of_ble_eq_true rfl) (Nat.le_of_ble_eq_true rfl) (cc_46 _) (s_X9_goOn (isT_l _) (Or.inr (Or.inl rfl)) hb2) (fun r h q => ?_)
            obtain ⟨rfl, rfl⟩ := q
            simp only [Option.toList, List.cons_append, List.nil_append]
            refine r_iload_n rfl rfl ?_
            refine r_iconst_ (a := 2) rfl (by decide) ?_
            refine r_icmp_ne rfl (fun c_65 => ?_) (fun c_65 => ?_)
            · rw [if_neg c_65] at he
              replace hk := hk.2 c_65
              refine r_aload_n rfl rfl ?_
              refine q_getfield rfl (cc_0 _) rfl ?_
              refine q_getfield rfl (cc_37 _) rfl ?_
              refine r_iload_n rfl rfl ?_
              obtain ⟨hb3, hk⟩ := hk
              refine q_iald rfl (cc_40 _) hb3 ?_
              refine r_istore rfl (Nat.le_of_ble_eq_true rfl) rfl ?_
              refine r_iload_n rfl rfl ?_
              refine r_if_ne rfl (fun c_90 => ?_) (fun c_90 => ?_)
              · rw [if_neg c_90] at he
                replace hk := hk.2 c_90
                refine r_iload rfl rfl ?_
                refine r_bipush_ (a := 10) rfl (by decide) ?_
                refine r_idiv rfl (by decide) ?_
                refine r_iret rfl rfl rfl ?_
                first | with_reducible exact fin_i he | exact fin_i he
              · rw [if_pos c_90] at he
                replace hk := hk.1 c_90
                refine r_iload rfl rfl ?_
                refine r_bipush_ (a := 10) rfl (by decide) ?_
                refine r_irem rfl (by decide) ?_
                refine r_goto rfl ?_
                refine r_iret rfl rfl rfl ?_
                first | with_reducible exact fin_i he | exact fin_i he
            · rw [if_pos c_65] at he
              replace hk := hk.1 c_65
              refine r_aload_n rfl rfl ?_
              refine q_getfield rfl (cc_0 _) rfl ?_
              refine q_getfield rfl (cc_37 _) rfl ?_
              refine r_iload_n rfl rfl ?_
              obtain ⟨hb4, hk⟩ := hk
              refine q_iald rfl (cc_42 _) hb4 ?_
              refine r_iret rfl rfl rfl ?_
              first | with_reducible exact fin_i he | exact fin_i he
          · rw [if_neg c_24] at he
            replace hk := hk.2 c_24
            refine r_iconst_ (a := -1) rfl (by decide) ?_
            refine r_iret rfl rfl rfl ?_
            first | with_reducible exact fin_i he | exact fin_i he

def f_X12_piece (fu : Nat) (v0 : Int32) (v1 : Int32) (s : fl_I) (l : fl_L) : Int32 × fl_I × fl_L :=
  if ((f_X12_isPiece fu v0 s l) = 0) then ((-1 : Int32), s, l) else if (v1 = 0) then (((f_X12_copies fu s l).1 96 v0.toNatClampNeg), (f_X12_copies fu s l).1, (f_X12_copies fu s l).2) else if (v1 = 1) then (((f_X12_copies fu s l).1 97 v0.toNatClampNeg), (f_X12_copies fu s l).1, (f_X12_copies fu s l).2) else if (v1 = 2) then ((f_X12_pieceAcross fu v0 (f_X12_copies fu s l).1 (f_X12_copies fu s l).2), (f_X12_copies fu s l).1, (f_X12_copies fu s l).2) else if (v1 = 3) then ((f_X12_pieceDown fu v0 (f_X12_copies fu s l).1 (f_X12_copies fu s l).2), (f_X12_copies fu s l).1, (f_X12_copies fu s l).2) else if (v1 = 4) then (((f_X12_copies fu s l).1 95 ((64 : Int32) + v0).toNatClampNeg), (f_X12_copies fu s l).1, (f_X12_copies fu s l).2) else if (v1 = 5) then (((f_X12_copies fu s l).1 95 ((96 : Int32) + v0).toNatClampNeg), (f_X12_copies fu s l).1, (f_X12_copies fu s l).2) else if (v1 = 6) then if ((f_X12_doesLie fu v0 (f_X12_copies fu s l).1 (f_X12_copies fu s l).2) = 0) then ((0 : Int32), (f_X12_copies fu s l).1, (f_X12_copies fu s l).2) else if ((f_X12_isBlown fu v0 (f_X12_copies fu s l).1 (f_X12_copies fu s l).2).1 = 0) then ((0 : Int32), (f_X12_isBlown fu v0 (f_X12_copies fu s l).1 (f_X12_copies fu s l).2).2.1, (f_X12_isBlown fu v0 (f_X12_copies fu s l).1 (f_X12_copies fu s l).2).2.2) else ((1 : Int32), (f_X12_isBlown fu v0 (f_X12_copies fu s l).1 (f_X12_copies fu s l).2).2.1, (f_X12_isBlown fu v0 (f_X12_copies fu s l).1 (f_X12_copies fu s l).2).2.2) else if (v1 = 7) then if ((f_X12_doesLie fu v0 (f_X12_copies fu s l).1 (f_X12_copies fu s l).2) = 0) then ((0 : Int32), (f_X12_copies fu s l).1, (f_X12_copies fu s l).2) else ((f_X12_takesOf fu v0 (f_X12_copies fu s l).1 (f_X12_copies fu s l).2).1, (f_X12_takesOf fu v0 (f_X12_copies fu s l).1 (f_X12_copies fu s l).2).2.1, (f_X12_takesOf fu v0 (f_X12_copies fu s l).1 (f_X12_copies fu s l).2).2.2) else ((-1 : Int32), (f_X12_copies fu s l).1, (f_X12_copies fu s l).2)

def p_X12_piece (fu : Nat) (v0 : Int32) (v1 : Int32) (s : fl_I) (l : fl_L) : Prop :=
  (p_X12_isPiece fu v0 s l) ∧ ((((f_X12_isPiece fu v0 s l) = 0) → True) ∧ (¬ ((f_X12_isPiece fu v0 s l) = 0) → (p_X12_copies fu s l) ∧ (((v1 = 0) → (vp_in v0 32) ∧ True) ∧ (¬ (v1 = 0) → (((v1 = 1) → (vp_in v0 32) ∧ True) ∧ (¬ (v1 = 1) → (((v1 = 2) → (p_X12_pieceAcross fu v0 (f_X12_copies fu s l).1 (f_X12_copies fu s l).2) ∧ True) ∧ (¬ (v1 = 2) → (((v1 = 3) → (p_X12_pieceDown fu v0 (f_X12_copies fu s l).1 (f_X12_copies fu s l).2) ∧ True) ∧ (¬ (v1 = 3) → (((v1 = 4) → (vp_in ((64 : Int32) + v0) 141) ∧ True) ∧ (¬ (v1 = 4) → (((v1 = 5) → (vp_in ((96 : Int32) + v0) 141) ∧ True) ∧ (¬ (v1 = 5) → (((v1 = 6) → (p_X12_doesLie fu v0 (f_X12_copies fu s l).1 (f_X12_copies fu s l).2) ∧ ((((f_X12_doesLie fu v0 (f_X12_copies fu s l).1 (f_X12_copies fu s l).2) = 0) → True) ∧ (¬ ((f_X12_doesLie fu v0 (f_X12_copies fu s l).1 (f_X12_copies fu s l).2) = 0) → (p_X12_isBlown fu v0 (f_X12_copies fu s l).1 (f_X12_copies fu s l).2) ∧ ((((f_X12_isBlown fu v0 (f_X12_copies fu s l).1 (f_X12_copies fu s l).2).1 = 0) → True) ∧ (¬ ((f_X12_isBlown fu v0 (f_X12_copies fu s l).1 (f_X12_copies fu s l).2).1 = 0) → True))))) ∧ (¬ (v1 = 6) → (((v1 = 7) → (p_X12_doesLie fu v0 (f_X12_copies fu s l).1 (f_X12_copies fu s l).2) ∧ ((((f_X12_doesLie fu v0 (f_X12_copies fu s l).1 (f_X12_copies fu s l).2) = 0) → True) ∧ (¬ ((f_X12_doesLie fu v0 (f_X12_copies fu s l).1 (f_X12_copies fu s l).2) = 0) → (p_X12_takesOf fu v0 (f_X12_copies fu s l).1 (f_X12_copies fu s l).2) ∧ True))) ∧ (¬ (v1 = 7) → True))))))))))))))))))

set_option maxRecDepth 100000 in
set_option maxHeartbeats 1000000 in
theorem s_X12_piece {G : ab_G} {fu : Nat} {d : Nat} {D : fl_D} {s : fl_I} {l : fl_L} {v0 : Int32} {v1 : Int32} (hk : p_X12_piece fu v0 v1 s l) : ab_C G (d + 4) 0 0 M_X12_piece 0 (ab_ent [.ref 60, .int v0, .int v1]) [] (hp D s l) (rt (some (.int (f_X12_piece fu v0 v1 s l).1)) (hp D (f_X12_piece fu v0 v1 s l).2.1 (f_X12_piece fu v0 v1 s l).2.2)) := by
  generalize he : (f_X12_piece fu v0 v1 s l) = res
  unfold f_X12_piece at he
  unfold p_X12_piece at hk
  refine r_weak (L1 := [some (.ref 60), some (.int v0), some (.int v1)]) ⟨rfl, rfl, rfl, trivial⟩ ?_
  refine r_aload_n rfl rfl ?_
  refine r_iload_n rfl rfl ?_
  obtain ⟨hb0, hk⟩ := hk
  refine q_callV0 [_] _ rfl kY_X12_isPiece kT_X12_isPiece rfl rfl (Nat.le_of_ble_eq_true rfl) (Nat.le_of_ble_eq_true rfl) (cc_60 _) (s_X12_isPiece hb0) (fun r h q => ?_)
  obtain ⟨rfl, rfl⟩ := q
  simp only [Option.toList, List.cons_append, List.nil_append]
  refine r_if_ne rfl (fun c_5 => ?_) (fun c_5 => ?_)
  · rw [if_neg c_5] at he
    replace hk := hk.2 c_5
    refine r_aload_n rfl rfl ?_
    obtain ⟨hb1, hk⟩ := hk
    refine q_callV0 [] _ rfl kY_X12_copies kT_X12_copies rfl rfl (Nat.le_of_ble_eq_true rfl) (Nat.le_of_ble_eq_true rfl) (cc_60 _) (s_X12_copies hb1) (fun r h q => ?_)
    obtain ⟨rfl, rfl⟩ := q
    simp only [Option.toList, List.cons_append, List.nil_append]
    refine r_iload_n rfl rfl ?_
    by_cases c_15_0 : (v1 = 0)
    · rw [if_pos c_15_0] at he
      replace hk := hk.1 c_15_0
      refine r_tableIn (tgt := 60) rfl (by rw [c_15_0]; decide) (by rw [c_15_0]; decide) (by rw [c_15_0]; rfl) (by decide) ?_
      refine r_aload_n rfl rfl ?_
      refine q_getfield rfl (cc_60 _) rfl ?_
      refine r_iload_n rfl rfl ?_
      obtain ⟨hb2, hk⟩ := hk
      refine q_iald rfl (cc_96 _) hb2 ?_
      refine r_iret rfl rfl rfl ?_
      first | with_reducible exact fin_i he | exact fin_i he
    · rw [if_neg c_15_0] at he
      replace hk := hk.2 c_15_0
      by_cases c_15_1 : (v1 = 1)
      · rw [if_pos c_15_1] at he
        replace hk := hk.1 c_15_1
        refine r_tableIn (tgt := 67) rfl (by rw [c_15_1]; decide) (by rw [c_15_1]; decide) (by rw [c_15_1]; rfl) (by decide) ?_
        refine r_aload_n rfl rfl ?_
        refine q_getfield rfl (cc_60 _) rfl ?_
        refine r_iload_n rfl rfl ?_
        obtain ⟨hb3, hk⟩ := hk
        refine q_iald rfl (cc_97 _) hb3 ?_
        refine r_iret rfl rfl rfl ?_
        first | with_reducible exact fin_i he | exact fin_i he
      · rw [if_neg c_15_1] at he
        replace hk := hk.2 c_15_1
        by_cases c_15_2 : (v1 = 2)
        · rw [if_pos c_15_2] at he
          replace hk := hk.1 c_15_2
          refine r_tableIn (tgt := 74) rfl (by rw [c_15_2]; decide) (by rw [c_15_2]; decide) (by rw [c_15_2]; rfl) (by decide) ?_
          refine r_aload_n rfl rfl ?_
          refine r_iload_n rfl rfl ?_
          obtain ⟨hb4, hk⟩ := hk
          refine q_callV0 [_] _ rfl kY_X12_pieceAcross kT_X12_pieceAcross rfl rfl (Nat.le_of_ble_eq_true rfl) (Nat.le_of_ble_eq_true rfl) (cc_60 _) (s_X12_pieceAcross hb4) (fun r h q => ?_)
          obtain ⟨rfl, rfl⟩ := q
          simp only [Option.toList, List.cons_append, List.nil_append]
          refine r_iret rfl rfl rfl ?_
          first | with_reducible exact fin_i he | exact fin_i he
        · rw [if_neg c_15_2] at he
          replace hk := hk.2 c_15_2
          by_cases c_15_3 : (v1 = 3)
          · rw [if_pos c_15_3] at he
            replace hk := hk.1 c_15_3
            refine r_tableIn (tgt := 80) rfl (by rw [c_15_3]; decide) (by rw [c_15_3]; decide) (by rw [c_15_3]; rfl) (by decide) ?_
            refine r_aload_n rfl rfl ?_
            refine r_iload_n rfl rfl ?_
            obtain ⟨hb5, hk⟩ := hk
            refine q_callV0 [_] _ rfl kY_X12_pieceDown kT_X12_pieceDown rfl rfl (Nat.le_of_ble_eq_true rfl) (Nat.le_of_ble_eq_true rfl) (cc_60 _) (s_X12_pieceDown hb5) (fun r h q => ?_)
            obtain ⟨rfl, rfl⟩ := q
            simp only [Option.toList, List.cons_append, List.nil_append]
            refine r_iret rfl rfl rfl ?_
            first | with_reducible exact fin_i he | exact fin_i he
          · rw [if_neg c_15_3] at he
            replace hk := hk.2 c_15_3
            by_cases c_15_4 : (v1 = 4)
            · rw [if_pos c_15_4] at he
              replace hk := hk.1 c_15_4
              refine r_tableIn (tgt := 86) rfl (by rw [c_15_4]; decide) (by rw [c_15_4]; decide) (by rw [c_15_4]; rfl) (by decide) ?_
              refine r_aload_n rfl rfl ?_
              refine q_getfield rfl (cc_60 _) rfl ?_
              refine r_bipush_ (a := 64) rfl (by decide) ?_
              refine r_iload_n rfl rfl ?_
              refine r_iadd rfl ?_
              obtain ⟨hb6, hk⟩ := hk
              refine q_iald rfl (cc_95 _) hb6 ?_
              refine r_iret rfl rfl rfl ?_
              first | with_reducible exact fin_i he | exact fin_i he
            · rw [if_neg c_15_4] at he
              replace hk := hk.2 c_15_4
              by_cases c_15_5 : (v1 = 5)
              · rw [if_pos c_15_5] at he
                replace hk := hk.1 c_15_5
                refine r_tableIn (tgt := 96) rfl (by rw [c_15_5]; decide) (by rw [c_15_5]; decide) (by rw [c_15_5]; rfl) (by decide) ?_
                refine r_aload_n rfl rfl ?_
                refine q_getfield rfl (cc_60 _) rfl ?_
                refine r_bipush_ (a := 96) rfl (by decide) ?_
                refine r_iload_n rfl rfl ?_
                refine r_iadd rfl ?_
                obtain ⟨hb7, hk⟩ := hk
                refine q_iald rfl (cc_95 _) hb7 ?_
                refine r_iret rfl rfl rfl ?_
                first | with_reducible exact fin_i he | exact fin_i he
              · rw [if_neg c_15_5] at he
                replace hk := hk.2 c_15_5
                by_cases c_15_6 : (v1 = 6)
                · rw [if_pos c_15_6] at he
                  replace hk := hk.1 c_15_6
                  refine r_tableIn (tgt := 106) rfl (by rw [c_15_6]; decide) (by rw [c_15_6]; decide) (by rw [c_15_6]; rfl) (by decide) ?_
                  refine r_aload_n rfl rfl ?_
                  refine r_iload_n rfl rfl ?_
                  obtain ⟨hb8, hk⟩ := hk
                  refine q_callV0 [_] _ rfl kY_X12_doesLie kT_X12_doesLie rfl rfl (Nat.le_of_ble_eq_true rfl) (Nat.le_of_ble_eq_true rfl) (cc_60 _) (s_X12_doesLie hb8) (fun r h q => ?_)
                  obtain ⟨rfl, rfl⟩ := q
                  simp only [Option.toList, List.cons_append, List.nil_append]
                  refine r_if_eq rfl (fun c_111 => ?_) (fun c_111 => ?_)
                  · rw [if_pos c_111] at he
                    replace hk := hk.1 c_111
                    refine r_iconst_ (a := 0) rfl (by decide) ?_
                    refine r_iret rfl rfl rfl ?_
                    first | with_reducible exact fin_i he | exact fin_i he
                  · rw [if_neg c_111] at he
                    replace hk := hk.2 c_111
                    refine r_aload_n rfl rfl ?_
                    refine r_iload_n rfl rfl ?_
                    obtain ⟨hb9, hk⟩ := hk
                    refine q_callV0 [_] _ rfl kY_X12_isBlown kT_X12_isBlown rfl rfl (Nat.le_of_ble_eq_true rfl) (Nat.le_of_ble_eq_true rfl) (cc_60 _) (s_X12_isBlown hb9) (fun r h q => ?_)
                    obtain ⟨rfl, rfl⟩ := q
                    simp only [Option.toList, List.cons_append, List.nil_append]
                    refine r_if_eq rfl (fun c_119 => ?_) (fun c_119 => ?_)
                    · rw [if_pos c_119] at he
                      replace hk := hk.1 c_119
                      refine r_iconst_ (a := 0) rfl (by decide) ?_
                      refine r_iret rfl rfl rfl ?_
                      first | with_reducible exact fin_i he | exact fin_i he
                    · rw [if_neg c_119] at he
                      replace hk := hk.2 c_119
                      refine r_iconst_ (a := 1) rfl (by decide) ?_
                      refine r_goto rfl ?_
                      refine r_iret rfl rfl rfl ?_
                      first | with_reducible exact fin_i he | exact fin_i he
                · rw [if_neg c_15_6] at he
                  replace hk := hk.2 c_15_6
                  by_cases c_15_7 : (v1 = 7)
                  · rw [if_pos c_15_7] at he
                    replace hk := hk.1 c_15_7
                    refine r_tableIn (tgt := 128) rfl (by rw [c_15_7]; decide) (by rw [c_15_7]; decide) (by rw [c_15_7]; rfl) (by decide) ?_
                    refine r_aload_n rfl rfl ?_
                    refine r_iload_n rfl rfl ?_
                    obtain ⟨hb10, hk⟩ := hk
                    refine q_callV0 [_] _ rfl kY_X12_doesLie kT_X12_doesLie rfl rfl (Nat.le_of_ble_eq_true rfl) (Nat.le_of_ble_eq_true rfl) (cc_60 _) (s_X12_doesLie hb10) (fun r h q => ?_)
                    obtain ⟨rfl, rfl⟩ := q
                    simp only [Option.toList, List.cons_append, List.nil_append]
                    refine r_if_eq rfl (fun c_133 => ?_) (fun c_133 => ?_)
                    · rw [if_pos c_133] at he
                      replace hk := hk.1 c_133
                      refine r_iconst_ (a := 0) rfl (by decide) ?_
                      refine r_iret rfl rfl rfl ?_
                      first | with_reducible exact fin_i he | exact fin_i he
                    · rw [if_neg c_133] at he
                      replace hk := hk.2 c_133
                      refine r_aload_n rfl rfl ?_
                      refine r_iload_n rfl rfl ?_
                      obtain ⟨hb11, hk⟩ := hk
                      refine q_callV0 [_] _ rfl kY_X12_takesOf kT_X12_takesOf rfl rfl (Nat.le_of_ble_eq_true rfl) (Nat.le_of_ble_eq_true rfl) (cc_60 _) (s_X12_takesOf hb11) (fun r h q => ?_)
                      obtain ⟨rfl, rfl⟩ := q
                      simp only [Option.toList, List.cons_append, List.nil_append]
                      refine r_goto rfl ?_
                      refine r_iret rfl rfl rfl ?_
                      first | with_reducible exact fin_i he | exact fin_i he
                  · rw [if_neg c_15_7] at he
                    replace hk := hk.2 c_15_7
                    refine r_tableOut (tgt := 146) rfl (by simp only [Int32.lt_iff_toInt_lt, Int32.le_iff_toInt_le, ← Int32.toInt_inj, ti_0, ti_1, ti_2, ti_3, ti_4, ti_5, ti_6, ti_7, ti_8, ti_9, ti_10, ti_11, ti_12, ti_13, ti_14, ti_15, ti_16, ti_17, ti_18, ti_19, ti_20, ti_21, ti_22, ti_23, ti_24, ti_25, ti_26, ti_27, ti_28, ti_29, ti_30, ti_31, ti_32, ti_33, ti_34, ti_35, ti_36, ti_37, ti_38, ti_39, ti_40, ti_41, ti_42, ti_43, ti_44, ti_45, ti_46, ti_47, ti_48, ti_49, ti_50, ti_51, ti_52, ti_53, ti_54, ti_55, ti_56, ti_57, ti_58, ti_59, ti_60, ti_61, ti_62, ti_63, ti_64, ti_79, ti_80, ti_90, ti_96, ti_97, ti_99, ti_100, ti_122, ti_128, ti_132, ti_136, ti_140, ti_141, ti_145, ti_255, ti_256, ti_257, ti_258, ti_259, ti_260, ti_261, ti_262, ti_263, ti_264, ti_265, ti_266, ti_267, ti_268, ti_269, ti_270, ti_271, ti_272, ti_273, ti_274, ti_275, ti_276, ti_277, ti_278, ti_400, ti_401, ti_408, ti_420, ti_840, ti_999, ti_1980, ti_2000, ti_9999, ti_10000, ti_10240, ti_1000000, ti_m1, ti_m2, ti_m3, ti_m4, ti_m5, ti_m6, ti_m7] at c_15_0 c_15_1 c_15_2 c_15_3 c_15_4 c_15_5 c_15_6 c_15_7; omega) (by decide) ?_
                    refine r_iconst_ (a := -1) rfl (by decide) ?_
                    refine r_iret rfl rfl rfl ?_
                    first | with_reducible exact fin_i he | exact fin_i he
  · rw [if_pos c_5] at he
    replace hk := hk.1 c_5
    refine r_iconst_ (a := -1) rfl (by decide) ?_
    refine r_iret rfl rfl rfl ?_
    first | with_reducible exact fin_i he | exact fin_i he

