def f_X12_records_52 (fu : Nat) : Nat → Int32 → fl_I → fl_L → fl_I × fl_L
  | 0, x1, s, l => (s, l)
  | n + 1, x1, s, l =>
    if ((141 : Int32) ≤ x1) then ((f_X12_keepsRow fu (wi s 60 58 ((s 60 58) + (1 : Int32))) l).1, (f_X12_keepsRow fu (wi s 60 58 ((s 60 58) + (1 : Int32))) l).2) else f_X12_records_52 fu n (x1 + 1) (wi s 99 (((141 : Int32) * (s 60 58)) + x1).toNatClampNeg (s 94 x1.toNatClampNeg)) l

def p_X12_records_52 (fu : Nat) : Nat → Int32 → fl_I → fl_L → Prop
  | 0, _, _, _ => False
  | n + 1, x1, s, l =>
    ((((141 : Int32) ≤ x1) → (p_X12_keepsRow fu (wi s 60 58 ((s 60 58) + (1 : Int32))) l) ∧ True) ∧ (¬ ((141 : Int32) ≤ x1) → (vp_in x1 141) ∧ (vp_in (((141 : Int32) * (s 60 58)) + x1) 5640) ∧ p_X12_records_52 fu n (x1 + 1) (wi s 99 (((141 : Int32) * (s 60 58)) + x1).toNatClampNeg (s 94 x1.toNatClampNeg)) l))

set_option maxRecDepth 100000 in
set_option maxHeartbeats 1000000 in
theorem lp_X12_records_52 {G : ab_G} {fu : Nat} {d : Nat} {D : fl_D} : ∀ (n : Nat) (x1 : Int32) (s : fl_I) (l : fl_L), p_X12_records_52 fu n x1 s l → ab_C G (d + 1) 0 0 M_X12_records 52 [some (.ref 60), some (.int x1)] [] (hp D s l) (rt none (hp D (f_X12_records_52 fu n x1 s l).1 (f_X12_records_52 fu n x1 s l).2)) := by
  intro n
  induction n with
  | zero => intro x1 s l hk; exact hk.elim
  | succ n ih =>
    intro x1 s l hk
    generalize he : f_X12_records_52 fu (n + 1) x1 s l = res
    unfold f_X12_records_52 at he
    unfold p_X12_records_52 at hk
    refine r_iload_n rfl rfl ?_
    refine r_sipush_ (a := 141) rfl (by decide) ?_
    refine r_icmp_ge rfl (fun c_56 => ?_) (fun c_56 => ?_)
    · rw [if_pos c_56] at he
      replace hk := hk.1 c_56
      refine r_aload_n rfl rfl ?_
      refine r_dup rfl rfl ?_
      refine q_getfield rfl (cc_60 _) rfl ?_
      refine r_iconst_ (a := 1) rfl (by decide) ?_
      refine r_iadd rfl ?_
      refine w_put rfl (cc_60 _) ff_12_58 ft_12_58 (fun _ _ => (Nat.le_of_ble_eq_true rfl)) (fun _ _ => rfl) ?_
      refine r_aload_n rfl rfl ?_
      obtain ⟨hb0, hk⟩ := hk
      refine q_callV0 [] _ rfl kY_X12_keepsRow kT_X12_keepsRow rfl rfl (Nat.le_of_ble_eq_true rfl) (Nat.le_of_ble_eq_true rfl) (cc_60 _) (s_X12_keepsRow hb0) (fun r h q => ?_)
      obtain ⟨rfl, rfl⟩ := q
      simp only [Option.toList, List.cons_append, List.nil_append]
      refine r_ret rfl rfl ?_
      first | with_reducible exact fin_v he | exact fin_v he
    · rw [if_neg c_56] at he
      replace hk := hk.2 c_56
      refine r_aload_n rfl rfl ?_
      refine q_getfield rfl (cc_60 _) rfl ?_
      refine r_sipush_ (a := 141) rfl (by decide) ?_
      refine r_aload_n rfl rfl ?_
      refine q_getfield rfl (cc_60 _) rfl ?_
      refine r_imul rfl ?_
      refine r_iload_n rfl rfl ?_
      refine r_iadd rfl ?_
      refine r_aload_n rfl rfl ?_
      refine q_getfield rfl (cc_60 _) rfl ?_
      refine r_iload_n rfl rfl ?_
      obtain ⟨hb1, hk⟩ := hk
      refine q_iald rfl (cc_94 _) hb1 ?_
      obtain ⟨hb2, hk⟩ := hk
      refine w_iast rfl (cc_99 _) hb2 ?_
      refine r_iinc (b := x1 + 1) rfl rfl rfl (Nat.le_of_ble_eq_true rfl) rfl ?_
      refine r_goto rfl ?_
      subst he
      exact r_weak (L1 := [some (.ref 60), some (.int (x1 + 1))]) ⟨rfl, rfl, trivial⟩ (ih _ _ _ hk)

def f_X12_records_11 (fu : Nat) : Nat → Int32 → fl_I → fl_L → fl_I × fl_L
  | 0, x1, s, l => (s, l)
  | n + 1, x1, s, l =>
    if ((5499 : Int32) ≤ x1) then f_X12_records_52 fu fu (0 : Int32) (wi s 60 58 ((s 60 58) - (1 : Int32))) l else f_X12_records_11 fu n (x1 + 1) (wi s 99 x1.toNatClampNeg (s 99 (x1 + (141 : Int32)).toNatClampNeg)) l

def p_X12_records_11 (fu : Nat) : Nat → Int32 → fl_I → fl_L → Prop
  | 0, _, _, _ => False
  | n + 1, x1, s, l =>
    ((((5499 : Int32) ≤ x1) → p_X12_records_52 fu fu (0 : Int32) (wi s 60 58 ((s 60 58) - (1 : Int32))) l) ∧ (¬ ((5499 : Int32) ≤ x1) → (vp_in (x1 + (141 : Int32)) 5640) ∧ (vp_in x1 5640) ∧ p_X12_records_11 fu n (x1 + 1) (wi s 99 x1.toNatClampNeg (s 99 (x1 + (141 : Int32)).toNatClampNeg)) l))

set_option maxRecDepth 100000 in
set_option maxHeartbeats 1000000 in
theorem lp_X12_records_11 {G : ab_G} {fu : Nat} {d : Nat} {D : fl_D} : ∀ (n : Nat) (x1 : Int32) (s : fl_I) (l : fl_L), p_X12_records_11 fu n x1 s l → ab_C G (d + 1) 0 0 M_X12_records 11 [some (.ref 60), some (.int x1)] [] (hp D s l) (rt none (hp D (f_X12_records_11 fu n x1 s l).1 (f_X12_records_11 fu n x1 s l).2)) := by
  intro n
  induction n with
  | zero => intro x1 s l hk; exact hk.elim
  | succ n ih =>
    intro x1 s l hk
    generalize he : f_X12_records_11 fu (n + 1) x1 s l = res
    unfold f_X12_records_11 at he
    unfold p_X12_records_11 at hk
    refine r_iload_n rfl rfl ?_
    refine r_sipush_ (a := 5499) rfl (by decide) ?_
    refine r_icmp_ge rfl (fun c_15 => ?_) (fun c_15 => ?_)
    · rw [if_pos c_15] at he
      replace hk := hk.1 c_15
      refine r_aload_n rfl rfl ?_
      refine r_dup rfl rfl ?_
      refine q_getfield rfl (cc_60 _) rfl ?_
      refine r_iconst_ (a := 1) rfl (by decide) ?_
      refine r_isub rfl ?_
      refine w_put rfl (cc_60 _) ff_12_58 ft_12_58 (fun _ _ => (Nat.le_of_ble_eq_true rfl)) (fun _ _ => rfl) ?_
      refine r_iconst_ (a := 0) rfl (by decide) ?_
      refine r_istore_n rfl (Nat.le_of_ble_eq_true rfl) rfl ?_
      subst he
      exact r_weak (L1 := [some (.ref 60), some (.int (0 : Int32))]) ⟨rfl, rfl, trivial⟩ (lp_X12_records_52 fu _ _ _ hk)
    · rw [if_neg c_15] at he
      replace hk := hk.2 c_15
      refine r_aload_n rfl rfl ?_
      refine q_getfield rfl (cc_60 _) rfl ?_
      refine r_iload_n rfl rfl ?_
      refine r_aload_n rfl rfl ?_
      refine q_getfield rfl (cc_60 _) rfl ?_
      refine r_iload_n rfl rfl ?_
      refine r_sipush_ (a := 141) rfl (by decide) ?_
      refine r_iadd rfl ?_
      obtain ⟨hb3, hk⟩ := hk
      refine q_iald rfl (cc_99 _) hb3 ?_
      obtain ⟨hb4, hk⟩ := hk
      refine w_iast rfl (cc_99 _) hb4 ?_
      refine r_iinc (b := x1 + 1) rfl rfl rfl (Nat.le_of_ble_eq_true rfl) rfl ?_
      refine r_goto rfl ?_
      subst he
      exact r_weak (L1 := [some (.ref 60), some (.int (x1 + 1))]) ⟨rfl, rfl, trivial⟩ (ih _ _ _ hk)

def f_X12_records (fu : Nat) (s : fl_I) (l : fl_L) : fl_I × fl_L :=
  if ((s 60 58) = (40 : Int32)) then f_X12_records_11 fu fu (0 : Int32) s l else f_X12_records_52 fu fu (0 : Int32) s l

def p_X12_records (fu : Nat) (s : fl_I) (l : fl_L) : Prop :=
  ((((s 60 58) = (40 : Int32)) → p_X12_records_11 fu fu (0 : Int32) s l) ∧ (¬ ((s 60 58) = (40 : Int32)) → p_X12_records_52 fu fu (0 : Int32) s l))

set_option maxRecDepth 100000 in
set_option maxHeartbeats 1000000 in
theorem s_X12_records {G : ab_G} {fu : Nat} {d : Nat} {D : fl_D} {s : fl_I} {l : fl_L}  (hk : p_X12_records fu s l) : ab_C G (d + 1) 0 0 M_X12_records 0 (ab_ent [.ref 60]) [] (hp D s l) (rt none (hp D (f_X12_records fu s l).1 (f_X12_records fu s l).2)) := by
  generalize he : (f_X12_records fu s l) = res
  unfold f_X12_records at he
  unfold p_X12_records at hk
  refine r_weak (L1 := [some (.ref 60), none]) ⟨rfl, trivial⟩ ?_
  refine r_aload_n rfl rfl ?_
  refine q_getfield rfl (cc_60 _) rfl ?_
  refine r_bipush_ (a := 40) rfl (by decide) ?_
  refine r_icmp_ne rfl (fun c_6 => ?_) (fun c_6 => ?_)
  · rw [if_neg c_6] at he
    replace hk := hk.2 c_6
    refine r_iconst_ (a := 0) rfl (by decide) ?_
    refine r_istore_n rfl (Nat.le_of_ble_eq_true rfl) rfl ?_
    subst he
    exact r_weak (L1 := [some (.ref 60), some (.int (0 : Int32))]) ⟨rfl, rfl, trivial⟩ (lp_X12_records_52 fu _ _ _ hk)
  · rw [if_pos c_6] at he
    replace hk := hk.1 c_6
    refine r_iconst_ (a := 0) rfl (by decide) ?_
    refine r_istore_n rfl (Nat.le_of_ble_eq_true rfl) rfl ?_
    subst he
    exact r_weak (L1 := [some (.ref 60), some (.int (0 : Int32))]) ⟨rfl, rfl, trivial⟩ (lp_X12_records_11 fu _ _ _ hk)

def f_X5_clear_97 (fu : Nat) (t : Nat) (s : fl_I) (l : fl_L) : fl_I × fl_L :=
    (s, l)

def p_X5_clear_97 (fu : Nat) (t : Nat) (s : fl_I) (l : fl_L) : Prop :=
    True

set_option maxRecDepth 100000 in
set_option maxHeartbeats 1000000 in
theorem lp_X5_clear_97 {G : ab_G} {fu : Nat} {d : Nat} {D : fl_D} {t : Nat} (htt : isT t) : ∀ (s : fl_I) (l : fl_L), p_X5_clear_97 fu  t s l → ab_C G (d + 1) 0 0 M_X5_clear 97 [none] [] (hp D s l) (rt none (hp D (f_X5_clear_97 fu  t s l).1 (f_X5_clear_97 fu  t s l).2)) := by
  intro  s l hk
  generalize he : f_X5_clear_97 fu  t s l = res
  unfold f_X5_clear_97 at he
  unfold p_X5_clear_97 at hk
  refine r_ret rfl rfl ?_
  first | with_reducible exact fin_v he | exact fin_v he

def f_X5_clear_91 (fu : Nat) (t : Nat) (s : fl_I) (l : fl_L) : fl_I × fl_L :=
    f_X5_clear_97 fu  t (f_X5_addCode fu (-6 : Int32) t s l).1 (f_X5_addCode fu (-6 : Int32) t s l).2

def p_X5_clear_91 (fu : Nat) (t : Nat) (s : fl_I) (l : fl_L) : Prop :=
    (p_X5_addCode fu (-6 : Int32) t s l) ∧ p_X5_clear_97 fu  t (f_X5_addCode fu (-6 : Int32) t s l).1 (f_X5_addCode fu (-6 : Int32) t s l).2

set_option maxRecDepth 100000 in
set_option maxHeartbeats 1000000 in
theorem lp_X5_clear_91 {G : ab_G} {fu : Nat} {d : Nat} {D : fl_D} {t : Nat} (htt : isT t) : ∀ (s : fl_I) (l : fl_L), p_X5_clear_91 fu  t s l → ab_C G (d + 1) 0 0 M_X5_clear 91 [some (.ref t)] [] (hp D s l) (rt none (hp D (f_X5_clear_91 fu  t s l).1 (f_X5_clear_91 fu  t s l).2)) := by
  intro  s l hk
  generalize he : f_X5_clear_91 fu  t s l = res
  unfold f_X5_clear_91 at he
  unfold p_X5_clear_91 at hk
  refine r_aload_n rfl rfl ?_
  refine r_bipush_ (a := -6) rfl (by decide) ?_
  obtain ⟨hb3, hk⟩ := hk
  refine q_callV0 [_] _ rfl kY_X5_addCode kT_X5_addCode rfl rfl (Nat.le_of_ble_eq_true rfl) (Nat.le_of_ble_eq_true rfl) (cT_0 htt) (s_X5_addCode htt hb3) (fun r h q => ?_)
  obtain ⟨rfl, rfl⟩ := q
  simp only [Option.toList, List.cons_append, List.nil_append]
  subst he
  exact r_weak (L1 := [none]) trivial (lp_X5_clear_97 htt _ _ hk)

def f_X5_clear_66 (fu : Nat) (t : Nat) (s : fl_I) (l : fl_L) : fl_I × fl_L :=
    f_X5_clear_91 fu  t (f_X5_addCode fu (1 : Int32) t (wi (wi s (t + 10) (1 : Int32).toNatClampNeg (s t 14)) (t + 10) (2 : Int32).toNatClampNeg ((wi s (t + 10) (1 : Int32).toNatClampNeg (s t 14)) t 14)) l).1 (f_X5_addCode fu (1 : Int32) t (wi (wi s (t + 10) (1 : Int32).toNatClampNeg (s t 14)) (t + 10) (2 : Int32).toNatClampNeg ((wi s (t + 10) (1 : Int32).toNatClampNeg (s t 14)) t 14)) l).2

def p_X5_clear_66 (fu : Nat) (t : Nat) (s : fl_I) (l : fl_L) : Prop :=
    (p_X5_addCode fu (1 : Int32) t (wi (wi s (t + 10) (1 : Int32).toNatClampNeg (s t 14)) (t + 10) (2 : Int32).toNatClampNeg ((wi s (t + 10) (1 : Int32).toNatClampNeg (s t 14)) t 14)) l) ∧ p_X5_clear_91 fu  t (f_X5_addCode fu (1 : Int32) t (wi (wi s (t + 10) (1 : Int32).toNatClampNeg (s t 14)) (t + 10) (2 : Int32).toNatClampNeg ((wi s (t + 10) (1 : Int32).toNatClampNeg (s t 14)) t 14)) l).1 (f_X5_addCode fu (1 : Int32) t (wi (wi s (t + 10) (1 : Int32).toNatClampNeg (s t 14)) (t + 10) (2 : Int32).toNatClampNeg ((wi s (t + 10) (1 : Int32).toNatClampNeg (s t 14)) t 14)) l).2

set_option maxRecDepth 100000 in
set_option maxHeartbeats 1000000 in
theorem lp_X5_clear_66 {G : ab_G} {fu : Nat} {d : Nat} {D : fl_D} {t : Nat} (htt : isT t) : ∀ (s : fl_I) (l : fl_L), p_X5_clear_66 fu  t s l → ab_C G (d + 1) 0 0 M_X5_clear 66 [some (.ref t)] [] (hp D s l) (rt none (hp D (f_X5_clear_66 fu  t s l).1 (f_X5_clear_66 fu  t s l).2)) := by
  intro  s l hk
  generalize he : f_X5_clear_66 fu  t s l = res
  unfold f_X5_clear_66 at he
  unfold p_X5_clear_66 at hk
  refine r_aload_n rfl rfl ?_
  refine q_getfield rfl (cT_0 htt) rfl ?_
  refine r_iconst_ (a := 1) rfl (by decide) ?_
  refine r_aload_n rfl rfl ?_
  refine q_getfield rfl (cT_0 htt) rfl ?_
  refine w_iast rfl (cT_10 htt) (by unfold vp_in; decide) ?_
  refine r_aload_n rfl rfl ?_
  refine q_getfield rfl (cT_0 htt) rfl ?_
  refine r_iconst_ (a := 2) rfl (by decide) ?_
  refine r_aload_n rfl rfl ?_
  refine q_getfield rfl (cT_0 htt) rfl ?_
  refine w_iast rfl (cT_10 htt) (by unfold vp_in; decide) ?_
  refine r_aload_n rfl rfl ?_
  refine r_iconst_ (a := 1) rfl (by decide) ?_
  obtain ⟨hb2, hk⟩ := hk
  refine q_callV0 [_] _ rfl kY_X5_addCode kT_X5_addCode rfl rfl (Nat.le_of_ble_eq_true rfl) (Nat.le_of_ble_eq_true rfl) (cT_0 htt) (s_X5_addCode htt hb2) (fun r h q => ?_)
  obtain ⟨rfl, rfl⟩ := q
  simp only [Option.toList, List.cons_append, List.nil_append]
  subst he
  exact r_weak (L1 := [some (.ref t)]) ⟨rfl, trivial⟩ (lp_X5_clear_91 htt _ _ hk)

def f_X5_clear_60 (fu : Nat) (t : Nat) (s : fl_I) (l : fl_L) : fl_I × fl_L :=
    f_X5_clear_66 fu  t (f_X5_addCode fu (-6 : Int32) t s l).1 (f_X5_addCode fu (-6 : Int32) t s l).2

def p_X5_clear_60 (fu : Nat) (t : Nat) (s : fl_I) (l : fl_L) : Prop :=
    (p_X5_addCode fu (-6 : Int32) t s l) ∧ p_X5_clear_66 fu  t (f_X5_addCode fu (-6 : Int32) t s l).1 (f_X5_addCode fu (-6 : Int32) t s l).2

set_option maxRecDepth 100000 in
set_option maxHeartbeats 1000000 in
theorem lp_X5_clear_60 {G : ab_G} {fu : Nat} {d : Nat} {D : fl_D} {t : Nat} (htt : isT t) : ∀ (s : fl_I) (l : fl_L), p_X5_clear_60 fu  t s l → ab_C G (d + 1) 0 0 M_X5_clear 60 [some (.ref t)] [] (hp D s l) (rt none (hp D (f_X5_clear_60 fu  t s l).1 (f_X5_clear_60 fu  t s l).2)) := by
  intro  s l hk
  generalize he : f_X5_clear_60 fu  t s l = res
  unfold f_X5_clear_60 at he
  unfold p_X5_clear_60 at hk
  refine r_aload_n rfl rfl ?_
  refine r_bipush_ (a := -6) rfl (by decide) ?_
  obtain ⟨hb1, hk⟩ := hk
  refine q_callV0 [_] _ rfl kY_X5_addCode kT_X5_addCode rfl rfl (Nat.le_of_ble_eq_true rfl) (Nat.le_of_ble_eq_true rfl) (cT_0 htt) (s_X5_addCode htt hb1) (fun r h q => ?_)
  obtain ⟨rfl, rfl⟩ := q
  simp only [Option.toList, List.cons_append, List.nil_append]
  subst he
  exact r_weak (L1 := [some (.ref t)]) ⟨rfl, trivial⟩ (lp_X5_clear_66 htt _ _ hk)

def f_X5_clear (fu : Nat) (t : Nat) (s : fl_I) (l : fl_L) : fl_I × fl_L :=
  f_X5_clear_60 fu  t (f_X5_addCode fu (0 : Int32) t (wi (wi (wi (wi (wi (wi (wi (wi (wi (wi s t 0 (0 : Int32)) t 1 (0 : Int32)) t 2 (0 : Int32)) t 3 (0 : Int32)) t 15 (1 : Int32)) t 16 (0 : Int32)) t 17 (0 : Int32)) t 18 (0 : Int32)) t 14 (0 : Int32)) (t + 10) (0 : Int32).toNatClampNeg ((wi (wi (wi (wi (wi (wi (wi (wi (wi s t 0 (0 : Int32)) t 1 (0 : Int32)) t 2 (0 : Int32)) t 3 (0 : Int32)) t 15 (1 : Int32)) t 16 (0 : Int32)) t 17 (0 : Int32)) t 18 (0 : Int32)) t 14 (0 : Int32)) t 14)) l).1 (f_X5_addCode fu (0 : Int32) t (wi (wi (wi (wi (wi (wi (wi (wi (wi (wi s t 0 (0 : Int32)) t 1 (0 : Int32)) t 2 (0 : Int32)) t 3 (0 : Int32)) t 15 (1 : Int32)) t 16 (0 : Int32)) t 17 (0 : Int32)) t 18 (0 : Int32)) t 14 (0 : Int32)) (t + 10) (0 : Int32).toNatClampNeg ((wi (wi (wi (wi (wi (wi (wi (wi (wi s t 0 (0 : Int32)) t 1 (0 : Int32)) t 2 (0 : Int32)) t 3 (0 : Int32)) t 15 (1 : Int32)) t 16 (0 : Int32)) t 17 (0 : Int32)) t 18 (0 : Int32)) t 14 (0 : Int32)) t 14)) l).2

def p_X5_clear (fu : Nat) (t : Nat) (s : fl_I) (l : fl_L) : Prop :=
  (p_X5_addCode fu (0 : Int32) t (wi (wi (wi (wi (wi (wi (wi (wi (wi (wi s t 0 (0 : Int32)) t 1 (0 : Int32)) t 2 (0 : Int32)) t 3 (0 : Int32)) t 15 (1 : Int32)) t 16 (0 : Int32)) t 17 (0 : Int32)) t 18 (0 : Int32)) t 14 (0 : Int32)) (t + 10) (0 : Int32).toNatClampNeg ((wi (wi (wi (wi (wi (wi (wi (wi (wi s t 0 (0 : Int32)) t 1 (0 : Int32)) t 2 (0 : Int32)) t 3 (0 : Int32)) t 15 (1 : Int32)) t 16 (0 : Int32)) t 17 (0 : Int32)) t 18 (0 : Int32)) t 14 (0 : Int32)) t 14)) l) ∧ p_X5_clear_60 fu  t (f_X5_addCode fu (0 : Int32) t (wi (wi (wi (wi (wi (wi (wi (wi (wi (wi s t 0 (0 : Int32)) t 1 (0 : Int32)) t 2 (0 : Int32)) t 3 (0 : Int32)) t 15 (1 : Int32)) t 16 (0 : Int32)) t 17 (0 : Int32)) t 18 (0 : Int32)) t 14 (0 : Int32)) (t + 10) (0 : Int32).toNatClampNeg ((wi (wi (wi (wi (wi (wi (wi (wi (wi s t 0 (0 : Int32)) t 1 (0 : Int32)) t 2 (0 : Int32)) t 3 (0 : Int32)) t 15 (1 : Int32)) t 16 (0 : Int32)) t 17 (0 : Int32)) t 18 (0 : Int32)) t 14 (0 : Int32)) t 14)) l).1 (f_X5_addCode fu (0 : Int32) t (wi (wi (wi (wi (wi (wi (wi (wi (wi (wi s t 0 (0 : Int32)) t 1 (0 : Int32)) t 2 (0 : Int32)) t 3 (0 : Int32)) t 15 (1 : Int32)) t 16 (0 : Int32)) t 17 (0 : Int32)) t 18 (0 : Int32)) t 14 (0 : Int32)) (t + 10) (0 : Int32).toNatClampNeg ((wi (wi (wi (wi (wi (wi (wi (wi (wi s t 0 (0 : Int32)) t 1 (0 : Int32)) t 2 (0 : Int32)) t 3 (0 : Int32)) t 15 (1 : Int32)) t 16 (0 : Int32)) t 17 (0 : Int32)) t 18 (0 : Int32)) t 14 (0 : Int32)) t 14)) l).2

set_option maxRecDepth 100000 in
set_option maxHeartbeats 1000000 in
theorem s_X5_clear {G : ab_G} {fu : Nat} {d : Nat} {D : fl_D} {s : fl_I} {l : fl_L} {t : Nat} (htt : isT t)  (hk : p_X5_clear fu t s l) : ab_C G (d + 1) 0 0 M_X5_clear 0 (ab_ent [.ref t]) [] (hp D s l) (rt none (hp D (f_X5_clear fu t s l).1 (f_X5_clear fu t s l).2)) := by
  generalize he : (f_X5_clear fu t s l) = res
  unfold f_X5_clear at he
  unfold p_X5_clear at hk
  refine r_weak (L1 := [some (.ref t)]) ⟨rfl, trivial⟩ ?_
  refine r_aload_n rfl rfl ?_
  refine r_iconst_ (a := 0) rfl (by decide) ?_
  refine w_put rfl (cT_0 htt) ff_5_0 ft_5_0 (fun _ _ => (Nat.le_of_ble_eq_true rfl)) (fun _ _ => rfl) ?_
  refine r_aload_n rfl rfl ?_
  refine r_iconst_ (a := 0) rfl (by decide) ?_
  refine w_put rfl (cT_0 htt) ff_5_1 ft_5_1 (fun _ _ => (Nat.le_of_ble_eq_true rfl)) (fun _ _ => rfl) ?_
  refine r_aload_n rfl rfl ?_
  refine r_iconst_ (a := 0) rfl (by decide) ?_
  refine w_put rfl (cT_0 htt) ff_5_2 ft_5_2 (fun _ _ => (Nat.le_of_ble_eq_true rfl)) (fun _ _ => rfl) ?_
  refine r_aload_n rfl rfl ?_
  refine r_iconst_ (a := 0) rfl (by decide) ?_
  refine w_put rfl (cT_0 htt) ff_5_3 ft_5_3 (fun _ _ => (Nat.le_of_ble_eq_true rfl)) (fun _ _ => rfl) ?_
  refine r_aload_n rfl rfl ?_
  refine r_iconst_ (a := 1) rfl (by decide) ?_
  refine w_put rfl (cT_0 htt) ff_5_15 ft_5_15 (fun _ _ => (Nat.le_of_ble_eq_true rfl)) (fun _ _ => rfl) ?_
  refine r_aload_n rfl rfl ?_
  refine r_iconst_ (a := 0) rfl (by decide) ?_
  refine w_put rfl (cT_0 htt) ff_5_16 ft_5_16 (fun _ _ => (Nat.le_of_ble_eq_true rfl)) (fun _ _ => rfl) ?_
  refine r_aload_n rfl rfl ?_
  refine r_iconst_ (a := 0) rfl (by decide) ?_
  refine w_put rfl (cT_0 htt) ff_5_17 ft_5_17 (fun _ _ => (Nat.le_of_ble_eq_true rfl)) (fun _ _ => rfl) ?_
  refine r_aload_n rfl rfl ?_
  refine r_iconst_ (a := 0) rfl (by decide) ?_
  refine w_put rfl (cT_0 htt) ff_5_18 ft_5_18 (fun _ _ => (Nat.le_of_ble_eq_true rfl)) (fun _ _ => rfl) ?_
  refine r_aload_n rfl rfl ?_
  refine r_iconst_ (a := 0) rfl (by decide) ?_
  refine w_put rfl (cT_0 htt) ff_5_14 ft_5_14 (fun _ _ => (Nat.le_of_ble_eq_true rfl)) (fun _ _ => rfl) ?_
  refine r_aload_n rfl rfl ?_
  refine q_getfield rfl (cT_0 htt) rfl ?_
  refine r_iconst_ (a := 0) rfl (by decide) ?_
  refine r_aload_n rfl rfl ?_
  refine q_getfield rfl (cT_0 htt) rfl ?_
  refine w_iast rfl (cT_10 htt) (by unfold vp_in; decide) ?_
  refine r_aload_n rfl rfl ?_
  refine r_iconst_ (a := 0) rfl (by decide) ?_
  obtain ⟨hb0, hk⟩ := hk
  refine q_callV0 [_] _ rfl kY_X5_addCode kT_X5_addCode rfl rfl (Nat.le_of_ble_eq_true rfl) (Nat.le_of_ble_eq_true rfl) (cT_0 htt) (s_X5_addCode htt hb0) (fun r h q => ?_)
  obtain ⟨rfl, rfl⟩ := q
  simp only [Option.toList, List.cons_append, List.nil_append]
  subst he
  exact r_weak (L1 := [some (.ref t)]) ⟨rfl, trivial⟩ (lp_X5_clear_60 htt _ _ hk)

def f_X12_roundFrom_11 (fu : Nat) : Nat → Int32 → Int32 → Int32 → Int32 → fl_I → fl_L → Int32 × fl_I × fl_L
  | 0, x1, x2, x3, x4, s, l => (0, s, l)
  | n + 1, x1, x2, x3, x4, s, l =>
    if ((s 60 60) ≤ x4) then (x3, s, l) else if (((x2 >>> (x4 &&& 31)) &&& (1 : Int32)) = 0) then f_X12_roundFrom_11 fu n x1 x2 x3 (x4 + 1) s l else if ((s 60 63) < 0) then f_X12_roundFrom_11 fu n x1 x2 ((f_X12_stepsOff fu x1 (s 100 x4.toNatClampNeg)) + (s 101 (((10 : Int32) * (x2 &&& (((1 : Int32) <<< (x4 &&& 31)) ^^^ (-1 : Int32)))) + x4).toNatClampNeg)) (x4 + 1) (wi s 60 63 (s 100 x4.toNatClampNeg)) l else if (((f_X12_stepsOff fu x1 (s 100 x4.toNatClampNeg)) + (s 101 (((10 : Int32) * (x2 &&& (((1 : Int32) <<< (x4 &&& 31)) ^^^ (-1 : Int32)))) + x4).toNatClampNeg)) < x3) then f_X12_roundFrom_11 fu n x1 x2 ((f_X12_stepsOff fu x1 (s 100 x4.toNatClampNeg)) + (s 101 (((10 : Int32) * (x2 &&& (((1 : Int32) <<< (x4 &&& 31)) ^^^ (-1 : Int32)))) + x4).toNatClampNeg)) (x4 + 1) (wi s 60 63 (s 100 x4.toNatClampNeg)) l else f_X12_roundFrom_11 fu n x1 x2 x3 (x4 + 1) s l

def p_X12_roundFrom_11 (fu : Nat) : Nat → Int32 → Int32 → Int32 → Int32 → fl_I → fl_L → Prop
  | 0, _, _, _, _, _, _ => False
  | n + 1, x1, x2, x3, x4, s, l =>
    ((((s 60 60) ≤ x4) → True) ∧ (¬ ((s 60 60) ≤ x4) → (((((x2 >>> (x4 &&& 31)) &&& (1 : Int32)) = 0) → p_X12_roundFrom_11 fu n x1 x2 x3 (x4 + 1) s l) ∧ (¬ (((x2 >>> (x4 &&& 31)) &&& (1 : Int32)) = 0) → (vp_in x4 80) ∧ (p_X12_stepsOff fu x1 (s 100 x4.toNatClampNeg)) ∧ (vp_in (((10 : Int32) * (x2 &&& (((1 : Int32) <<< (x4 &&& 31)) ^^^ (-1 : Int32)))) + x4) 10240) ∧ ((((s 60 63) < 0) → (vp_in x4 80) ∧ p_X12_roundFrom_11 fu n x1 x2 ((f_X12_stepsOff fu x1 (s 100 x4.toNatClampNeg)) + (s 101 (((10 : Int32) * (x2 &&& (((1 : Int32) <<< (x4 &&& 31)) ^^^ (-1 : Int32)))) + x4).toNatClampNeg)) (x4 + 1) (wi s 60 63 (s 100 x4.toNatClampNeg)) l) ∧ (¬ ((s 60 63) < 0) → (((((f_X12_stepsOff fu x1 (s 100 x4.toNatClampNeg)) + (s 101 (((10 : Int32) * (x2 &&& (((1 : Int32) <<< (x4 &&& 31)) ^^^ (-1 : Int32)))) + x4).toNatClampNeg)) < x3) → (vp_in x4 80) ∧ p_X12_roundFrom_11 fu n x1 x2 ((f_X12_stepsOff fu x1 (s 100 x4.toNatClampNeg)) + (s 101 (((10 : Int32) * (x2 &&& (((1 : Int32) <<< (x4 &&& 31)) ^^^ (-1 : Int32)))) + x4).toNatClampNeg)) (x4 + 1) (wi s 60 63 (s 100 x4.toNatClampNeg)) l) ∧ (¬ (((f_X12_stepsOff fu x1 (s 100 x4.toNatClampNeg)) + (s 101 (((10 : Int32) * (x2 &&& (((1 : Int32) <<< (x4 &&& 31)) ^^^ (-1 : Int32)))) + x4).toNatClampNeg)) < x3) → p_X12_roundFrom_11 fu n x1 x2 x3 (x4 + 1) s l))))))))

set_option maxRecDepth 100000 in
set_option maxHeartbeats 1000000 in
theorem lp_X12_roundFrom_11 {G : ab_G} {fu : Nat} {d : Nat} {D : fl_D} : ∀ (n : Nat) (x1 : Int32) (x2 : Int32) (x3 : Int32) (x4 : Int32) (s : fl_I) (l : fl_L), p_X12_roundFrom_11 fu n x1 x2 x3 x4 s l → ab_C G (d + 2) 0 0 M_X12_roundFrom 11 [some (.ref 60), some (.int x1), some (.int x2), some (.int x3), some (.int x4), none] [] (hp D s l) (rt (some (.int (f_X12_roundFrom_11 fu n x1 x2 x3 x4 s l).1)) (hp D (f_X12_roundFrom_11 fu n x1 x2 x3 x4 s l).2.1 (f_X12_roundFrom_11 fu n x1 x2 x3 x4 s l).2.2)) := by
  intro n
  induction n with
  | zero => intro x1 x2 x3 x4 s l hk; exact hk.elim
  | succ n ih =>
    intro x1 x2 x3 x4 s l hk
    generalize he : f_X12_roundFrom_11 fu (n + 1) x1 x2 x3 x4 s l = res
    unfold f_X12_roundFrom_11 at he
    unfold p_X12_roundFrom_11 at hk
    refine r_iload rfl rfl ?_
    refine r_aload_n rfl rfl ?_
    refine q_getfield rfl (cc_60 _) rfl ?_
    refine r_icmp_ge rfl (fun c_17 => ?_) (fun c_17 => ?_)
    · rw [if_pos c_17] at he
      replace hk := hk.1 c_17
      refine r_iload_n rfl rfl ?_
      refine r_iret rfl rfl rfl ?_
      first | with_reducible exact fin_i he | exact fin_i he
    · rw [if_neg c_17] at he
      replace hk := hk.2 c_17
      refine r_iload_n rfl rfl ?_
      refine r_iload rfl rfl ?_
      refine r_ishr rfl ?_
      refine r_iconst_ (a := 1) rfl (by decide) ?_
      refine r_iand rfl ?_
      refine r_if_ne rfl (fun c_26 => ?_) (fun c_26 => ?_)
      · rw [if_neg c_26] at he
        replace hk := hk.2 c_26
        refine r_iload_n rfl rfl ?_
        refine r_aload_n rfl rfl ?_
        refine q_getfield rfl (cc_60 _) rfl ?_
        refine r_iload rfl rfl ?_
        obtain ⟨hb0, hk⟩ := hk
        refine q_iald rfl (cc_100 _) hb0 ?_
        obtain ⟨hb1, hk⟩ := hk
        refine r_callS0 [_, _] _ rfl kY_X12_stepsOff kT_X12_stepsOff rfl rfl (Nat.le_of_ble_eq_true rfl) (Nat.le_of_ble_eq_true rfl) (s_X12_stepsOff hb1) (fun r h q => ?_)
        obtain ⟨rfl, rfl⟩ := q
        simp only [Option.toList, List.cons_append, List.nil_append]
        refine r_aload_n rfl rfl ?_
        refine q_getfield rfl (cc_60 _) rfl ?_
        refine r_bipush_ (a := 10) rfl (by decide) ?_
        refine r_iload_n rfl rfl ?_
        refine r_iconst_ (a := 1) rfl (by decide) ?_
        refine r_iload rfl rfl ?_
        refine r_ishl rfl ?_
        refine r_iconst_ (a := -1) rfl (by decide) ?_
        refine r_ixor rfl ?_
        refine r_iand rfl ?_
        refine r_imul rfl ?_
        refine r_iload rfl rfl ?_
        refine r_iadd rfl ?_
        obtain ⟨hb2, hk⟩ := hk
        refine q_iald rfl (cc_101 _) hb2 ?_
        refine r_iadd rfl ?_
        refine r_istore rfl (Nat.le_of_ble_eq_true rfl) rfl ?_
        refine r_aload_n rfl rfl ?_
        refine q_getfield rfl (cc_60 _) rfl ?_
        refine r_if_lt rfl (fun c_69 => ?_) (fun c_69 => ?_)
        · rw [if_pos c_69] at he
          replace hk := hk.1 c_69
          refine r_iload rfl rfl ?_
          refine r_istore_n rfl (Nat.le_of_ble_eq_true rfl) rfl ?_
          refine r_aload_n rfl rfl ?_
          refine r_aload_n rfl rfl ?_
          refine q_getfield rfl (cc_60 _) rfl ?_
          refine r_iload rfl rfl ?_
          obtain ⟨hb3, hk⟩ := hk
          refine q_iald rfl (cc_100 _) hb3 ?_
          refine w_put rfl (cc_60 _) ff_12_63 ft_12_63 (fun _ _ => (Nat.le_of_ble_eq_true rfl)) (fun _ _ => rfl) ?_
          refine r_iinc (b := x4 + 1) rfl rfl rfl (Nat.le_of_ble_eq_true rfl) rfl ?_
          refine r_goto rfl ?_
          subst he
          exact r_weak (L1 := [some (.ref 60), some (.int x1), some (.int x2), some (.int ((f_X12_stepsOff fu x1 (s 100 x4.toNatClampNeg)) + (s 101 (((10 : Int32) * (x2 &&& (((1 : Int32) <<< (x4 &&& 31)) ^^^ (-1 : Int32)))) + x4).toNatClampNeg))), some (.int (x4 + 1)), none]) ⟨rfl, rfl, rfl, rfl, rfl, trivial⟩ (ih _ _ _ _ _ _ hk)
        · rw [if_neg c_69] at he
          replace hk := hk.2 c_69
          refine r_iload rfl rfl ?_
          refine r_iload_n rfl rfl ?_
          refine r_icmp_lt rfl (fun c_75 => ?_) (fun c_75 => ?_)
          · rw [if_pos c_75] at he
            replace hk := hk.1 c_75
            refine r_iload rfl rfl ?_
            refine r_istore_n rfl (Nat.le_of_ble_eq_true rfl) rfl ?_
            refine r_aload_n rfl rfl ?_
            refine r_aload_n rfl rfl ?_
            refine q_getfield rfl (cc_60 _) rfl ?_
            refine r_iload rfl rfl ?_
            obtain ⟨hb4, hk⟩ := hk
            refine q_iald rfl (cc_100 _) hb4 ?_
            refine w_put rfl (cc_60 _) ff_12_63 ft_12_63 (fun _ _ => (Nat.le_of_ble_eq_true rfl)) (fun _ _ => rfl) ?_
            refine r_iinc (b := x4 + 1) rfl rfl rfl (Nat.le_of_ble_eq_true rfl) rfl ?_
            refine r_goto rfl ?_
            subst he
            exact r_weak (L1 := [some (.ref 60), some (.int x1), some (.int x2), some (.int ((f_X12_stepsOff fu x1 (s 100 x4.toNatClampNeg)) + (s 101 (((10 : Int32) * (x2 &&& (((1 : Int32) <<< (x4 &&& 31)) ^^^ (-1 : Int32)))) + x4).toNatClampNeg))), some (.int (x4 + 1)), none]) ⟨rfl, rfl, rfl, rfl, rfl, trivial⟩ (ih _ _ _ _ _ _ hk)
          · rw [if_neg c_75] at he
            replace hk := hk.2 c_75
            refine r_goto rfl ?_
            refine r_iinc (b := x4 + 1) rfl rfl rfl (Nat.le_of_ble_eq_true rfl) rfl ?_
            refine r_goto rfl ?_
            subst he
            exact r_weak (L1 := [some (.ref 60), some (.int x1), some (.int x2), some (.int x3), some (.int (x4 + 1)), none]) ⟨rfl, rfl, rfl, rfl, rfl, trivial⟩ (ih _ _ _ _ _ _ hk)
      · rw [if_pos c_26] at he
        replace hk := hk.1 c_26
        refine r_goto rfl ?_
        refine r_iinc (b := x4 + 1) rfl rfl rfl (Nat.le_of_ble_eq_true rfl) rfl ?_
        refine r_goto rfl ?_
        subst he
        exact r_weak (L1 := [some (.ref 60), some (.int x1), some (.int x2), some (.int x3), some (.int (x4 + 1)), none]) ⟨rfl, rfl, rfl, rfl, rfl, trivial⟩ (ih _ _ _ _ _ _ hk)

def f_X12_roundFrom (fu : Nat) (v0 : Int32) (v1 : Int32) (s : fl_I) (l : fl_L) : Int32 × fl_I × fl_L :=
  f_X12_roundFrom_11 fu fu v0 v1 (0 : Int32) (0 : Int32) (wi s 60 63 (-2 : Int32)) l

def p_X12_roundFrom (fu : Nat) (v0 : Int32) (v1 : Int32) (s : fl_I) (l : fl_L) : Prop :=
  p_X12_roundFrom_11 fu fu v0 v1 (0 : Int32) (0 : Int32) (wi s 60 63 (-2 : Int32)) l

set_option maxRecDepth 100000 in
set_option maxHeartbeats 1000000 in
theorem s_X12_roundFrom {G : ab_G} {fu : Nat} {d : Nat} {D : fl_D} {s : fl_I} {l : fl_L} {v0 : Int32} {v1 : Int32} (hk : p_X12_roundFrom fu v0 v1 s l) : ab_C G (d + 2) 0 0 M_X12_roundFrom 0 (ab_ent [.ref 60, .int v0, .int v1]) [] (hp D s l) (rt (some (.int (f_X12_roundFrom fu v0 v1 s l).1)) (hp D (f_X12_roundFrom fu v0 v1 s l).2.1 (f_X12_roundFrom fu v0 v1 s l).2.2)) := by
  generalize he : (f_X12_roundFrom fu v0 v1 s l) = res
  unfold f_X12_roundFrom at he
  unfold p_X12_roundFrom at hk
  refine r_weak (L1 := [some (.ref 60), some (.int v0), some (.int v1), none, none, none]) ⟨rfl, rfl, rfl, trivial⟩ ?_
  refine r_aload_n rfl rfl ?_
  refine r_bipush_ (a := -2) rfl (by decide) ?_
  refine w_put rfl (cc_60 _) ff_12_63 ft_12_63 (fun _ _ => (Nat.le_of_ble_eq_true rfl)) (fun _ _ => rfl) ?_
  refine r_iconst_ (a := 0) rfl (by decide) ?_
  refine r_istore_n rfl (Nat.le_of_ble_eq_true rfl) rfl ?_
  refine r_iconst_ (a := 0) rfl (by decide) ?_
  refine r_istore rfl (Nat.le_of_ble_eq_true rfl) rfl ?_
  subst he
  exact r_weak (L1 := [some (.ref 60), some (.int v0), some (.int v1), some (.int (0 : Int32)), some (.int (0 : Int32)), none]) ⟨rfl, rfl, rfl, rfl, rfl, trivial⟩ (lp_X12_roundFrom_11 fu _ _ _ _ _ _ hk)

def f_X12_give_39 (fu : Nat) : Nat → Int32 → Int32 → Int32 → Int32 → Int32 → fl_I → fl_L → Int32 × fl_I × fl_L
  | 0, x1, x2, x3, x4, x5, s, l => (0, s, l)
  | n + 1, x1, x2, x3, x4, x5, s, l =>
    if ((s 60 54) ≤ x5) then (x3, (f_X12_records fu s l).1, (f_X12_records fu s l).2) else if ((s 95 ((64 : Int32) + x5).toNatClampNeg) = x1) then if ((x4 + x3) = (s 78 (((4 : Int32) * (s 60 18)) + x2).toNatClampNeg)) then f_X12_give_39 fu n x1 x2 x3 x4 (x5 + 1) s l else f_X12_give_39 fu n x1 x2 (x3 + 1) x4 (x5 + 1) (wi s 95 ((64 : Int32) + x5).toNatClampNeg x2) l else f_X12_give_39 fu n x1 x2 x3 x4 (x5 + 1) s l

def p_X12_give_39 (fu : Nat) : Nat → Int32 → Int32 → Int32 → Int32 → Int32 → fl_I → fl_L → Prop
  | 0, _, _, _, _, _, _, _ => False
  | n + 1, x1, x2, x3, x4, x5, s, l =>
    ((((s 60 54) ≤ x5) → (p_X12_records fu s l) ∧ True) ∧ (¬ ((s 60 54) ≤ x5) → (vp_in ((64 : Int32) + x5) 141) ∧ ((((s 95 ((64 : Int32) + x5).toNatClampNeg) = x1) → (vp_in (((4 : Int32) * (s 60 18)) + x2) 8) ∧ ((((x4 + x3) = (s 78 (((4 : Int32) * (s 60 18)) + x2).toNatClampNeg)) → p_X12_give_39 fu n x1 x2 x3 x4 (x5 + 1) s l) ∧ (¬ ((x4 + x3) = (s 78 (((4 : Int32) * (s 60 18)) + x2).toNatClampNeg)) → (vp_in ((64 : Int32) + x5) 141) ∧ p_X12_give_39 fu n x1 x2 (x3 + 1) x4 (x5 + 1) (wi s 95 ((64 : Int32) + x5).toNatClampNeg x2) l))) ∧ (¬ ((s 95 ((64 : Int32) + x5).toNatClampNeg) = x1) → p_X12_give_39 fu n x1 x2 x3 x4 (x5 + 1) s l))))

set_option maxRecDepth 100000 in
set_option maxHeartbeats 1000000 in
theorem lp_X12_give_39 {G : ab_G} {fu : Nat} {d : Nat} {D : fl_D} : ∀ (n : Nat) (x1 : Int32) (x2 : Int32) (x3 : Int32) (x4 : Int32) (x5 : Int32) (s : fl_I) (l : fl_L), p_X12_give_39 fu n x1 x2 x3 x4 x5 s l → ab_C G (d + 2) 0 0 M_X12_give 39 [some (.ref 60), some (.int x1), some (.int x2), some (.int x3), some (.int x4), some (.int x5)] [] (hp D s l) (rt (some (.int (f_X12_give_39 fu n x1 x2 x3 x4 x5 s l).1)) (hp D (f_X12_give_39 fu n x1 x2 x3 x4 x5 s l).2.1 (f_X12_give_39 fu n x1 x2 x3 x4 x5 s l).2.2)) := by
  intro n
  induction n with
  | zero => intro x1 x2 x3 x4 x5 s l hk; exact hk.elim
  | succ n ih =>
    intro x1 x2 x3 x4 x5 s l hk
    generalize he : f_X12_give_39 fu (n + 1) x1 x2 x3 x4 x5 s l = res
    unfold f_X12_give_39 at he
    unfold p_X12_give_39 at hk
    refine r_iload rfl rfl ?_
    refine r_aload_n rfl rfl ?_
    refine q_getfield rfl (cc_60 _) rfl ?_
    refine r_icmp_ge rfl (fun c_45 => ?_) (fun c_45 => ?_)
    · rw [if_pos c_45] at he
      replace hk := hk.1 c_45
      refine r_aload_n rfl rfl ?_
      obtain ⟨hb4, hk⟩ := hk
      refine q_callV0 [] _ rfl kY_X12_records kT_X12_records rfl rfl (Nat.le_of_ble_eq_true rfl) (Nat.le_of_ble_eq_true rfl) (cc_60 _) (s_X12_records hb4) (fun r h q => ?_)
      obtain ⟨rfl, rfl⟩ := q
      simp only [Option.toList, List.cons_append, List.nil_append]
      refine r_iload_n rfl rfl ?_
      refine r_iret rfl rfl rfl ?_
      first | with_reducible exact fin_i he | exact fin_i he
    · rw [if_neg c_45] at he
      replace hk := hk.2 c_45
      refine r_aload_n rfl rfl ?_
      refine q_getfield rfl (cc_60 _) rfl ?_
      refine r_bipush_ (a := 64) rfl (by decide) ?_
      refine r_iload rfl rfl ?_
      refine r_iadd rfl ?_
      obtain ⟨hb5, hk⟩ := hk
      refine q_iald rfl (cc_95 _) hb5 ?_
      refine r_iload_n rfl rfl ?_
      refine r_icmp_ne rfl (fun c_59 => ?_) (fun c_59 => ?_)
      · rw [if_neg c_59] at he
        replace hk := hk.2 c_59
        refine r_iinc (b := x5 + 1) rfl rfl rfl (Nat.le_of_ble_eq_true rfl) rfl ?_
        refine r_goto rfl ?_
        subst he
        exact r_weak (L1 := [some (.ref 60), some (.int x1), some (.int x2), some (.int x3), some (.int x4), some (.int (x5 + 1))]) ⟨rfl, rfl, rfl, rfl, rfl, rfl, trivial⟩ (ih _ _ _ _ _ _ _ hk)
      · rw [if_pos c_59] at he
        replace hk := hk.1 c_59
        refine r_iload rfl rfl ?_
        refine r_iload_n rfl rfl ?_
        refine r_iadd rfl ?_
        refine r_aload_n rfl rfl ?_
        refine q_getfield rfl (cc_60 _) rfl ?_
        refine r_iconst_ (a := 4) rfl (by decide) ?_
        refine r_aload_n rfl rfl ?_
        refine q_getfield rfl (cc_60 _) rfl ?_
        refine r_imul rfl ?_
        refine r_iload_n rfl rfl ?_
        refine r_iadd rfl ?_
        obtain ⟨hb6, hk⟩ := hk
        refine q_iald rfl (cc_78 _) hb6 ?_
        refine r_icmp_ne rfl (fun c_79 => ?_) (fun c_79 => ?_)
        · rw [if_neg c_79] at he
          replace hk := hk.2 c_79
          refine r_aload_n rfl rfl ?_
          refine q_getfield rfl (cc_60 _) rfl ?_
          refine r_bipush_ (a := 64) rfl (by decide) ?_
          refine r_iload rfl rfl ?_
          refine r_iadd rfl ?_
          refine r_iload_n rfl rfl ?_
          obtain ⟨hb7, hk⟩ := hk
          refine w_iast rfl (cc_95 _) hb7 ?_
          refine r_iinc (b := x3 + 1) rfl rfl rfl (Nat.le_of_ble_eq_true rfl) rfl ?_
          refine r_iinc (b := x5 + 1) rfl rfl rfl (Nat.le_of_ble_eq_true rfl) rfl ?_
          refine r_goto rfl ?_
          subst he
          exact r_weak (L1 := [some (.ref 60), some (.int x1), some (.int x2), some (.int (x3 + 1)), some (.int x4), some (.int (x5 + 1))]) ⟨rfl, rfl, rfl, rfl, rfl, rfl, trivial⟩ (ih _ _ _ _ _ _ _ hk)
        · rw [if_pos c_79] at he
          replace hk := hk.1 c_79
          refine r_goto rfl ?_
          refine r_iinc (b := x5 + 1) rfl rfl rfl (Nat.le_of_ble_eq_true rfl) rfl ?_
          refine r_goto rfl ?_
          subst he
          exact r_weak (L1 := [some (.ref 60), some (.int x1), some (.int x2), some (.int x3), some (.int x4), some (.int (x5 + 1))]) ⟨rfl, rfl, rfl, rfl, rfl, rfl, trivial⟩ (ih _ _ _ _ _ _ _ hk)

def f_X12_give (fu : Nat) (v0 : Int32) (v1 : Int32) (s : fl_I) (l : fl_L) : Int32 × fl_I × fl_L :=
  if ((f_X12_isPicker fu v0 s l) = 0) then ((-1 : Int32), s, l) else if ((f_X12_isPicker fu v1 s l) = 0) then ((-1 : Int32), s, l) else if (v0 = v1) then ((-1 : Int32), s, l) else f_X12_give_39 fu fu v0 v1 (0 : Int32) (f_X12_inHat fu v1 (f_X12_copies fu s l).1 (f_X12_copies fu s l).2) (0 : Int32) (f_X12_copies fu s l).1 (f_X12_copies fu s l).2

def p_X12_give (fu : Nat) (v0 : Int32) (v1 : Int32) (s : fl_I) (l : fl_L) : Prop :=
  (p_X12_isPicker fu v0 s l) ∧ ((((f_X12_isPicker fu v0 s l) = 0) → True) ∧ (¬ ((f_X12_isPicker fu v0 s l) = 0) → (p_X12_isPicker fu v1 s l) ∧ ((((f_X12_isPicker fu v1 s l) = 0) → True) ∧ (¬ ((f_X12_isPicker fu v1 s l) = 0) → (((v0 = v1) → True) ∧ (¬ (v0 = v1) → (p_X12_copies fu s l) ∧ (p_X12_inHat fu v1 (f_X12_copies fu s l).1 (f_X12_copies fu s l).2) ∧ p_X12_give_39 fu fu v0 v1 (0 : Int32) (f_X12_inHat fu v1 (f_X12_copies fu s l).1 (f_X12_copies fu s l).2) (0 : Int32) (f_X12_copies fu s l).1 (f_X12_copies fu s l).2))))))

set_option maxRecDepth 100000 in
set_option maxHeartbeats 1000000 in
theorem s_X12_give {G : ab_G} {fu : Nat} {d : Nat} {D : fl_D} {s : fl_I} {l : fl_L} {v0 : Int32} {v1 : Int32} (hk : p_X12_give fu v0 v1 s l) : ab_C G (d + 2) 0 0 M_X12_give 0 (ab_ent [.ref 60, .int v0, .int v1]) [] (hp D s l) (rt (some (.int (f_X12_give fu v0 v1 s l).1)) (hp D (f_X12_give fu v0 v1 s l).2.1 (f_X12_give fu v0 v1 s l).2.2)) := by
  generalize he : (f_X12_give fu v0 v1 s l) = res
  unfold f_X12_give at he
  unfold p_X12_give at hk
  refine r_weak (L1 := [some (.ref 60), some (.int v0), some (.int v1), none, none, none]) ⟨rfl, rfl, rfl, trivial⟩ ?_
  refine r_aload_n rfl rfl ?_
  refine r_iload_n rfl rfl ?_
  obtain ⟨hb0, hk⟩ := hk
  refine q_callV0 [_] _ rfl kY_X12_isPicker kT_X12_isPicker rfl rfl (Nat.le_of_ble_eq_true rfl) (Nat.le_of_ble_eq_true rfl) (cc_60 _) (s_X12_isPicker hb0) (fun r h q => ?_)
  obtain ⟨rfl, rfl⟩ := q
  simp only [Option.toList, List.cons_append, List.nil_append]
  refine r_if_eq rfl (fun c_5 => ?_) (fun c_5 => ?_)
  · rw [if_pos c_5] at he
    replace hk := hk.1 c_5
    refine r_iconst_ (a := -1) rfl (by decide) ?_
    refine r_iret rfl rfl rfl ?_
    first | with_reducible exact fin_i he | exact fin_i he
  · rw [if_neg c_5] at he
    replace hk := hk.2 c_5
    refine r_aload_n rfl rfl ?_
    refine r_iload_n rfl rfl ?_
    obtain ⟨hb1, hk⟩ := hk
    refine q_callV0 [_] _ rfl kY_X12_isPicker kT_X12_isPicker rfl rfl (Nat.le_of_ble_eq_true rfl) (Nat.le_of_ble_eq_true rfl) (cc_60 _) (s_X12_isPicker hb1) (fun r h q => ?_)
    obtain ⟨rfl, rfl⟩ := q
    simp only [Option.toList, List.cons_append, List.nil_append]
    refine r_if_eq rfl (fun c_13 => ?_) (fun c_13 => ?_)
    · rw [if_pos c_13] at he
      replace hk := hk.1 c_13
      refine r_iconst_ (a := -1) rfl (by decide) ?_
      refine r_iret rfl rfl rfl ?_
      first | with_reducible exact fin_i he | exact fin_i he
    · rw [if_neg c_13] at he
      replace hk := hk.2 c_13
      refine r_iload_n rfl rfl ?_
      refine r_iload_n rfl rfl ?_
      refine r_icmp_ne rfl (fun c_18 => ?_) (fun c_18 => ?_)
      · rw [if_neg c_18] at he
        replace hk := hk.2 c_18
        refine r_aload_n rfl rfl ?_
        obtain ⟨hb2, hk⟩ := hk
        refine q_callV0 [] _ rfl kY_X12_copies kT_X12_copies rfl rfl (Nat.le_of_ble_eq_true rfl) (Nat.le_of_ble_eq_true rfl) (cc_60 _) (s_X12_copies hb2) (fun r h q => ?_)
        obtain ⟨rfl, rfl⟩ := q
        simp only [Option.toList, List.cons_append, List.nil_append]
        refine r_iconst_ (a := 0) rfl (by decide) ?_
        refine r_istore_n rfl (Nat.le_of_ble_eq_true rfl) rfl ?_
        refine r_aload_n rfl rfl ?_
        refine r_iload_n rfl rfl ?_
        obtain ⟨hb3, hk⟩ := hk
        refine q_callV0 [_] _ rfl kY_X12_inHat kT_X12_inHat rfl rfl (Nat.le_of_ble_eq_true rfl) (Nat.le_of_ble_eq_true rfl) (cc_60 _) (s_X12_inHat hb3) (fun r h q => ?_)
        obtain ⟨rfl, rfl⟩ := q
        simp only [Option.toList, List.cons_append, List.nil_append]
        refine r_istore rfl (Nat.le_of_ble_eq_true rfl) rfl ?_
        refine r_iconst_ (a := 0) rfl (by decide) ?_
        refine r_istore rfl (Nat.le_of_ble_eq_true rfl) rfl ?_
        subst he
        exact r_weak (L1 := [some (.ref 60), some (.int v0), some (.int v1), some (.int (0 : Int32)), some (.int (f_X12_inHat fu v1 (f_X12_copies fu s l).1 (f_X12_copies fu s l).2)), some (.int (0 : Int32))]) ⟨rfl, rfl, rfl, rfl, rfl, rfl, trivial⟩ (lp_X12_give_39 fu _ _ _ _ _ _ _ hk)
      · rw [if_pos c_18] at he
        replace hk := hk.1 c_18
        refine r_iconst_ (a := -1) rfl (by decide) ?_
        refine r_iret rfl rfl rfl ?_
        first | with_reducible exact fin_i he | exact fin_i he

