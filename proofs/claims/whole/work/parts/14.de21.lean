def f_X3_ifTold_47 (fu : Nat) (t : Nat) (s : fl_I) (l : fl_L) : Int32 × fl_I × fl_L :=
    ((0 : Int32), s, l)

def p_X3_ifTold_47 (fu : Nat) (t : Nat) (s : fl_I) (l : fl_L) : Prop :=
    True

set_option maxRecDepth 100000 in
set_option maxHeartbeats 1000000 in
theorem lp_X3_ifTold_47 {G : ab_G} {fu : Nat} {d : Nat} {D : fl_D} {t : Nat} (htt : isT t) : ∀ (s : fl_I) (l : fl_L), p_X3_ifTold_47 fu  t s l → ab_C G (d + 33) 0 0 M_X3_ifTold 47 [none, none, none] [] (hp D s l) (rt (some (.int (f_X3_ifTold_47 fu  t s l).1)) (hp D (f_X3_ifTold_47 fu  t s l).2.1 (f_X3_ifTold_47 fu  t s l).2.2)) := by
  intro  s l hk
  generalize he : f_X3_ifTold_47 fu  t s l = res
  unfold f_X3_ifTold_47 at he
  unfold p_X3_ifTold_47 at hk
  refine r_iconst_ (a := 0) rfl (by decide) ?_
  refine r_iret rfl rfl rfl ?_
  first | with_reducible exact fin_i he | exact fin_i he

def f_X3_ifTold_84 (fu : Nat) (t : Nat) (s : fl_I) (l : fl_L) : Int32 × fl_I × fl_L :=
    ((0 : Int32), s, l)

def p_X3_ifTold_84 (fu : Nat) (t : Nat) (s : fl_I) (l : fl_L) : Prop :=
    True

set_option maxRecDepth 100000 in
set_option maxHeartbeats 1000000 in
theorem lp_X3_ifTold_84 {G : ab_G} {fu : Nat} {d : Nat} {D : fl_D} {t : Nat} (htt : isT t) : ∀ (s : fl_I) (l : fl_L), p_X3_ifTold_84 fu  t s l → ab_C G (d + 33) 0 0 M_X3_ifTold 84 [none, none, none] [] (hp D s l) (rt (some (.int (f_X3_ifTold_84 fu  t s l).1)) (hp D (f_X3_ifTold_84 fu  t s l).2.1 (f_X3_ifTold_84 fu  t s l).2.2)) := by
  intro  s l hk
  generalize he : f_X3_ifTold_84 fu  t s l = res
  unfold f_X3_ifTold_84 at he
  unfold p_X3_ifTold_84 at hk
  refine r_iconst_ (a := 0) rfl (by decide) ?_
  refine r_iret rfl rfl rfl ?_
  first | with_reducible exact fin_i he | exact fin_i he

def f_X3_ifTold_101 (fu : Nat) (t : Nat) (s : fl_I) (l : fl_L) : Int32 × fl_I × fl_L :=
    ((1 : Int32), s, l)

def p_X3_ifTold_101 (fu : Nat) (t : Nat) (s : fl_I) (l : fl_L) : Prop :=
    True

set_option maxRecDepth 100000 in
set_option maxHeartbeats 1000000 in
theorem lp_X3_ifTold_101 {G : ab_G} {fu : Nat} {d : Nat} {D : fl_D} {t : Nat} (htt : isT t) : ∀ (s : fl_I) (l : fl_L), p_X3_ifTold_101 fu  t s l → ab_C G (d + 33) 0 0 M_X3_ifTold 101 [none, none, none] [] (hp D s l) (rt (some (.int (f_X3_ifTold_101 fu  t s l).1)) (hp D (f_X3_ifTold_101 fu  t s l).2.1 (f_X3_ifTold_101 fu  t s l).2.2)) := by
  intro  s l hk
  generalize he : f_X3_ifTold_101 fu  t s l = res
  unfold f_X3_ifTold_101 at he
  unfold p_X3_ifTold_101 at hk
  refine r_iconst_ (a := 1) rfl (by decide) ?_
  refine r_iret rfl rfl rfl ?_
  first | with_reducible exact fin_i he | exact fin_i he

def f_X3_ifTold_92 (fu : Nat) (x2 : Int32) (t : Nat) (s : fl_I) (l : fl_L) : Int32 × fl_I × fl_L :=
    f_X3_ifTold_101 fu  t (f_X5_setCode fu x2 (s t 14) t s l).1 (f_X5_setCode fu x2 (s t 14) t s l).2

def p_X3_ifTold_92 (fu : Nat) (x2 : Int32) (t : Nat) (s : fl_I) (l : fl_L) : Prop :=
    (p_X5_setCode fu x2 (s t 14) t s l) ∧ p_X3_ifTold_101 fu  t (f_X5_setCode fu x2 (s t 14) t s l).1 (f_X5_setCode fu x2 (s t 14) t s l).2

set_option maxRecDepth 100000 in
set_option maxHeartbeats 1000000 in
theorem lp_X3_ifTold_92 {G : ab_G} {fu : Nat} {d : Nat} {D : fl_D} {t : Nat} (htt : isT t) : ∀ (x2 : Int32) (s : fl_I) (l : fl_L), p_X3_ifTold_92 fu x2 t s l → ab_C G (d + 33) 0 0 M_X3_ifTold 92 [none, some (.ref t), some (.int x2)] [] (hp D s l) (rt (some (.int (f_X3_ifTold_92 fu x2 t s l).1)) (hp D (f_X3_ifTold_92 fu x2 t s l).2.1 (f_X3_ifTold_92 fu x2 t s l).2.2)) := by
  intro x2 s l hk
  generalize he : f_X3_ifTold_92 fu x2 t s l = res
  unfold f_X3_ifTold_92 at he
  unfold p_X3_ifTold_92 at hk
  refine r_aload_n rfl rfl ?_
  refine r_iload_n rfl rfl ?_
  refine r_aload_n rfl rfl ?_
  refine q_getfield rfl (cT_0 htt) rfl ?_
  obtain ⟨hb10, hk⟩ := hk
  refine q_callV0 [_, _] _ rfl kY_X5_setCode kT_X5_setCode rfl rfl (Nat.le_of_ble_eq_true rfl) (Nat.le_of_ble_eq_true rfl) (cT_0 htt) (s_X5_setCode htt hb10) (fun r h q => ?_)
  obtain ⟨rfl, rfl⟩ := q
  simp only [Option.toList, List.cons_append, List.nil_append]
  subst he
  exact r_weak (L1 := [none, none, none]) trivial (lp_X3_ifTold_101 htt _ _ hk)

def f_X3_ifTold_81 (fu : Nat) (x2 : Int32) (y0 : Int32) (t : Nat) (s : fl_I) (l : fl_L) : Int32 × fl_I × fl_L :=
    if (y0 = 0) then f_X3_ifTold_84 fu  t s l else f_X3_ifTold_92 fu x2 t (f_X5_addCode fu (-6 : Int32) t s l).1 (f_X5_addCode fu (-6 : Int32) t s l).2

def p_X3_ifTold_81 (fu : Nat) (x2 : Int32) (y0 : Int32) (t : Nat) (s : fl_I) (l : fl_L) : Prop :=
    (((y0 = 0) → p_X3_ifTold_84 fu  t s l) ∧ (¬ (y0 = 0) → (p_X5_addCode fu (-6 : Int32) t s l) ∧ p_X3_ifTold_92 fu x2 t (f_X5_addCode fu (-6 : Int32) t s l).1 (f_X5_addCode fu (-6 : Int32) t s l).2))

set_option maxRecDepth 100000 in
set_option maxHeartbeats 1000000 in
theorem lp_X3_ifTold_81 {G : ab_G} {fu : Nat} {d : Nat} {D : fl_D} {t : Nat} (htt : isT t) : ∀ (x2 : Int32) (y0 : Int32) (s : fl_I) (l : fl_L), p_X3_ifTold_81 fu x2 y0 t s l → ab_C G (d + 33) 0 0 M_X3_ifTold 81 [none, some (.ref t), some (.int x2)] [.int y0] (hp D s l) (rt (some (.int (f_X3_ifTold_81 fu x2 y0 t s l).1)) (hp D (f_X3_ifTold_81 fu x2 y0 t s l).2.1 (f_X3_ifTold_81 fu x2 y0 t s l).2.2)) := by
  intro x2 y0 s l hk
  generalize he : f_X3_ifTold_81 fu x2 y0 t s l = res
  unfold f_X3_ifTold_81 at he
  unfold p_X3_ifTold_81 at hk
  refine r_if_ne rfl (fun c_81 => ?_) (fun c_81 => ?_)
  · rw [if_neg c_81] at he
    replace hk := hk.2 c_81
    refine r_aload_n rfl rfl ?_
    refine r_bipush_ (a := -6) rfl (by decide) ?_
    obtain ⟨hb9, hk⟩ := hk
    refine q_callV0 [_] _ rfl kY_X5_addCode kT_X5_addCode rfl rfl (Nat.le_of_ble_eq_true rfl) (Nat.le_of_ble_eq_true rfl) (cT_0 htt) (s_X5_addCode htt hb9) (fun r h q => ?_)
    obtain ⟨rfl, rfl⟩ := q
    simp only [Option.toList, List.cons_append, List.nil_append]
    subst he
    exact r_weak (L1 := [none, some (.ref t), some (.int x2)]) ⟨rfl, rfl, trivial⟩ (lp_X3_ifTold_92 htt _ _ _ hk)
  · rw [if_pos c_81] at he
    replace hk := hk.1 c_81
    subst he
    exact r_weak (L1 := [none, none, none]) trivial (lp_X3_ifTold_84 htt _ _ hk)

def f_X3_ifTold_71 (fu : Nat) (x2 : Int32) (y0 : Int32) (t : Nat) (s : fl_I) (l : fl_L) : Int32 × fl_I × fl_L :=
    if (y0 = 0) then f_X3_ifTold_84 fu  t s l else f_X3_ifTold_81 fu x2 (f_X3_take fu (267 : Int32) s l).1 t (f_X3_take fu (267 : Int32) s l).2.1 (f_X3_take fu (267 : Int32) s l).2.2

def p_X3_ifTold_71 (fu : Nat) (x2 : Int32) (y0 : Int32) (t : Nat) (s : fl_I) (l : fl_L) : Prop :=
    (((y0 = 0) → p_X3_ifTold_84 fu  t s l) ∧ (¬ (y0 = 0) → (p_X3_take fu (267 : Int32) s l) ∧ p_X3_ifTold_81 fu x2 (f_X3_take fu (267 : Int32) s l).1 t (f_X3_take fu (267 : Int32) s l).2.1 (f_X3_take fu (267 : Int32) s l).2.2))

set_option maxRecDepth 100000 in
set_option maxHeartbeats 1000000 in
theorem lp_X3_ifTold_71 {G : ab_G} {fu : Nat} {d : Nat} {D : fl_D} {t : Nat} (htt : isT t) : ∀ (x2 : Int32) (y0 : Int32) (s : fl_I) (l : fl_L), p_X3_ifTold_71 fu x2 y0 t s l → ab_C G (d + 33) 0 0 M_X3_ifTold 71 [some (.ref 3), some (.ref t), some (.int x2)] [.int y0] (hp D s l) (rt (some (.int (f_X3_ifTold_71 fu x2 y0 t s l).1)) (hp D (f_X3_ifTold_71 fu x2 y0 t s l).2.1 (f_X3_ifTold_71 fu x2 y0 t s l).2.2)) := by
  intro x2 y0 s l hk
  generalize he : f_X3_ifTold_71 fu x2 y0 t s l = res
  unfold f_X3_ifTold_71 at he
  unfold p_X3_ifTold_71 at hk
  refine r_if_eq rfl (fun c_71 => ?_) (fun c_71 => ?_)
  · rw [if_pos c_71] at he
    replace hk := hk.1 c_71
    subst he
    exact r_weak (L1 := [none, none, none]) trivial (lp_X3_ifTold_84 htt _ _ hk)
  · rw [if_neg c_71] at he
    replace hk := hk.2 c_71
    refine r_aload_n rfl rfl ?_
    refine r_sipush_ (a := 267) rfl (by decide) ?_
    obtain ⟨hb8, hk⟩ := hk
    refine q_callV0 [_] _ rfl kY_X3_take kT_X3_take rfl rfl (Nat.le_of_ble_eq_true rfl) (Nat.le_of_ble_eq_true rfl) (cc_3 _) (s_X3_take hb8) (fun r h q => ?_)
    obtain ⟨rfl, rfl⟩ := q
    simp only [Option.toList, List.cons_append, List.nil_append]
    subst he
    exact r_weak (L1 := [none, some (.ref t), some (.int x2)]) ⟨rfl, rfl, trivial⟩ (lp_X3_ifTold_81 htt _ _ _ _ hk)

def f_X3_ifTold_65 (fu : Nat) (x2 : Int32) (t : Nat) (s : fl_I) (l : fl_L) : Int32 × fl_I × fl_L :=
    f_X3_ifTold_71 fu x2 (f_sumD fu 8 (0 : Int32) t s l).1 t (f_sumD fu 8 (0 : Int32) t s l).2.1 (f_sumD fu 8 (0 : Int32) t s l).2.2

def p_X3_ifTold_65 (fu : Nat) (x2 : Int32) (t : Nat) (s : fl_I) (l : fl_L) : Prop :=
    (p_sumD fu 8 (0 : Int32) t s l) ∧ p_X3_ifTold_71 fu x2 (f_sumD fu 8 (0 : Int32) t s l).1 t (f_sumD fu 8 (0 : Int32) t s l).2.1 (f_sumD fu 8 (0 : Int32) t s l).2.2

set_option maxRecDepth 100000 in
set_option maxHeartbeats 1000000 in
theorem lp_X3_ifTold_65 {G : ab_G} {fu : Nat} {d : Nat} {D : fl_D} {t : Nat} (htt : isT t) : ∀ (x2 : Int32) (s : fl_I) (l : fl_L), p_X3_ifTold_65 fu x2 t s l → ab_C G (d + 33) 0 0 M_X3_ifTold 65 [some (.ref 3), some (.ref t), some (.int x2)] [] (hp D s l) (rt (some (.int (f_X3_ifTold_65 fu x2 t s l).1)) (hp D (f_X3_ifTold_65 fu x2 t s l).2.1 (f_X3_ifTold_65 fu x2 t s l).2.2)) := by
  intro x2 s l hk
  generalize he : f_X3_ifTold_65 fu x2 t s l = res
  unfold f_X3_ifTold_65 at he
  unfold p_X3_ifTold_65 at hk
  refine r_aload_n rfl rfl ?_
  refine r_aload_n rfl rfl ?_
  refine r_iconst_ (a := 0) rfl (by decide) ?_
  obtain ⟨hb7, hk⟩ := hk
  refine q_callV0 [_, _] _ rfl kY_X3_sum kT_X3_sum rfl rfl (Nat.le_of_ble_eq_true rfl) (Nat.le_of_ble_eq_true rfl) (cc_3 _) (s_sum8 htt hb7) (fun r h q => ?_)
  obtain ⟨rfl, rfl⟩ := q
  simp only [Option.toList, List.cons_append, List.nil_append]
  subst he
  exact r_weak (L1 := [some (.ref 3), some (.ref t), some (.int x2)]) ⟨rfl, rfl, rfl, trivial⟩ (lp_X3_ifTold_71 htt _ _ _ _ hk)

def f_X3_ifTold_55 (fu : Nat) (t : Nat) (s : fl_I) (l : fl_L) : Int32 × fl_I × fl_L :=
    f_X3_ifTold_65 fu (s t 14) t (f_X5_addCode fu (0 : Int32) t s l).1 (f_X5_addCode fu (0 : Int32) t s l).2

def p_X3_ifTold_55 (fu : Nat) (t : Nat) (s : fl_I) (l : fl_L) : Prop :=
    (p_X5_addCode fu (0 : Int32) t s l) ∧ p_X3_ifTold_65 fu (s t 14) t (f_X5_addCode fu (0 : Int32) t s l).1 (f_X5_addCode fu (0 : Int32) t s l).2

set_option maxRecDepth 100000 in
set_option maxHeartbeats 1000000 in
theorem lp_X3_ifTold_55 {G : ab_G} {fu : Nat} {d : Nat} {D : fl_D} {t : Nat} (htt : isT t) : ∀ (s : fl_I) (l : fl_L), p_X3_ifTold_55 fu  t s l → ab_C G (d + 33) 0 0 M_X3_ifTold 55 [some (.ref 3), some (.ref t), none] [] (hp D s l) (rt (some (.int (f_X3_ifTold_55 fu  t s l).1)) (hp D (f_X3_ifTold_55 fu  t s l).2.1 (f_X3_ifTold_55 fu  t s l).2.2)) := by
  intro  s l hk
  generalize he : f_X3_ifTold_55 fu  t s l = res
  unfold f_X3_ifTold_55 at he
  unfold p_X3_ifTold_55 at hk
  refine r_aload_n rfl rfl ?_
  refine q_getfield rfl (cT_0 htt) rfl ?_
  refine r_istore_n rfl (Nat.le_of_ble_eq_true rfl) rfl ?_
  refine r_aload_n rfl rfl ?_
  refine r_iconst_ (a := 0) rfl (by decide) ?_
  obtain ⟨hb6, hk⟩ := hk
  refine q_callV0 [_] _ rfl kY_X5_addCode kT_X5_addCode rfl rfl (Nat.le_of_ble_eq_true rfl) (Nat.le_of_ble_eq_true rfl) (cT_0 htt) (s_X5_addCode htt hb6) (fun r h q => ?_)
  obtain ⟨rfl, rfl⟩ := q
  simp only [Option.toList, List.cons_append, List.nil_append]
  subst he
  exact r_weak (L1 := [some (.ref 3), some (.ref t), some (.int (s t 14))]) ⟨rfl, rfl, rfl, trivial⟩ (lp_X3_ifTold_65 htt _ _ _ hk)

def f_X3_ifTold_44 (fu : Nat) (y0 : Int32) (t : Nat) (s : fl_I) (l : fl_L) : Int32 × fl_I × fl_L :=
    if (y0 = 0) then f_X3_ifTold_47 fu  t s l else f_X3_ifTold_55 fu  t (f_X5_addCode fu (-5 : Int32) t s l).1 (f_X5_addCode fu (-5 : Int32) t s l).2

def p_X3_ifTold_44 (fu : Nat) (y0 : Int32) (t : Nat) (s : fl_I) (l : fl_L) : Prop :=
    (((y0 = 0) → p_X3_ifTold_47 fu  t s l) ∧ (¬ (y0 = 0) → (p_X5_addCode fu (-5 : Int32) t s l) ∧ p_X3_ifTold_55 fu  t (f_X5_addCode fu (-5 : Int32) t s l).1 (f_X5_addCode fu (-5 : Int32) t s l).2))

set_option maxRecDepth 100000 in
set_option maxHeartbeats 1000000 in
theorem lp_X3_ifTold_44 {G : ab_G} {fu : Nat} {d : Nat} {D : fl_D} {t : Nat} (htt : isT t) : ∀ (y0 : Int32) (s : fl_I) (l : fl_L), p_X3_ifTold_44 fu y0 t s l → ab_C G (d + 33) 0 0 M_X3_ifTold 44 [some (.ref 3), some (.ref t), none] [.int y0] (hp D s l) (rt (some (.int (f_X3_ifTold_44 fu y0 t s l).1)) (hp D (f_X3_ifTold_44 fu y0 t s l).2.1 (f_X3_ifTold_44 fu y0 t s l).2.2)) := by
  intro y0 s l hk
  generalize he : f_X3_ifTold_44 fu y0 t s l = res
  unfold f_X3_ifTold_44 at he
  unfold p_X3_ifTold_44 at hk
  refine r_if_ne rfl (fun c_44 => ?_) (fun c_44 => ?_)
  · rw [if_neg c_44] at he
    replace hk := hk.2 c_44
    refine r_aload_n rfl rfl ?_
    refine r_bipush_ (a := -5) rfl (by decide) ?_
    obtain ⟨hb5, hk⟩ := hk
    refine q_callV0 [_] _ rfl kY_X5_addCode kT_X5_addCode rfl rfl (Nat.le_of_ble_eq_true rfl) (Nat.le_of_ble_eq_true rfl) (cT_0 htt) (s_X5_addCode htt hb5) (fun r h q => ?_)
    obtain ⟨rfl, rfl⟩ := q
    simp only [Option.toList, List.cons_append, List.nil_append]
    subst he
    exact r_weak (L1 := [some (.ref 3), some (.ref t), none]) ⟨rfl, rfl, trivial⟩ (lp_X3_ifTold_55 htt _ _ hk)
  · rw [if_pos c_44] at he
    replace hk := hk.1 c_44
    subst he
    exact r_weak (L1 := [none, none, none]) trivial (lp_X3_ifTold_47 htt _ _ hk)

def f_X3_ifTold_34 (fu : Nat) (y0 : Int32) (t : Nat) (s : fl_I) (l : fl_L) : Int32 × fl_I × fl_L :=
    if (y0 = 0) then f_X3_ifTold_47 fu  t s l else f_X3_ifTold_44 fu (f_X3_take fu (266 : Int32) s l).1 t (f_X3_take fu (266 : Int32) s l).2.1 (f_X3_take fu (266 : Int32) s l).2.2

def p_X3_ifTold_34 (fu : Nat) (y0 : Int32) (t : Nat) (s : fl_I) (l : fl_L) : Prop :=
    (((y0 = 0) → p_X3_ifTold_47 fu  t s l) ∧ (¬ (y0 = 0) → (p_X3_take fu (266 : Int32) s l) ∧ p_X3_ifTold_44 fu (f_X3_take fu (266 : Int32) s l).1 t (f_X3_take fu (266 : Int32) s l).2.1 (f_X3_take fu (266 : Int32) s l).2.2))

set_option maxRecDepth 100000 in
set_option maxHeartbeats 1000000 in
theorem lp_X3_ifTold_34 {G : ab_G} {fu : Nat} {d : Nat} {D : fl_D} {t : Nat} (htt : isT t) : ∀ (y0 : Int32) (s : fl_I) (l : fl_L), p_X3_ifTold_34 fu y0 t s l → ab_C G (d + 33) 0 0 M_X3_ifTold 34 [some (.ref 3), some (.ref t), none] [.int y0] (hp D s l) (rt (some (.int (f_X3_ifTold_34 fu y0 t s l).1)) (hp D (f_X3_ifTold_34 fu y0 t s l).2.1 (f_X3_ifTold_34 fu y0 t s l).2.2)) := by
  intro y0 s l hk
  generalize he : f_X3_ifTold_34 fu y0 t s l = res
  unfold f_X3_ifTold_34 at he
  unfold p_X3_ifTold_34 at hk
  refine r_if_eq rfl (fun c_34 => ?_) (fun c_34 => ?_)
  · rw [if_pos c_34] at he
    replace hk := hk.1 c_34
    subst he
    exact r_weak (L1 := [none, none, none]) trivial (lp_X3_ifTold_47 htt _ _ hk)
  · rw [if_neg c_34] at he
    replace hk := hk.2 c_34
    refine r_aload_n rfl rfl ?_
    refine r_sipush_ (a := 266) rfl (by decide) ?_
    obtain ⟨hb4, hk⟩ := hk
    refine q_callV0 [_] _ rfl kY_X3_take kT_X3_take rfl rfl (Nat.le_of_ble_eq_true rfl) (Nat.le_of_ble_eq_true rfl) (cc_3 _) (s_X3_take hb4) (fun r h q => ?_)
    obtain ⟨rfl, rfl⟩ := q
    simp only [Option.toList, List.cons_append, List.nil_append]
    subst he
    exact r_weak (L1 := [some (.ref 3), some (.ref t), none]) ⟨rfl, rfl, trivial⟩ (lp_X3_ifTold_44 htt _ _ _ hk)

def f_X3_ifTold_25 (fu : Nat) (y0 : Int32) (t : Nat) (s : fl_I) (l : fl_L) : Int32 × fl_I × fl_L :=
    if (y0 = 0) then f_X3_ifTold_47 fu  t s l else f_X3_ifTold_34 fu (f_sumD fu 8 (0 : Int32) t s l).1 t (f_sumD fu 8 (0 : Int32) t s l).2.1 (f_sumD fu 8 (0 : Int32) t s l).2.2

def p_X3_ifTold_25 (fu : Nat) (y0 : Int32) (t : Nat) (s : fl_I) (l : fl_L) : Prop :=
    (((y0 = 0) → p_X3_ifTold_47 fu  t s l) ∧ (¬ (y0 = 0) → (p_sumD fu 8 (0 : Int32) t s l) ∧ p_X3_ifTold_34 fu (f_sumD fu 8 (0 : Int32) t s l).1 t (f_sumD fu 8 (0 : Int32) t s l).2.1 (f_sumD fu 8 (0 : Int32) t s l).2.2))

set_option maxRecDepth 100000 in
set_option maxHeartbeats 1000000 in
theorem lp_X3_ifTold_25 {G : ab_G} {fu : Nat} {d : Nat} {D : fl_D} {t : Nat} (htt : isT t) : ∀ (y0 : Int32) (s : fl_I) (l : fl_L), p_X3_ifTold_25 fu y0 t s l → ab_C G (d + 33) 0 0 M_X3_ifTold 25 [some (.ref 3), some (.ref t), none] [.int y0] (hp D s l) (rt (some (.int (f_X3_ifTold_25 fu y0 t s l).1)) (hp D (f_X3_ifTold_25 fu y0 t s l).2.1 (f_X3_ifTold_25 fu y0 t s l).2.2)) := by
  intro y0 s l hk
  generalize he : f_X3_ifTold_25 fu y0 t s l = res
  unfold f_X3_ifTold_25 at he
  unfold p_X3_ifTold_25 at hk
  refine r_if_eq rfl (fun c_25 => ?_) (fun c_25 => ?_)
  · rw [if_pos c_25] at he
    replace hk := hk.1 c_25
    subst he
    exact r_weak (L1 := [none, none, none]) trivial (lp_X3_ifTold_47 htt _ _ hk)
  · rw [if_neg c_25] at he
    replace hk := hk.2 c_25
    refine r_aload_n rfl rfl ?_
    refine r_aload_n rfl rfl ?_
    refine r_iconst_ (a := 0) rfl (by decide) ?_
    obtain ⟨hb3, hk⟩ := hk
    refine q_callV0 [_, _] _ rfl kY_X3_sum kT_X3_sum rfl rfl (Nat.le_of_ble_eq_true rfl) (Nat.le_of_ble_eq_true rfl) (cc_3 _) (s_sum8 htt hb3) (fun r h q => ?_)
    obtain ⟨rfl, rfl⟩ := q
    simp only [Option.toList, List.cons_append, List.nil_append]
    subst he
    exact r_weak (L1 := [some (.ref 3), some (.ref t), none]) ⟨rfl, rfl, trivial⟩ (lp_X3_ifTold_34 htt _ _ _ hk)

def f_X3_ifTold_16 (fu : Nat) (y0 : Int32) (t : Nat) (s : fl_I) (l : fl_L) : Int32 × fl_I × fl_L :=
    if (y0 = 0) then f_X3_ifTold_47 fu  t s l else f_X3_ifTold_25 fu (f_X3_take fu (60 : Int32) s l).1 t (f_X3_take fu (60 : Int32) s l).2.1 (f_X3_take fu (60 : Int32) s l).2.2

def p_X3_ifTold_16 (fu : Nat) (y0 : Int32) (t : Nat) (s : fl_I) (l : fl_L) : Prop :=
    (((y0 = 0) → p_X3_ifTold_47 fu  t s l) ∧ (¬ (y0 = 0) → (p_X3_take fu (60 : Int32) s l) ∧ p_X3_ifTold_25 fu (f_X3_take fu (60 : Int32) s l).1 t (f_X3_take fu (60 : Int32) s l).2.1 (f_X3_take fu (60 : Int32) s l).2.2))

set_option maxRecDepth 100000 in
set_option maxHeartbeats 1000000 in
theorem lp_X3_ifTold_16 {G : ab_G} {fu : Nat} {d : Nat} {D : fl_D} {t : Nat} (htt : isT t) : ∀ (y0 : Int32) (s : fl_I) (l : fl_L), p_X3_ifTold_16 fu y0 t s l → ab_C G (d + 33) 0 0 M_X3_ifTold 16 [some (.ref 3), some (.ref t), none] [.int y0] (hp D s l) (rt (some (.int (f_X3_ifTold_16 fu y0 t s l).1)) (hp D (f_X3_ifTold_16 fu y0 t s l).2.1 (f_X3_ifTold_16 fu y0 t s l).2.2)) := by
  intro y0 s l hk
  generalize he : f_X3_ifTold_16 fu y0 t s l = res
  unfold f_X3_ifTold_16 at he
  unfold p_X3_ifTold_16 at hk
  refine r_if_eq rfl (fun c_16 => ?_) (fun c_16 => ?_)
  · rw [if_pos c_16] at he
    replace hk := hk.1 c_16
    subst he
    exact r_weak (L1 := [none, none, none]) trivial (lp_X3_ifTold_47 htt _ _ hk)
  · rw [if_neg c_16] at he
    replace hk := hk.2 c_16
    refine r_aload_n rfl rfl ?_
    refine r_bipush_ (a := 60) rfl (by decide) ?_
    obtain ⟨hb2, hk⟩ := hk
    refine q_callV0 [_] _ rfl kY_X3_take kT_X3_take rfl rfl (Nat.le_of_ble_eq_true rfl) (Nat.le_of_ble_eq_true rfl) (cc_3 _) (s_X3_take hb2) (fun r h q => ?_)
    obtain ⟨rfl, rfl⟩ := q
    simp only [Option.toList, List.cons_append, List.nil_append]
    subst he
    exact r_weak (L1 := [some (.ref 3), some (.ref t), none]) ⟨rfl, rfl, trivial⟩ (lp_X3_ifTold_25 htt _ _ _ hk)

def f_X3_ifTold_7 (fu : Nat) (y0 : Int32) (t : Nat) (s : fl_I) (l : fl_L) : Int32 × fl_I × fl_L :=
    if (y0 = 0) then f_X3_ifTold_47 fu  t s l else f_X3_ifTold_16 fu (f_sumD fu 8 (0 : Int32) t s l).1 t (f_sumD fu 8 (0 : Int32) t s l).2.1 (f_sumD fu 8 (0 : Int32) t s l).2.2

def p_X3_ifTold_7 (fu : Nat) (y0 : Int32) (t : Nat) (s : fl_I) (l : fl_L) : Prop :=
    (((y0 = 0) → p_X3_ifTold_47 fu  t s l) ∧ (¬ (y0 = 0) → (p_sumD fu 8 (0 : Int32) t s l) ∧ p_X3_ifTold_16 fu (f_sumD fu 8 (0 : Int32) t s l).1 t (f_sumD fu 8 (0 : Int32) t s l).2.1 (f_sumD fu 8 (0 : Int32) t s l).2.2))

set_option maxRecDepth 100000 in
set_option maxHeartbeats 1000000 in
theorem lp_X3_ifTold_7 {G : ab_G} {fu : Nat} {d : Nat} {D : fl_D} {t : Nat} (htt : isT t) : ∀ (y0 : Int32) (s : fl_I) (l : fl_L), p_X3_ifTold_7 fu y0 t s l → ab_C G (d + 33) 0 0 M_X3_ifTold 7 [some (.ref 3), some (.ref t), none] [.int y0] (hp D s l) (rt (some (.int (f_X3_ifTold_7 fu y0 t s l).1)) (hp D (f_X3_ifTold_7 fu y0 t s l).2.1 (f_X3_ifTold_7 fu y0 t s l).2.2)) := by
  intro y0 s l hk
  generalize he : f_X3_ifTold_7 fu y0 t s l = res
  unfold f_X3_ifTold_7 at he
  unfold p_X3_ifTold_7 at hk
  refine r_if_eq rfl (fun c_7 => ?_) (fun c_7 => ?_)
  · rw [if_pos c_7] at he
    replace hk := hk.1 c_7
    subst he
    exact r_weak (L1 := [none, none, none]) trivial (lp_X3_ifTold_47 htt _ _ hk)
  · rw [if_neg c_7] at he
    replace hk := hk.2 c_7
    refine r_aload_n rfl rfl ?_
    refine r_aload_n rfl rfl ?_
    refine r_iconst_ (a := 0) rfl (by decide) ?_
    obtain ⟨hb1, hk⟩ := hk
    refine q_callV0 [_, _] _ rfl kY_X3_sum kT_X3_sum rfl rfl (Nat.le_of_ble_eq_true rfl) (Nat.le_of_ble_eq_true rfl) (cc_3 _) (s_sum8 htt hb1) (fun r h q => ?_)
    obtain ⟨rfl, rfl⟩ := q
    simp only [Option.toList, List.cons_append, List.nil_append]
    subst he
    exact r_weak (L1 := [some (.ref 3), some (.ref t), none]) ⟨rfl, rfl, trivial⟩ (lp_X3_ifTold_16 htt _ _ _ hk)

def f_X3_ifTold (fu : Nat) (t : Nat) (s : fl_I) (l : fl_L) : Int32 × fl_I × fl_L :=
  f_X3_ifTold_7 fu (f_X3_take fu (265 : Int32) s l).1 t (f_X3_take fu (265 : Int32) s l).2.1 (f_X3_take fu (265 : Int32) s l).2.2

def p_X3_ifTold (fu : Nat) (t : Nat) (s : fl_I) (l : fl_L) : Prop :=
  (p_X3_take fu (265 : Int32) s l) ∧ p_X3_ifTold_7 fu (f_X3_take fu (265 : Int32) s l).1 t (f_X3_take fu (265 : Int32) s l).2.1 (f_X3_take fu (265 : Int32) s l).2.2

set_option maxRecDepth 100000 in
set_option maxHeartbeats 1000000 in
theorem s_X3_ifTold {G : ab_G} {fu : Nat} {d : Nat} {D : fl_D} {s : fl_I} {l : fl_L} {t : Nat} (htt : isT t)  (hk : p_X3_ifTold fu t s l) : ab_C G (d + 33) 0 0 M_X3_ifTold 0 (ab_ent [.ref 3, .ref t]) [] (hp D s l) (rt (some (.int (f_X3_ifTold fu t s l).1)) (hp D (f_X3_ifTold fu t s l).2.1 (f_X3_ifTold fu t s l).2.2)) := by
  generalize he : (f_X3_ifTold fu t s l) = res
  unfold f_X3_ifTold at he
  unfold p_X3_ifTold at hk
  refine r_weak (L1 := [some (.ref 3), some (.ref t), none]) ⟨rfl, rfl, trivial⟩ ?_
  refine r_aload_n rfl rfl ?_
  refine r_sipush_ (a := 265) rfl (by decide) ?_
  obtain ⟨hb0, hk⟩ := hk
  refine q_callV0 [_] _ rfl kY_X3_take kT_X3_take rfl rfl (Nat.le_of_ble_eq_true rfl) (Nat.le_of_ble_eq_true rfl) (cc_3 _) (s_X3_take hb0) (fun r h q => ?_)
  obtain ⟨rfl, rfl⟩ := q
  simp only [Option.toList, List.cons_append, List.nil_append]
  subst he
  exact r_weak (L1 := [some (.ref 3), some (.ref t), none]) ⟨rfl, rfl, trivial⟩ (lp_X3_ifTold_7 htt _ _ _ hk)

def f_X7_bestQuestion_31 (fu : Nat) (K18 : Int32 → Int32 → Int32 → Int32 → Int32) : Nat → Int32 → Int32 → Int32 → Int32 → Int32 → Int32 → Nat → fl_I → fl_L → Int32
  | 0, _, _, _, _, _, _, _, _, _ => 0
  | n + 1, x2, x3, x4, x5, x6, x7, t, s, l =>
    if ((s t 1) ≤ x7) then if (x4 ≤ (i_max x6 ((f_J6_bitCount_0f7a4 fu x2) - x6))) then K18 x2 x3 x4 (x5 + 1) else K18 x2 x5 (i_max x6 ((f_J6_bitCount_0f7a4 fu x2) - x6)) (x5 + 1) else if (((x2 >>> (x7 &&& 31)) &&& (1 : Int32)) = (1 : Int32)) then if ((f_X7_hasSign fu (l (t + 2) x7.toNatClampNeg) x5) = 0) then f_X7_bestQuestion_31 fu K18 n x2 x3 x4 x5 x6 (x7 + 1) t s l else f_X7_bestQuestion_31 fu K18 n x2 x3 x4 x5 (x6 + 1) (x7 + 1) t s l else f_X7_bestQuestion_31 fu K18 n x2 x3 x4 x5 x6 (x7 + 1) t s l

def p_X7_bestQuestion_31 (fu : Nat) (P18 : Int32 → Int32 → Int32 → Int32 → Prop) : Nat → Int32 → Int32 → Int32 → Int32 → Int32 → Int32 → Nat → fl_I → fl_L → Prop
  | 0, _, _, _, _, _, _, _, _, _ => False
  | n + 1, x2, x3, x4, x5, x6, x7, t, s, l =>
    ((((s t 1) ≤ x7) → (p_J6_bitCount_0f7a4 fu x2) ∧ (((x4 ≤ (i_max x6 ((f_J6_bitCount_0f7a4 fu x2) - x6))) → P18 x2 x3 x4 (x5 + 1)) ∧ (¬ (x4 ≤ (i_max x6 ((f_J6_bitCount_0f7a4 fu x2) - x6))) → P18 x2 x5 (i_max x6 ((f_J6_bitCount_0f7a4 fu x2) - x6)) (x5 + 1)))) ∧ (¬ ((s t 1) ≤ x7) → (((((x2 >>> (x7 &&& 31)) &&& (1 : Int32)) = (1 : Int32)) → (vp_in x7 8) ∧ (p_X7_hasSign fu (l (t + 2) x7.toNatClampNeg) x5) ∧ ((((f_X7_hasSign fu (l (t + 2) x7.toNatClampNeg) x5) = 0) → p_X7_bestQuestion_31 fu P18 n x2 x3 x4 x5 x6 (x7 + 1) t s l) ∧ (¬ ((f_X7_hasSign fu (l (t + 2) x7.toNatClampNeg) x5) = 0) → p_X7_bestQuestion_31 fu P18 n x2 x3 x4 x5 (x6 + 1) (x7 + 1) t s l))) ∧ (¬ (((x2 >>> (x7 &&& 31)) &&& (1 : Int32)) = (1 : Int32)) → p_X7_bestQuestion_31 fu P18 n x2 x3 x4 x5 x6 (x7 + 1) t s l))))

set_option maxRecDepth 100000 in
set_option maxHeartbeats 1000000 in
theorem lp_X7_bestQuestion_31 {G : ab_G} {fu : Nat} {d : Nat} {D : fl_D} {s : fl_I} {l : fl_L} {t : Nat} (htt : isT t) (K18 : Int32 → Int32 → Int32 → Int32 → Int32) (P18 : Int32 → Int32 → Int32 → Int32 → Prop) (hK18 : ∀ (x2 : Int32) (x3 : Int32) (x4 : Int32) (x5 : Int32), P18 x2 x3 x4 x5 → ab_C G (d + 2) 0 0 M_X7_bestQuestion 18 [none, some (.ref t), some (.int x2), some (.int x3), some (.int x4), some (.int x5), none, none] [] (hp D s l) (rt (some (.int (K18 x2 x3 x4 x5))) (hp D s l))) : ∀ (n : Nat) (x2 : Int32) (x3 : Int32) (x4 : Int32) (x5 : Int32) (x6 : Int32) (x7 : Int32), p_X7_bestQuestion_31 fu P18 n x2 x3 x4 x5 x6 x7 t s l → ab_C G (d + 2) 0 0 M_X7_bestQuestion 31 [none, some (.ref t), some (.int x2), some (.int x3), some (.int x4), some (.int x5), some (.int x6), some (.int x7)] [] (hp D s l) (rt (some (.int (f_X7_bestQuestion_31 fu K18 n x2 x3 x4 x5 x6 x7 t s l))) (hp D s l)) := by
  intro n
  induction n with
  | zero => intro x2 x3 x4 x5 x6 x7 hk; exact hk.elim
  | succ n ih =>
    intro x2 x3 x4 x5 x6 x7 hk
    generalize he : f_X7_bestQuestion_31 fu K18 (n + 1) x2 x3 x4 x5 x6 x7 t s l = res
    unfold f_X7_bestQuestion_31 at he
    unfold p_X7_bestQuestion_31 at hk
    refine r_iload rfl rfl ?_
    refine r_aload_n rfl rfl ?_
    refine q_getfield rfl (cT_0 htt) rfl ?_
    refine r_icmp_ge rfl (fun c_37 => ?_) (fun c_37 => ?_)
    · rw [if_pos c_37] at he
      replace hk := hk.1 c_37
      refine r_iload rfl rfl ?_
      refine r_iload_n rfl rfl ?_
      obtain ⟨hb0, hk⟩ := hk
      refine r_callS0 [_] _ rfl kY_J6_bitCount_0f7a4 kT_J6_bitCount_0f7a4 rfl rfl (Nat.le_of_ble_eq_true rfl) (Nat.le_of_ble_eq_true rfl) (s_J6_bitCount_0f7a4 hb0) (fun r h q => ?_)
      obtain ⟨rfl, rfl⟩ := q
      simp only [Option.toList, List.cons_append, List.nil_append]
      refine r_iload rfl rfl ?_
      refine r_isub rfl ?_
      refine r_mmax rfl (Nat.le_of_ble_eq_true rfl) ?_
      refine r_istore rfl (Nat.le_of_ble_eq_true rfl) rfl ?_
      refine r_iload rfl rfl ?_
      refine r_iload rfl rfl ?_
      refine r_icmp_ge rfl (fun c_92 => ?_) (fun c_92 => ?_)
      · rw [if_pos c_92] at he
        replace hk := hk.1 c_92
        refine r_iinc (b := x5 + 1) rfl rfl rfl (Nat.le_of_ble_eq_true rfl) rfl ?_
        refine r_goto rfl ?_
        subst he
        exact r_weak (L1 := [none, some (.ref t), some (.int x2), some (.int x3), some (.int x4), some (.int (x5 + 1)), none, none]) ⟨rfl, rfl, rfl, rfl, rfl, trivial⟩ (hK18 _ _ _ _ hk)
      · rw [if_neg c_92] at he
        replace hk := hk.2 c_92
        refine r_iload rfl rfl ?_
        refine r_istore rfl (Nat.le_of_ble_eq_true rfl) rfl ?_
        refine r_iload rfl rfl ?_
        refine r_istore_n rfl (Nat.le_of_ble_eq_true rfl) rfl ?_
        refine r_iinc (b := x5 + 1) rfl rfl rfl (Nat.le_of_ble_eq_true rfl) rfl ?_
        refine r_goto rfl ?_
        subst he
        exact r_weak (L1 := [none, some (.ref t), some (.int x2), some (.int x5), some (.int (i_max x6 ((f_J6_bitCount_0f7a4 fu x2) - x6))), some (.int (x5 + 1)), none, none]) ⟨rfl, rfl, rfl, rfl, rfl, trivial⟩ (hK18 _ _ _ _ hk)
    · rw [if_neg c_37] at he
      replace hk := hk.2 c_37
      refine r_iload_n rfl rfl ?_
      refine r_iload rfl rfl ?_
      refine r_ishr rfl ?_
      refine r_iconst_ (a := 1) rfl (by decide) ?_
      refine r_iand rfl ?_
      refine r_iconst_ (a := 1) rfl (by decide) ?_
      refine r_icmp_ne rfl (fun c_47 => ?_) (fun c_47 => ?_)
      · rw [if_neg c_47] at he
        replace hk := hk.2 c_47
        refine r_iinc (b := x7 + 1) rfl rfl rfl (Nat.le_of_ble_eq_true rfl) rfl ?_
        refine r_goto rfl ?_
        subst he
        exact r_weak (L1 := [none, some (.ref t), some (.int x2), some (.int x3), some (.int x4), some (.int x5), some (.int x6), some (.int (x7 + 1))]) ⟨rfl, rfl, rfl, rfl, rfl, rfl, rfl, trivial⟩ (ih _ _ _ _ _ _ hk)
      · rw [if_pos c_47] at he
        replace hk := hk.1 c_47
        refine r_aload_n rfl rfl ?_
        refine q_getfield rfl (cT_0 htt) rfl ?_
        refine r_iload rfl rfl ?_
        obtain ⟨hb1, hk⟩ := hk
        refine q_lald rfl (cT_2 htt) hb1 ?_
        refine r_iload rfl rfl ?_
        obtain ⟨hb2, hk⟩ := hk
        refine r_callS0 [_, _] _ rfl kY_X7_hasSign kT_X7_hasSign rfl rfl (Nat.le_of_ble_eq_true rfl) (Nat.le_of_ble_eq_true rfl) (s_X7_hasSign hb2) (fun r h q => ?_)
        obtain ⟨rfl, rfl⟩ := q
        simp only [Option.toList, List.cons_append, List.nil_append]
        refine r_if_eq rfl (fun c_62 => ?_) (fun c_62 => ?_)
        · rw [if_pos c_62] at he
          replace hk := hk.1 c_62
          refine r_iinc (b := x7 + 1) rfl rfl rfl (Nat.le_of_ble_eq_true rfl) rfl ?_
          refine r_goto rfl ?_
          subst he
          exact r_weak (L1 := [none, some (.ref t), some (.int x2), some (.int x3), some (.int x4), some (.int x5), some (.int x6), some (.int (x7 + 1))]) ⟨rfl, rfl, rfl, rfl, rfl, rfl, rfl, trivial⟩ (ih _ _ _ _ _ _ hk)
        · rw [if_neg c_62] at he
          replace hk := hk.2 c_62
          refine r_iinc (b := x6 + 1) rfl rfl rfl (Nat.le_of_ble_eq_true rfl) rfl ?_
          refine r_iinc (b := x7 + 1) rfl rfl rfl (Nat.le_of_ble_eq_true rfl) rfl ?_
          refine r_goto rfl ?_
          subst he
          exact r_weak (L1 := [none, some (.ref t), some (.int x2), some (.int x3), some (.int x4), some (.int x5), some (.int (x6 + 1)), some (.int (x7 + 1))]) ⟨rfl, rfl, rfl, rfl, rfl, rfl, rfl, trivial⟩ (ih _ _ _ _ _ _ hk)

def f_X7_bestQuestion_18 (fu : Nat) : Nat → Int32 → Int32 → Int32 → Int32 → Nat → fl_I → fl_L → Int32
  | 0, _, _, _, _, _, _, _ => 0
  | n + 1, x2, x3, x4, x5, t, s, l =>
    if ((26 : Int32) < x5) then x3 else f_X7_bestQuestion_31 fu (fun x2 x3 x4 x5 => f_X7_bestQuestion_18 fu n x2 x3 x4 x5 t s l) fu x2 x3 x4 x5 (0 : Int32) (0 : Int32) t s l

def p_X7_bestQuestion_18 (fu : Nat) : Nat → Int32 → Int32 → Int32 → Int32 → Nat → fl_I → fl_L → Prop
  | 0, _, _, _, _, _, _, _ => False
  | n + 1, x2, x3, x4, x5, t, s, l =>
    ((((26 : Int32) < x5) → True) ∧ (¬ ((26 : Int32) < x5) → p_X7_bestQuestion_31 fu (fun x2 x3 x4 x5 => p_X7_bestQuestion_18 fu n x2 x3 x4 x5 t s l) fu x2 x3 x4 x5 (0 : Int32) (0 : Int32) t s l))

set_option maxRecDepth 100000 in
set_option maxHeartbeats 1000000 in
theorem lp_X7_bestQuestion_18 {G : ab_G} {fu : Nat} {d : Nat} {D : fl_D} {s : fl_I} {l : fl_L} {t : Nat} (htt : isT t) : ∀ (n : Nat) (x2 : Int32) (x3 : Int32) (x4 : Int32) (x5 : Int32), p_X7_bestQuestion_18 fu n x2 x3 x4 x5 t s l → ab_C G (d + 2) 0 0 M_X7_bestQuestion 18 [none, some (.ref t), some (.int x2), some (.int x3), some (.int x4), some (.int x5), none, none] [] (hp D s l) (rt (some (.int (f_X7_bestQuestion_18 fu n x2 x3 x4 x5 t s l))) (hp D s l)) := by
  intro n
  induction n with
  | zero => intro x2 x3 x4 x5 hk; exact hk.elim
  | succ n ih =>
    intro x2 x3 x4 x5 hk
    generalize he : f_X7_bestQuestion_18 fu (n + 1) x2 x3 x4 x5 t s l = res
    unfold f_X7_bestQuestion_18 at he
    unfold p_X7_bestQuestion_18 at hk
    refine r_iload rfl rfl ?_
    refine r_bipush_ (a := 26) rfl (by decide) ?_
    refine r_icmp_gt rfl (fun c_22 => ?_) (fun c_22 => ?_)
    · rw [if_pos c_22] at he
      replace hk := hk.1 c_22
      refine r_iload_n rfl rfl ?_
      refine r_iret rfl rfl rfl ?_
      first | with_reducible exact fin_ri he | exact fin_ri he
    · rw [if_neg c_22] at he
      replace hk := hk.2 c_22
      refine r_iconst_ (a := 0) rfl (by decide) ?_
      refine r_istore rfl (Nat.le_of_ble_eq_true rfl) rfl ?_
      refine r_iconst_ (a := 0) rfl (by decide) ?_
      refine r_istore rfl (Nat.le_of_ble_eq_true rfl) rfl ?_
      subst he
      exact r_weak (L1 := [none, some (.ref t), some (.int x2), some (.int x3), some (.int x4), some (.int x5), some (.int (0 : Int32)), some (.int (0 : Int32))]) ⟨rfl, rfl, rfl, rfl, rfl, rfl, rfl, trivial⟩ (lp_X7_bestQuestion_31 htt _ _ (fun _ _ _ _ h9 => ih _ _ _ _ h9) fu _ _ _ _ _ _ hk)

def f_X7_bestQuestion (fu : Nat) (v1 : Int32) (t : Nat) (s : fl_I) (l : fl_L) : Int32 :=
  if (v1 = 0) then f_X7_bestQuestion_18 fu fu v1 (-2 : Int32) (0 : Int32) (1 : Int32) t s l else f_X7_bestQuestion_18 fu fu v1 (-2 : Int32) (9 : Int32) (1 : Int32) t s l

def p_X7_bestQuestion (fu : Nat) (v1 : Int32) (t : Nat) (s : fl_I) (l : fl_L) : Prop :=
  (((v1 = 0) → p_X7_bestQuestion_18 fu fu v1 (-2 : Int32) (0 : Int32) (1 : Int32) t s l) ∧ (¬ (v1 = 0) → p_X7_bestQuestion_18 fu fu v1 (-2 : Int32) (9 : Int32) (1 : Int32) t s l))

set_option maxRecDepth 100000 in
set_option maxHeartbeats 1000000 in
theorem s_X7_bestQuestion {G : ab_G} {fu : Nat} {d : Nat} {D : fl_D} {s : fl_I} {l : fl_L} {t : Nat} (htt : isT t) {v1 : Int32} (hk : p_X7_bestQuestion fu v1 t s l) : ab_C G (d + 2) 0 0 M_X7_bestQuestion 0 (ab_ent [.ref 57, .ref t, .int v1]) [] (hp D s l) (rt (some (.int (f_X7_bestQuestion fu v1 t s l))) (hp D s l)) := by
  generalize he : (f_X7_bestQuestion fu v1 t s l) = res
  unfold f_X7_bestQuestion at he
  unfold p_X7_bestQuestion at hk
  refine r_weak (L1 := [some (.ref 57), some (.ref t), some (.int v1), none, none, none, none, none]) ⟨rfl, rfl, rfl, trivial⟩ ?_
  refine r_bipush_ (a := -2) rfl (by decide) ?_
  refine r_istore_n rfl (Nat.le_of_ble_eq_true rfl) rfl ?_
  refine r_iload_n rfl rfl ?_
  refine r_if_ne rfl (fun c_4 => ?_) (fun c_4 => ?_)
  · rw [if_neg c_4] at he
    replace hk := hk.2 c_4
    refine r_bipush_ (a := 9) rfl (by decide) ?_
    refine r_istore rfl (Nat.le_of_ble_eq_true rfl) rfl ?_
    refine r_iconst_ (a := 1) rfl (by decide) ?_
    refine r_istore rfl (Nat.le_of_ble_eq_true rfl) rfl ?_
    subst he
    exact r_weak (L1 := [none, some (.ref t), some (.int v1), some (.int (-2 : Int32)), some (.int (9 : Int32)), some (.int (1 : Int32)), none, none]) ⟨rfl, rfl, rfl, rfl, rfl, trivial⟩ (lp_X7_bestQuestion_18 htt fu _ _ _ _ hk)
  · rw [if_pos c_4] at he
    replace hk := hk.1 c_4
    refine r_iconst_ (a := 0) rfl (by decide) ?_
    refine r_goto rfl ?_
    refine r_istore rfl (Nat.le_of_ble_eq_true rfl) rfl ?_
    refine r_iconst_ (a := 1) rfl (by decide) ?_
    refine r_istore rfl (Nat.le_of_ble_eq_true rfl) rfl ?_
    subst he
    exact r_weak (L1 := [none, some (.ref t), some (.int v1), some (.int (-2 : Int32)), some (.int (0 : Int32)), some (.int (1 : Int32)), none, none]) ⟨rfl, rfl, rfl, rfl, rfl, trivial⟩ (lp_X7_bestQuestion_18 htt fu _ _ _ _ hk)

