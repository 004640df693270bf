def f_X12_tellPicker_110 (fu : Nat) (s : fl_I) (l : fl_L) : fl_I × fl_L :=
    (s, l)

def p_X12_tellPicker_110 (fu : Nat) (s : fl_I) (l : fl_L) : Prop :=
    True

set_option maxRecDepth 100000 in
set_option maxHeartbeats 1000000 in
theorem lp_X12_tellPicker_110 {G : ab_G} {fu : Nat} {d : Nat} {D : fl_D} : ∀ (s : fl_I) (l : fl_L), p_X12_tellPicker_110 fu  s l → ab_C G (d + 4) 0 0 M_X12_tellPicker 110 [none, none] [] (hp D s l) (rt none (hp D (f_X12_tellPicker_110 fu  s l).1 (f_X12_tellPicker_110 fu  s l).2)) := by
  intro  s l hk
  generalize he : f_X12_tellPicker_110 fu  s l = res
  unfold f_X12_tellPicker_110 at he
  unfold p_X12_tellPicker_110 at hk
  refine r_ret rfl rfl ?_
  first | with_reducible exact fin_v he | exact fin_v he

def f_X12_tellPicker_90 (fu : Nat) (s : fl_I) (l : fl_L) : fl_I × fl_L :=
    if ((s 60 13) = 0) then f_X12_tellPicker_110 fu  (wi s 74 (s 60 19).toNatClampNeg ((s 74 (s 60 19).toNatClampNeg) + (1 : Int32))) l else f_X12_tellPicker_110 fu  s l

def p_X12_tellPicker_90 (fu : Nat) (s : fl_I) (l : fl_L) : Prop :=
    ((((s 60 13) = 0) → (vp_in (s 60 19) 2) ∧ (vp_in (s 60 19) 2) ∧ p_X12_tellPicker_110 fu  (wi s 74 (s 60 19).toNatClampNeg ((s 74 (s 60 19).toNatClampNeg) + (1 : Int32))) l) ∧ (¬ ((s 60 13) = 0) → p_X12_tellPicker_110 fu  s l))

set_option maxRecDepth 100000 in
set_option maxHeartbeats 1000000 in
theorem lp_X12_tellPicker_90 {G : ab_G} {fu : Nat} {d : Nat} {D : fl_D} : ∀ (s : fl_I) (l : fl_L), p_X12_tellPicker_90 fu  s l → ab_C G (d + 4) 0 0 M_X12_tellPicker 90 [some (.ref 60), none] [] (hp D s l) (rt none (hp D (f_X12_tellPicker_90 fu  s l).1 (f_X12_tellPicker_90 fu  s l).2)) := by
  intro  s l hk
  generalize he : f_X12_tellPicker_90 fu  s l = res
  unfold f_X12_tellPicker_90 at he
  unfold p_X12_tellPicker_90 at hk
  refine r_aload_n rfl rfl ?_
  refine q_getfield rfl (cc_60 _) rfl ?_
  refine r_if_ne rfl (fun c_94 => ?_) (fun c_94 => ?_)
  · rw [if_neg c_94] at he
    replace hk := hk.2 c_94
    subst he
    exact r_weak (L1 := [none, none]) trivial (lp_X12_tellPicker_110 _ _ hk)
  · rw [if_pos c_94] at he
    replace hk := hk.1 c_94
    refine r_aload_n rfl rfl ?_
    refine q_getfield rfl (cc_60 _) rfl ?_
    refine r_aload_n rfl rfl ?_
    refine q_getfield rfl (cc_60 _) rfl ?_
    refine r_dup2 rfl rfl rfl ?_
    obtain ⟨hb11, hk⟩ := hk
    refine q_iald rfl (cc_74 _) hb11 ?_
    refine r_iconst_ (a := 1) rfl (by decide) ?_
    refine r_iadd rfl ?_
    obtain ⟨hb12, hk⟩ := hk
    refine w_iast rfl (cc_74 _) hb12 ?_
    subst he
    exact r_weak (L1 := [none, none]) trivial (lp_X12_tellPicker_110 _ _ hk)

def f_X12_tellPicker_84 (fu : Nat) (y1 : Int32) (y2 : Int32) (s : fl_I) (l : fl_L) : fl_I × fl_L :=
    f_X12_tellPicker_90 fu  (f_X12_must fu (4 : Int32) (wi s 78 y1.toNatClampNeg y2) l).1 (f_X12_must fu (4 : Int32) (wi s 78 y1.toNatClampNeg y2) l).2

def p_X12_tellPicker_84 (fu : Nat) (y1 : Int32) (y2 : Int32) (s : fl_I) (l : fl_L) : Prop :=
    (vp_in y1 8) ∧ (p_X12_must fu (4 : Int32) (wi s 78 y1.toNatClampNeg y2) l) ∧ p_X12_tellPicker_90 fu  (f_X12_must fu (4 : Int32) (wi s 78 y1.toNatClampNeg y2) l).1 (f_X12_must fu (4 : Int32) (wi s 78 y1.toNatClampNeg y2) l).2

set_option maxRecDepth 100000 in
set_option maxHeartbeats 1000000 in
theorem lp_X12_tellPicker_84 {G : ab_G} {fu : Nat} {d : Nat} {D : fl_D} : ∀ (y1 : Int32) (y2 : Int32) (s : fl_I) (l : fl_L), p_X12_tellPicker_84 fu y1 y2 s l → ab_C G (d + 4) 0 0 M_X12_tellPicker 84 [some (.ref 60), none] [.int y2, .int y1, .ref 78] (hp D s l) (rt none (hp D (f_X12_tellPicker_84 fu y1 y2 s l).1 (f_X12_tellPicker_84 fu y1 y2 s l).2)) := by
  intro y1 y2 s l hk
  generalize he : f_X12_tellPicker_84 fu y1 y2 s l = res
  unfold f_X12_tellPicker_84 at he
  unfold p_X12_tellPicker_84 at hk
  obtain ⟨hb9, hk⟩ := hk
  refine w_iast rfl (cc_78 _) hb9 ?_
  refine r_aload_n rfl rfl ?_
  refine r_iconst_ (a := 4) rfl (by decide) ?_
  obtain ⟨hb10, hk⟩ := hk
  refine q_callV0 [_] _ rfl kY_X12_must kT_X12_must rfl rfl (Nat.le_of_ble_eq_true rfl) (Nat.le_of_ble_eq_true rfl) (cc_60 _) (s_X12_must hb10) (fun r h q => ?_)
  obtain ⟨rfl, rfl⟩ := q
  simp only [Option.toList, List.cons_append, List.nil_append]
  subst he
  exact r_weak (L1 := [some (.ref 60), none]) ⟨rfl, trivial⟩ (lp_X12_tellPicker_90 _ _ hk)

def f_X12_tellPicker_71 (fu : Nat) (x1 : Int32) (y1 : Int32) (y2 : Int32) (s : fl_I) (l : fl_L) : fl_I × fl_L :=
    f_X12_tellPicker_84 fu x1 (f_X12_bounded fu (1 : Int32) (32 : Int32) (wi s 77 y1.toNatClampNeg y2) l).1 (f_X12_bounded fu (1 : Int32) (32 : Int32) (wi s 77 y1.toNatClampNeg y2) l).2.1 (f_X12_bounded fu (1 : Int32) (32 : Int32) (wi s 77 y1.toNatClampNeg y2) l).2.2

def p_X12_tellPicker_71 (fu : Nat) (x1 : Int32) (y1 : Int32) (y2 : Int32) (s : fl_I) (l : fl_L) : Prop :=
    (vp_in y1 8) ∧ (p_X12_bounded fu (1 : Int32) (32 : Int32) (wi s 77 y1.toNatClampNeg y2) l) ∧ p_X12_tellPicker_84 fu x1 (f_X12_bounded fu (1 : Int32) (32 : Int32) (wi s 77 y1.toNatClampNeg y2) l).1 (f_X12_bounded fu (1 : Int32) (32 : Int32) (wi s 77 y1.toNatClampNeg y2) l).2.1 (f_X12_bounded fu (1 : Int32) (32 : Int32) (wi s 77 y1.toNatClampNeg y2) l).2.2

set_option maxRecDepth 100000 in
set_option maxHeartbeats 1000000 in
theorem lp_X12_tellPicker_71 {G : ab_G} {fu : Nat} {d : Nat} {D : fl_D} : ∀ (x1 : Int32) (y1 : Int32) (y2 : Int32) (s : fl_I) (l : fl_L), p_X12_tellPicker_71 fu x1 y1 y2 s l → ab_C G (d + 4) 0 0 M_X12_tellPicker 71 [some (.ref 60), some (.int x1)] [.int y2, .int y1, .ref 77] (hp D s l) (rt none (hp D (f_X12_tellPicker_71 fu x1 y1 y2 s l).1 (f_X12_tellPicker_71 fu x1 y1 y2 s l).2)) := by
  intro x1 y1 y2 s l hk
  generalize he : f_X12_tellPicker_71 fu x1 y1 y2 s l = res
  unfold f_X12_tellPicker_71 at he
  unfold p_X12_tellPicker_71 at hk
  obtain ⟨hb7, hk⟩ := hk
  refine w_iast rfl (cc_77 _) hb7 ?_
  refine r_aload_n rfl rfl ?_
  refine q_getfield rfl (cc_60 _) rfl ?_
  refine r_iload_n rfl rfl ?_
  refine r_aload_n rfl rfl ?_
  refine r_iconst_ (a := 1) rfl (by decide) ?_
  refine r_bipush_ (a := 32) rfl (by decide) ?_
  obtain ⟨hb8, hk⟩ := hk
  refine q_callV0 [_, _] _ rfl kY_X12_bounded kT_X12_bounded rfl rfl (Nat.le_of_ble_eq_true rfl) (Nat.le_of_ble_eq_true rfl) (cc_60 _) (s_X12_bounded hb8) (fun r h q => ?_)
  obtain ⟨rfl, rfl⟩ := q
  simp only [Option.toList, List.cons_append, List.nil_append]
  subst he
  exact r_weak (L1 := [some (.ref 60), none]) ⟨rfl, trivial⟩ (lp_X12_tellPicker_84 _ _ _ _ hk)

def f_X12_tellPicker_58 (fu : Nat) (x1 : Int32) (y1 : Int32) (y2 : Int32) (s : fl_I) (l : fl_L) : fl_I × fl_L :=
    f_X12_tellPicker_71 fu x1 x1 (f_X12_bounded fu (0 : Int32) (7 : Int32) (wi s 76 y1.toNatClampNeg y2) l).1 (f_X12_bounded fu (0 : Int32) (7 : Int32) (wi s 76 y1.toNatClampNeg y2) l).2.1 (f_X12_bounded fu (0 : Int32) (7 : Int32) (wi s 76 y1.toNatClampNeg y2) l).2.2

def p_X12_tellPicker_58 (fu : Nat) (x1 : Int32) (y1 : Int32) (y2 : Int32) (s : fl_I) (l : fl_L) : Prop :=
    (vp_in y1 8) ∧ (p_X12_bounded fu (0 : Int32) (7 : Int32) (wi s 76 y1.toNatClampNeg y2) l) ∧ p_X12_tellPicker_71 fu x1 x1 (f_X12_bounded fu (0 : Int32) (7 : Int32) (wi s 76 y1.toNatClampNeg y2) l).1 (f_X12_bounded fu (0 : Int32) (7 : Int32) (wi s 76 y1.toNatClampNeg y2) l).2.1 (f_X12_bounded fu (0 : Int32) (7 : Int32) (wi s 76 y1.toNatClampNeg y2) l).2.2

set_option maxRecDepth 100000 in
set_option maxHeartbeats 1000000 in
theorem lp_X12_tellPicker_58 {G : ab_G} {fu : Nat} {d : Nat} {D : fl_D} : ∀ (x1 : Int32) (y1 : Int32) (y2 : Int32) (s : fl_I) (l : fl_L), p_X12_tellPicker_58 fu x1 y1 y2 s l → ab_C G (d + 4) 0 0 M_X12_tellPicker 58 [some (.ref 60), some (.int x1)] [.int y2, .int y1, .ref 76] (hp D s l) (rt none (hp D (f_X12_tellPicker_58 fu x1 y1 y2 s l).1 (f_X12_tellPicker_58 fu x1 y1 y2 s l).2)) := by
  intro x1 y1 y2 s l hk
  generalize he : f_X12_tellPicker_58 fu x1 y1 y2 s l = res
  unfold f_X12_tellPicker_58 at he
  unfold p_X12_tellPicker_58 at hk
  obtain ⟨hb5, hk⟩ := hk
  refine w_iast rfl (cc_76 _) hb5 ?_
  refine r_aload_n rfl rfl ?_
  refine q_getfield rfl (cc_60 _) rfl ?_
  refine r_iload_n rfl rfl ?_
  refine r_aload_n rfl rfl ?_
  refine r_iconst_ (a := 0) rfl (by decide) ?_
  refine r_bipush_ (a := 7) rfl (by decide) ?_
  obtain ⟨hb6, hk⟩ := hk
  refine q_callV0 [_, _] _ rfl kY_X12_bounded kT_X12_bounded rfl rfl (Nat.le_of_ble_eq_true rfl) (Nat.le_of_ble_eq_true rfl) (cc_60 _) (s_X12_bounded hb6) (fun r h q => ?_)
  obtain ⟨rfl, rfl⟩ := q
  simp only [Option.toList, List.cons_append, List.nil_append]
  subst he
  exact r_weak (L1 := [some (.ref 60), some (.int x1)]) ⟨rfl, rfl, trivial⟩ (lp_X12_tellPicker_71 _ _ _ _ _ hk)

def f_X12_tellPicker_45 (fu : Nat) (x1 : Int32) (y1 : Int32) (y2 : Int64) (s : fl_I) (l : fl_L) : fl_I × fl_L :=
    f_X12_tellPicker_58 fu x1 x1 (f_X12_bounded fu (0 : Int32) (9 : Int32) s (wl l 75 y1.toNatClampNeg y2)).1 (f_X12_bounded fu (0 : Int32) (9 : Int32) s (wl l 75 y1.toNatClampNeg y2)).2.1 (f_X12_bounded fu (0 : Int32) (9 : Int32) s (wl l 75 y1.toNatClampNeg y2)).2.2

def p_X12_tellPicker_45 (fu : Nat) (x1 : Int32) (y1 : Int32) (y2 : Int64) (s : fl_I) (l : fl_L) : Prop :=
    (vp_in y1 8) ∧ (p_X12_bounded fu (0 : Int32) (9 : Int32) s (wl l 75 y1.toNatClampNeg y2)) ∧ p_X12_tellPicker_58 fu x1 x1 (f_X12_bounded fu (0 : Int32) (9 : Int32) s (wl l 75 y1.toNatClampNeg y2)).1 (f_X12_bounded fu (0 : Int32) (9 : Int32) s (wl l 75 y1.toNatClampNeg y2)).2.1 (f_X12_bounded fu (0 : Int32) (9 : Int32) s (wl l 75 y1.toNatClampNeg y2)).2.2

set_option maxRecDepth 100000 in
set_option maxHeartbeats 1000000 in
theorem lp_X12_tellPicker_45 {G : ab_G} {fu : Nat} {d : Nat} {D : fl_D} : ∀ (x1 : Int32) (y1 : Int32) (y2 : Int64) (s : fl_I) (l : fl_L), p_X12_tellPicker_45 fu x1 y1 y2 s l → ab_C G (d + 4) 0 0 M_X12_tellPicker 45 [some (.ref 60), some (.int x1)] [.long y2, .int y1, .ref 75] (hp D s l) (rt none (hp D (f_X12_tellPicker_45 fu x1 y1 y2 s l).1 (f_X12_tellPicker_45 fu x1 y1 y2 s l).2)) := by
  intro x1 y1 y2 s l hk
  generalize he : f_X12_tellPicker_45 fu x1 y1 y2 s l = res
  unfold f_X12_tellPicker_45 at he
  unfold p_X12_tellPicker_45 at hk
  obtain ⟨hb3, hk⟩ := hk
  refine w_last rfl (cc_75 _) hb3 ?_
  refine r_aload_n rfl rfl ?_
  refine q_getfield rfl (cc_60 _) rfl ?_
  refine r_iload_n rfl rfl ?_
  refine r_aload_n rfl rfl ?_
  refine r_iconst_ (a := 0) rfl (by decide) ?_
  refine r_bipush_ (a := 9) rfl (by decide) ?_
  obtain ⟨hb4, hk⟩ := hk
  refine q_callV0 [_, _] _ rfl kY_X12_bounded kT_X12_bounded rfl rfl (Nat.le_of_ble_eq_true rfl) (Nat.le_of_ble_eq_true rfl) (cc_60 _) (s_X12_bounded hb4) (fun r h q => ?_)
  obtain ⟨rfl, rfl⟩ := q
  simp only [Option.toList, List.cons_append, List.nil_append]
  subst he
  exact r_weak (L1 := [some (.ref 60), some (.int x1)]) ⟨rfl, rfl, trivial⟩ (lp_X12_tellPicker_58 _ _ _ _ _ hk)

def f_X12_tellPicker (fu : Nat) (s : fl_I) (l : fl_L) : fl_I × fl_L :=
  f_X12_tellPicker_45 fu (((4 : Int32) * (s 60 19)) + (s 74 (s 60 19).toNatClampNeg)) (((4 : Int32) * (s 60 19)) + (s 74 (s 60 19).toNatClampNeg)) (f_X12_named fu ((4 : Int32) * (s 60 19)) (s 74 (s 60 19).toNatClampNeg) 75 8 s l).1 (f_X12_named fu ((4 : Int32) * (s 60 19)) (s 74 (s 60 19).toNatClampNeg) 75 8 s l).2.1 (f_X12_named fu ((4 : Int32) * (s 60 19)) (s 74 (s 60 19).toNatClampNeg) 75 8 s l).2.2

def p_X12_tellPicker (fu : Nat) (s : fl_I) (l : fl_L) : Prop :=
  (vp_in (s 60 19) 2) ∧ (vp_in (s 60 19) 2) ∧ (p_X12_named fu ((4 : Int32) * (s 60 19)) (s 74 (s 60 19).toNatClampNeg) 75 8 s l) ∧ p_X12_tellPicker_45 fu (((4 : Int32) * (s 60 19)) + (s 74 (s 60 19).toNatClampNeg)) (((4 : Int32) * (s 60 19)) + (s 74 (s 60 19).toNatClampNeg)) (f_X12_named fu ((4 : Int32) * (s 60 19)) (s 74 (s 60 19).toNatClampNeg) 75 8 s l).1 (f_X12_named fu ((4 : Int32) * (s 60 19)) (s 74 (s 60 19).toNatClampNeg) 75 8 s l).2.1 (f_X12_named fu ((4 : Int32) * (s 60 19)) (s 74 (s 60 19).toNatClampNeg) 75 8 s l).2.2

set_option maxRecDepth 100000 in
set_option maxHeartbeats 1000000 in
theorem s_X12_tellPicker {G : ab_G} {fu : Nat} {d : Nat} {D : fl_D} {s : fl_I} {l : fl_L}  (hk : p_X12_tellPicker fu s l) : ab_C G (d + 4) 0 0 M_X12_tellPicker 0 (ab_ent [.ref 60]) [] (hp D s l) (rt none (hp D (f_X12_tellPicker fu s l).1 (f_X12_tellPicker fu s l).2)) := by
  generalize he : (f_X12_tellPicker fu s l) = res
  unfold f_X12_tellPicker at he
  unfold p_X12_tellPicker at hk
  refine r_weak (L1 := [some (.ref 60), none]) ⟨rfl, trivial⟩ ?_
  refine r_iconst_ (a := 4) rfl (by decide) ?_
  refine r_aload_n rfl rfl ?_
  refine q_getfield rfl (cc_60 _) rfl ?_
  refine r_imul rfl ?_
  refine r_aload_n rfl rfl ?_
  refine q_getfield rfl (cc_60 _) rfl ?_
  refine r_aload_n rfl rfl ?_
  refine q_getfield rfl (cc_60 _) rfl ?_
  obtain ⟨hb0, hk⟩ := hk
  refine q_iald rfl (cc_74 _) hb0 ?_
  refine r_iadd rfl ?_
  refine r_istore_n rfl (Nat.le_of_ble_eq_true rfl) rfl ?_
  refine r_aload_n rfl rfl ?_
  refine q_getfield rfl (cc_60 _) rfl ?_
  refine r_iload_n rfl rfl ?_
  refine r_aload_n rfl rfl ?_
  refine r_aload_n rfl rfl ?_
  refine q_getfield rfl (cc_60 _) rfl ?_
  refine r_iconst_ (a := 4) rfl (by decide) ?_
  refine r_aload_n rfl rfl ?_
  refine q_getfield rfl (cc_60 _) rfl ?_
  refine r_imul rfl ?_
  refine r_aload_n rfl rfl ?_
  refine q_getfield rfl (cc_60 _) rfl ?_
  refine r_aload_n rfl rfl ?_
  refine q_getfield rfl (cc_60 _) rfl ?_
  obtain ⟨hb1, hk⟩ := hk
  refine q_iald rfl (cc_74 _) hb1 ?_
  obtain ⟨hb2, hk⟩ := hk
  refine q_callV0 [_, _, _] _ rfl kY_X12_named kT_X12_named rfl rfl (Nat.le_of_ble_eq_true rfl) (Nat.le_of_ble_eq_true rfl) (cc_60 _) (s_X12_named (cc_75 _) hb2) (fun r h q => ?_)
  obtain ⟨rfl, rfl⟩ := q
  simp only [Option.toList, List.cons_append, List.nil_append]
  subst he
  exact r_weak (L1 := [some (.ref 60), some (.int (((4 : Int32) * (s 60 19)) + (s 74 (s 60 19).toNatClampNeg)))]) ⟨rfl, rfl, trivial⟩ (lp_X12_tellPicker_45 _ _ _ _ _ hk)

def f_X5_addLetter_25 (fu : Nat) : Nat → Int64 → Int32 → Int32 → Int32 → Int32 → Nat → fl_I → fl_L → fl_I × fl_L
  | 0, x1, x3, x4, x5, x6, t, s, l => (s, l)
  | n + 1, x1, x3, x4, x5, x6, t, s, l =>
    if (x5 ≤ x6) then ((wi s t 0 ((s t 0) + (1 : Int32))), (wl l (t + 1) (s t 0).toNatClampNeg x1)) else if ((s t 3) < 0) then ((wi s t 0 ((s t 0) + (1 : Int32))), (wl l (t + 1) (s t 0).toNatClampNeg x1)) else if ((32 : Int32) ≤ (s t 3)) then ((wi s t 0 ((s t 0) + (1 : Int32))), (wl l (t + 1) (s t 0).toNatClampNeg x1)) else f_X5_addLetter_25 fu n x1 x3 x4 x5 (x6 + 1) t (wi (wi (wi (wi s (t + 4) (s t 3).toNatClampNeg (f_X11_signAt fu x1 x6)) (t + 5) ((wi s (t + 4) (s t 3).toNatClampNeg (f_X11_signAt fu x1 x6)) t 3).toNatClampNeg ((wi s (t + 4) (s t 3).toNatClampNeg (f_X11_signAt fu x1 x6)) t 0)) (t + 6) ((wi (wi s (t + 4) (s t 3).toNatClampNeg (f_X11_signAt fu x1 x6)) (t + 5) ((wi s (t + 4) (s t 3).toNatClampNeg (f_X11_signAt fu x1 x6)) t 3).toNatClampNeg ((wi s (t + 4) (s t 3).toNatClampNeg (f_X11_signAt fu x1 x6)) t 0)) t 3).toNatClampNeg (((10 : Int32) * x4) + ((x3 + x6) - (x3 + x6) / (10 : Int32) * (10 : Int32)))) t 3 (((wi (wi (wi s (t + 4) (s t 3).toNatClampNeg (f_X11_signAt fu x1 x6)) (t + 5) ((wi s (t + 4) (s t 3).toNatClampNeg (f_X11_signAt fu x1 x6)) t 3).toNatClampNeg ((wi s (t + 4) (s t 3).toNatClampNeg (f_X11_signAt fu x1 x6)) t 0)) (t + 6) ((wi (wi s (t + 4) (s t 3).toNatClampNeg (f_X11_signAt fu x1 x6)) (t + 5) ((wi s (t + 4) (s t 3).toNatClampNeg (f_X11_signAt fu x1 x6)) t 3).toNatClampNeg ((wi s (t + 4) (s t 3).toNatClampNeg (f_X11_signAt fu x1 x6)) t 0)) t 3).toNatClampNeg (((10 : Int32) * x4) + ((x3 + x6) - (x3 + x6) / (10 : Int32) * (10 : Int32)))) t 3) + (1 : Int32))) l

def p_X5_addLetter_25 (fu : Nat) : Nat → Int64 → Int32 → Int32 → Int32 → Int32 → Nat → fl_I → fl_L → Prop
  | 0, _, _, _, _, _, _, _, _ => False
  | n + 1, x1, x3, x4, x5, x6, t, s, l =>
    (((x5 ≤ x6) → (vp_in (s t 0) 4) ∧ True) ∧ (¬ (x5 ≤ x6) → ((((s t 3) < 0) → (vp_in (s t 0) 4) ∧ True) ∧ (¬ ((s t 3) < 0) → ((((32 : Int32) ≤ (s t 3)) → (vp_in (s t 0) 4) ∧ True) ∧ (¬ ((32 : Int32) ≤ (s t 3)) → (p_X11_signAt fu x1 x6) ∧ (vp_in (s t 3) 32) ∧ (vp_in ((wi s (t + 4) (s t 3).toNatClampNeg (f_X11_signAt fu x1 x6)) t 3) 32) ∧ (vp_in ((wi (wi s (t + 4) (s t 3).toNatClampNeg (f_X11_signAt fu x1 x6)) (t + 5) ((wi s (t + 4) (s t 3).toNatClampNeg (f_X11_signAt fu x1 x6)) t 3).toNatClampNeg ((wi s (t + 4) (s t 3).toNatClampNeg (f_X11_signAt fu x1 x6)) t 0)) t 3) 32) ∧ p_X5_addLetter_25 fu n x1 x3 x4 x5 (x6 + 1) t (wi (wi (wi (wi s (t + 4) (s t 3).toNatClampNeg (f_X11_signAt fu x1 x6)) (t + 5) ((wi s (t + 4) (s t 3).toNatClampNeg (f_X11_signAt fu x1 x6)) t 3).toNatClampNeg ((wi s (t + 4) (s t 3).toNatClampNeg (f_X11_signAt fu x1 x6)) t 0)) (t + 6) ((wi (wi s (t + 4) (s t 3).toNatClampNeg (f_X11_signAt fu x1 x6)) (t + 5) ((wi s (t + 4) (s t 3).toNatClampNeg (f_X11_signAt fu x1 x6)) t 3).toNatClampNeg ((wi s (t + 4) (s t 3).toNatClampNeg (f_X11_signAt fu x1 x6)) t 0)) t 3).toNatClampNeg (((10 : Int32) * x4) + ((x3 + x6) - (x3 + x6) / (10 : Int32) * (10 : Int32)))) t 3 (((wi (wi (wi s (t + 4) (s t 3).toNatClampNeg (f_X11_signAt fu x1 x6)) (t + 5) ((wi s (t + 4) (s t 3).toNatClampNeg (f_X11_signAt fu x1 x6)) t 3).toNatClampNeg ((wi s (t + 4) (s t 3).toNatClampNeg (f_X11_signAt fu x1 x6)) t 0)) (t + 6) ((wi (wi s (t + 4) (s t 3).toNatClampNeg (f_X11_signAt fu x1 x6)) (t + 5) ((wi s (t + 4) (s t 3).toNatClampNeg (f_X11_signAt fu x1 x6)) t 3).toNatClampNeg ((wi s (t + 4) (s t 3).toNatClampNeg (f_X11_signAt fu x1 x6)) t 0)) t 3).toNatClampNeg (((10 : Int32) * x4) + ((x3 + x6) - (x3 + x6) / (10 : Int32) * (10 : Int32)))) t 3) + (1 : Int32))) l))))))

set_option maxRecDepth 100000 in
set_option maxHeartbeats 1000000 in
theorem lp_X5_addLetter_25 {G : ab_G} {fu : Nat} {d : Nat} {D : fl_D} {t : Nat} (htt : isT t) : ∀ (n : Nat) (x1 : Int64) (x3 : Int32) (x4 : Int32) (x5 : Int32) (x6 : Int32) (s : fl_I) (l : fl_L), p_X5_addLetter_25 fu n x1 x3 x4 x5 x6 t s l → ab_C G (d + 2) 0 0 M_X5_addLetter 25 [some (.ref t), some (.long x1), none, some (.int x3), some (.int x4), some (.int x5), some (.int x6)] [] (hp D s l) (rt none (hp D (f_X5_addLetter_25 fu n x1 x3 x4 x5 x6 t s l).1 (f_X5_addLetter_25 fu n x1 x3 x4 x5 x6 t s l).2)) := by
  intro n
  induction n with
  | zero => intro x1 x3 x4 x5 x6 s l hk; exact hk.elim
  | succ n ih =>
    intro x1 x3 x4 x5 x6 s l hk
    generalize he : f_X5_addLetter_25 fu (n + 1) x1 x3 x4 x5 x6 t s l = res
    unfold f_X5_addLetter_25 at he
    unfold p_X5_addLetter_25 at hk
    refine r_iload rfl rfl ?_
    refine r_iload rfl rfl ?_
    refine r_icmp_ge rfl (fun c_29 => ?_) (fun c_29 => ?_)
    · rw [if_pos c_29] at he
      replace hk := hk.1 c_29
      refine r_aload_n rfl rfl ?_
      refine q_getfield rfl (cT_0 htt) rfl ?_
      refine r_aload_n rfl rfl ?_
      refine q_getfield rfl (cT_0 htt) rfl ?_
      refine r_lload_n rfl rfl ?_
      obtain ⟨hb1, hk⟩ := hk
      refine w_last rfl (cT_1 htt) hb1 ?_
      refine r_aload_n rfl rfl ?_
      refine r_dup rfl rfl ?_
      refine q_getfield rfl (cT_0 htt) rfl ?_
      refine r_iconst_ (a := 1) rfl (by decide) ?_
      refine r_iadd rfl ?_
      refine w_put rfl (cT_0 htt) ff_5_0 ft_5_0 (fun _ _ => (Nat.le_of_ble_eq_true rfl)) (fun _ _ => rfl) ?_
      refine r_ret rfl rfl ?_
      first | with_reducible exact fin_v he | exact fin_v he
    · rw [if_neg c_29] at he
      replace hk := hk.2 c_29
      refine r_aload_n rfl rfl ?_
      refine q_getfield rfl (cT_0 htt) rfl ?_
      refine r_if_lt rfl (fun c_36 => ?_) (fun c_36 => ?_)
      · rw [if_pos c_36] at he
        replace hk := hk.1 c_36
        refine r_aload_n rfl rfl ?_
        refine q_getfield rfl (cT_0 htt) rfl ?_
        refine r_aload_n rfl rfl ?_
        refine q_getfield rfl (cT_0 htt) rfl ?_
        refine r_lload_n rfl rfl ?_
        obtain ⟨hb2, hk⟩ := hk
        refine w_last rfl (cT_1 htt) hb2 ?_
        refine r_aload_n rfl rfl ?_
        refine r_dup rfl rfl ?_
        refine q_getfield rfl (cT_0 htt) rfl ?_
        refine r_iconst_ (a := 1) rfl (by decide) ?_
        refine r_iadd rfl ?_
        refine w_put rfl (cT_0 htt) ff_5_0 ft_5_0 (fun _ _ => (Nat.le_of_ble_eq_true rfl)) (fun _ _ => rfl) ?_
        refine r_ret rfl rfl ?_
        first | with_reducible exact fin_v he | exact fin_v he
      · rw [if_neg c_36] at he
        replace hk := hk.2 c_36
        refine r_aload_n rfl rfl ?_
        refine q_getfield rfl (cT_0 htt) rfl ?_
        refine r_bipush_ (a := 32) rfl (by decide) ?_
        refine r_icmp_ge rfl (fun c_45 => ?_) (fun c_45 => ?_)
        · rw [if_pos c_45] at he
          replace hk := hk.1 c_45
          refine r_aload_n rfl rfl ?_
          refine q_getfield rfl (cT_0 htt) rfl ?_
          refine r_aload_n rfl rfl ?_
          refine q_getfield rfl (cT_0 htt) rfl ?_
          refine r_lload_n rfl rfl ?_
          obtain ⟨hb3, hk⟩ := hk
          refine w_last rfl (cT_1 htt) hb3 ?_
          refine r_aload_n rfl rfl ?_
          refine r_dup rfl rfl ?_
          refine q_getfield rfl (cT_0 htt) rfl ?_
          refine r_iconst_ (a := 1) rfl (by decide) ?_
          refine r_iadd rfl ?_
          refine w_put rfl (cT_0 htt) ff_5_0 ft_5_0 (fun _ _ => (Nat.le_of_ble_eq_true rfl)) (fun _ _ => rfl) ?_
          refine r_ret rfl rfl ?_
          first | with_reducible exact fin_v he | exact fin_v he
        · rw [if_neg c_45] at he
          replace hk := hk.2 c_45
          refine r_aload_n rfl rfl ?_
          refine q_getfield rfl (cT_0 htt) rfl ?_
          refine r_aload_n rfl rfl ?_
          refine q_getfield rfl (cT_0 htt) rfl ?_
          refine r_lload_n rfl rfl ?_
          refine r_iload rfl rfl ?_
          obtain ⟨hb4, hk⟩ := hk
          refine r_callSN0 [_, _] _ rfl kY_X11_signAt kT_X11_signAt rfl rfl (Nat.le_of_ble_eq_true rfl) (Nat.le_of_ble_eq_true rfl) (s_X11_signAt hb4) (fun r h q => ?_)
          obtain ⟨rfl, rfl⟩ := q
          simp only [Option.toList, List.cons_append, List.nil_append]
          obtain ⟨hb5, hk⟩ := hk
          refine w_iast rfl (cT_4 htt) hb5 ?_
          refine r_aload_n rfl rfl ?_
          refine q_getfield rfl (cT_0 htt) rfl ?_
          refine r_aload_n rfl rfl ?_
          refine q_getfield rfl (cT_0 htt) rfl ?_
          refine r_aload_n rfl rfl ?_
          refine q_getfield rfl (cT_0 htt) rfl ?_
          obtain ⟨hb6, hk⟩ := hk
          refine w_iast rfl (cT_5 htt) hb6 ?_
          refine r_aload_n rfl rfl ?_
          refine q_getfield rfl (cT_0 htt) rfl ?_
          refine r_aload_n rfl rfl ?_
          refine q_getfield rfl (cT_0 htt) rfl ?_
          refine r_bipush_ (a := 10) rfl (by decide) ?_
          refine r_iload rfl rfl ?_
          refine r_imul rfl ?_
          refine r_iload_n rfl rfl ?_
          refine r_iload rfl rfl ?_
          refine r_iadd rfl ?_
          refine r_bipush_ (a := 10) rfl (by decide) ?_
          refine r_irem rfl (by decide) ?_
          refine r_iadd rfl ?_
          obtain ⟨hb7, hk⟩ := hk
          refine w_iast rfl (cT_6 htt) hb7 ?_
          refine r_aload_n rfl rfl ?_
          refine r_dup rfl rfl ?_
          refine q_getfield rfl (cT_0 htt) rfl ?_
          refine r_iconst_ (a := 1) rfl (by decide) ?_
          refine r_iadd rfl ?_
          refine w_put rfl (cT_0 htt) ff_5_3 ft_5_3 (fun _ _ => (Nat.le_of_ble_eq_true rfl)) (fun _ _ => rfl) ?_
          refine r_iinc (b := x6 + 1) rfl rfl rfl (Nat.le_of_ble_eq_true rfl) rfl ?_
          refine r_goto rfl ?_
          subst he
          exact r_weak (L1 := [some (.ref t), some (.long x1), none, some (.int x3), some (.int x4), some (.int x5), some (.int (x6 + 1))]) ⟨rfl, rfl, rfl, rfl, rfl, rfl, trivial⟩ (ih _ _ _ _ _ _ _ hk)

def f_X5_addLetter (fu : Nat) (v0 : Int64) (v1 : Int32) (v2 : Int32) (t : Nat) (s : fl_I) (l : fl_L) : fl_I × fl_L :=
  if ((s t 0) < 0) then (s, l) else if ((s t 0) < (4 : Int32)) then f_X5_addLetter_25 fu fu v0 v1 v2 (f_X11_nameLength fu v0) (0 : Int32) t s l else (s, l)

def p_X5_addLetter (fu : Nat) (v0 : Int64) (v1 : Int32) (v2 : Int32) (t : Nat) (s : fl_I) (l : fl_L) : Prop :=
  ((((s t 0) < 0) → True) ∧ (¬ ((s t 0) < 0) → ((((s t 0) < (4 : Int32)) → (p_X11_nameLength fu v0) ∧ p_X5_addLetter_25 fu fu v0 v1 v2 (f_X11_nameLength fu v0) (0 : Int32) t s l) ∧ (¬ ((s t 0) < (4 : Int32)) → True))))

set_option maxRecDepth 100000 in
set_option maxHeartbeats 1000000 in
theorem s_X5_addLetter {G : ab_G} {fu : Nat} {d : Nat} {D : fl_D} {s : fl_I} {l : fl_L} {t : Nat} (htt : isT t) {v0 : Int64} {v1 : Int32} {v2 : Int32} (hk : p_X5_addLetter fu v0 v1 v2 t s l) : ab_C G (d + 2) 0 0 M_X5_addLetter 0 (ab_ent [.ref t, .long v0, .int v1, .int v2]) [] (hp D s l) (rt none (hp D (f_X5_addLetter fu v0 v1 v2 t s l).1 (f_X5_addLetter fu v0 v1 v2 t s l).2)) := by
  generalize he : (f_X5_addLetter fu v0 v1 v2 t s l) = res
  unfold f_X5_addLetter at he
  unfold p_X5_addLetter at hk
  refine r_weak (L1 := [some (.ref t), some (.long v0), none, some (.int v1), some (.int v2), none, none]) ⟨rfl, rfl, rfl, rfl, trivial⟩ ?_
  refine r_aload_n rfl rfl ?_
  refine q_getfield rfl (cT_0 htt) rfl ?_
  refine r_if_lt rfl (fun c_4 => ?_) (fun c_4 => ?_)
  · rw [if_pos c_4] at he
    replace hk := hk.1 c_4
    refine r_ret rfl rfl ?_
    first | with_reducible exact fin_v he | exact fin_v he
  · rw [if_neg c_4] at he
    replace hk := hk.2 c_4
    refine r_aload_n rfl rfl ?_
    refine q_getfield rfl (cT_0 htt) rfl ?_
    refine r_iconst_ (a := 4) rfl (by decide) ?_
    refine r_icmp_lt rfl (fun c_12 => ?_) (fun c_12 => ?_)
    · rw [if_pos c_12] at he
      replace hk := hk.1 c_12
      refine r_lload_n rfl rfl ?_
      obtain ⟨hb0, hk⟩ := hk
      refine r_callSN0 [_] _ rfl kY_X11_nameLength kT_X11_nameLength rfl rfl (Nat.le_of_ble_eq_true rfl) (Nat.le_of_ble_eq_true rfl) (s_X11_nameLength hb0) (fun r h q => ?_)
      obtain ⟨rfl, rfl⟩ := q
      simp only [Option.toList, List.cons_append, List.nil_append]
      refine r_istore rfl (Nat.le_of_ble_eq_true rfl) rfl ?_
      refine r_iconst_ (a := 0) rfl (by decide) ?_
      refine r_istore rfl (Nat.le_of_ble_eq_true rfl) rfl ?_
      subst he
      exact r_weak (L1 := [some (.ref t), some (.long v0), none, some (.int v1), some (.int v2), some (.int (f_X11_nameLength fu v0)), some (.int (0 : Int32))]) ⟨rfl, rfl, rfl, rfl, rfl, rfl, trivial⟩ (lp_X5_addLetter_25 htt fu _ _ _ _ _ _ _ hk)
    · rw [if_neg c_12] at he
      replace hk := hk.2 c_12
      refine r_ret rfl rfl ?_
      first | with_reducible exact fin_v he | exact fin_v he

def f_X6_split_133 (fu : Nat) (s : fl_I) (l : fl_L) : fl_I × fl_L :=
    (s, l)

def p_X6_split_133 (fu : Nat) (s : fl_I) (l : fl_L) : Prop :=
    True

set_option maxRecDepth 100000 in
set_option maxHeartbeats 1000000 in
theorem lp_X6_split_133 {G : ab_G} {fu : Nat} {d : Nat} {D : fl_D} : ∀ (s : fl_I) (l : fl_L), p_X6_split_133 fu  s l → ab_C G (d + 3) 0 0 M_X6_split 133 [none, none, none, none] [] (hp D s l) (rt none (hp D (f_X6_split_133 fu  s l).1 (f_X6_split_133 fu  s l).2)) := by
  intro  s l hk
  generalize he : f_X6_split_133 fu  s l = res
  unfold f_X6_split_133 at he
  unfold p_X6_split_133 at hk
  refine r_ret rfl rfl ?_
  first | with_reducible exact fin_v he | exact fin_v he

def f_X6_split_125 (fu : Nat) (K9 : Int32 → Int32 → fl_I → fl_L → fl_I × fl_L) (x3 : Int32) (s : fl_I) (l : fl_L) : fl_I × fl_L :=
    K9 (0 : Int32) (x3 + 1) s l

def p_X6_split_125 (fu : Nat) (P9 : Int32 → Int32 → fl_I → fl_L → Prop) (x3 : Int32) (s : fl_I) (l : fl_L) : Prop :=
    P9 (0 : Int32) (x3 + 1) s l

set_option maxRecDepth 100000 in
set_option maxHeartbeats 1000000 in
theorem lp_X6_split_125 {G : ab_G} {fu : Nat} {d : Nat} {D : fl_D} (K9 : Int32 → Int32 → fl_I → fl_L → fl_I × fl_L) (P9 : Int32 → Int32 → fl_I → fl_L → Prop) (hK9 : ∀ (x2 : Int32) (x3 : Int32) (s : fl_I) (l : fl_L), P9 x2 x3 s l → ab_C G (d + 3) 0 0 M_X6_split 9 [some (.ref 4), some (.ref 1), some (.int x2), some (.int x3)] [] (hp D s l) (rt none (hp D (K9 x2 x3 s l).1 (K9 x2 x3 s l).2))) : ∀ (x3 : Int32) (s : fl_I) (l : fl_L), p_X6_split_125 fu P9 x3 s l → ab_C G (d + 3) 0 0 M_X6_split 125 [some (.ref 4), some (.ref 1), none, some (.int x3)] [] (hp D s l) (rt none (hp D (f_X6_split_125 fu K9 x3 s l).1 (f_X6_split_125 fu K9 x3 s l).2)) := by
  intro x3 s l hk
  generalize he : f_X6_split_125 fu K9 x3 s l = res
  unfold f_X6_split_125 at he
  unfold p_X6_split_125 at hk
  refine r_iconst_ (a := 0) rfl (by decide) ?_
  refine r_istore_n rfl (Nat.le_of_ble_eq_true rfl) rfl ?_
  refine r_iinc (b := x3 + 1) rfl rfl rfl (Nat.le_of_ble_eq_true rfl) rfl ?_
  refine r_goto rfl ?_
  subst he
  exact r_weak (L1 := [some (.ref 4), some (.ref 1), some (.int (0 : Int32)), some (.int (x3 + 1))]) ⟨rfl, rfl, rfl, rfl, trivial⟩ (hK9 _ _ _ _ hk)

def f_X6_split_101 (fu : Nat) (K9 : Int32 → Int32 → fl_I → fl_L → fl_I × fl_L) (x3 : Int32) (y1 : Int32) (y2 : Int32) (s : fl_I) (l : fl_L) : fl_I × fl_L :=
    if (((wi s 5 y1.toNatClampNeg y2) 5 x3.toNatClampNeg) = 0) then f_X6_split_125 fu K9 x3 (wi s 5 y1.toNatClampNeg y2) l else if (((wi s 5 y1.toNatClampNeg y2) 5 x3.toNatClampNeg) = (1 : Int32)) then f_X6_split_125 fu K9 x3 (wi s 5 y1.toNatClampNeg y2) l else K9 (1 : Int32) (x3 + 1) (wi s 5 y1.toNatClampNeg y2) l

def p_X6_split_101 (fu : Nat) (P9 : Int32 → Int32 → fl_I → fl_L → Prop) (x3 : Int32) (y1 : Int32) (y2 : Int32) (s : fl_I) (l : fl_L) : Prop :=
    (vp_in y1 401) ∧ (vp_in x3 401) ∧ (((((wi s 5 y1.toNatClampNeg y2) 5 x3.toNatClampNeg) = 0) → p_X6_split_125 fu P9 x3 (wi s 5 y1.toNatClampNeg y2) l) ∧ (¬ (((wi s 5 y1.toNatClampNeg y2) 5 x3.toNatClampNeg) = 0) → (vp_in x3 401) ∧ (((((wi s 5 y1.toNatClampNeg y2) 5 x3.toNatClampNeg) = (1 : Int32)) → p_X6_split_125 fu P9 x3 (wi s 5 y1.toNatClampNeg y2) l) ∧ (¬ (((wi s 5 y1.toNatClampNeg y2) 5 x3.toNatClampNeg) = (1 : Int32)) → P9 (1 : Int32) (x3 + 1) (wi s 5 y1.toNatClampNeg y2) l))))

set_option maxRecDepth 100000 in
set_option maxHeartbeats 1000000 in
theorem lp_X6_split_101 {G : ab_G} {fu : Nat} {d : Nat} {D : fl_D} (K9 : Int32 → Int32 → fl_I → fl_L → fl_I × fl_L) (P9 : Int32 → Int32 → fl_I → fl_L → Prop) (hK9 : ∀ (x2 : Int32) (x3 : Int32) (s : fl_I) (l : fl_L), P9 x2 x3 s l → ab_C G (d + 3) 0 0 M_X6_split 9 [some (.ref 4), some (.ref 1), some (.int x2), some (.int x3)] [] (hp D s l) (rt none (hp D (K9 x2 x3 s l).1 (K9 x2 x3 s l).2))) : ∀ (x3 : Int32) (y1 : Int32) (y2 : Int32) (s : fl_I) (l : fl_L), p_X6_split_101 fu P9 x3 y1 y2 s l → ab_C G (d + 3) 0 0 M_X6_split 101 [some (.ref 4), some (.ref 1), none, some (.int x3)] [.int y2, .int y1, .ref 5] (hp D s l) (rt none (hp D (f_X6_split_101 fu K9 x3 y1 y2 s l).1 (f_X6_split_101 fu K9 x3 y1 y2 s l).2)) := by
  intro x3 y1 y2 s l hk
  generalize he : f_X6_split_101 fu K9 x3 y1 y2 s l = res
  unfold f_X6_split_101 at he
  unfold p_X6_split_101 at hk
  obtain ⟨hb3, hk⟩ := hk
  refine w_iast rfl (cc_5 _) hb3 ?_
  refine r_aload_n rfl rfl ?_
  refine q_getfield rfl (cc_4 _) rfl ?_
  refine r_iload_n rfl rfl ?_
  obtain ⟨hb4, hk⟩ := hk
  refine q_iald rfl (cc_5 _) hb4 ?_
  refine r_if_eq rfl (fun c_108 => ?_) (fun c_108 => ?_)
  · rw [if_pos c_108] at he
    replace hk := hk.1 c_108
    subst he
    exact r_weak (L1 := [some (.ref 4), some (.ref 1), none, some (.int x3)]) ⟨rfl, rfl, rfl, trivial⟩ (lp_X6_split_125 _ _ hK9 _ _ _ hk)
  · rw [if_neg c_108] at he
    replace hk := hk.2 c_108
    refine r_aload_n rfl rfl ?_
    refine q_getfield rfl (cc_4 _) rfl ?_
    refine r_iload_n rfl rfl ?_
    obtain ⟨hb5, hk⟩ := hk
    refine q_iald rfl (cc_5 _) hb5 ?_
    refine r_iconst_ (a := 1) rfl (by decide) ?_
    refine r_icmp_eq rfl (fun c_118 => ?_) (fun c_118 => ?_)
    · rw [if_pos c_118] at he
      replace hk := hk.1 c_118
      subst he
      exact r_weak (L1 := [some (.ref 4), some (.ref 1), none, some (.int x3)]) ⟨rfl, rfl, rfl, trivial⟩ (lp_X6_split_125 _ _ hK9 _ _ _ hk)
    · rw [if_neg c_118] at he
      replace hk := hk.2 c_118
      refine r_iconst_ (a := 1) rfl (by decide) ?_
      refine r_goto rfl ?_
      refine r_istore_n rfl (Nat.le_of_ble_eq_true rfl) rfl ?_
      refine r_iinc (b := x3 + 1) rfl rfl rfl (Nat.le_of_ble_eq_true rfl) rfl ?_
      refine r_goto rfl ?_
      subst he
      exact r_weak (L1 := [some (.ref 4), some (.ref 1), some (.int (1 : Int32)), some (.int (x3 + 1))]) ⟨rfl, rfl, rfl, rfl, trivial⟩ (hK9 _ _ _ _ hk)

def f_X6_split_58 (fu : Nat) (K9 : Int32 → Int32 → fl_I → fl_L → fl_I × fl_L) (x3 : Int32) (s : fl_I) (l : fl_L) : fl_I × fl_L :=
    if (((wi s 6 x3.toNatClampNeg (s 4 4)) 4 4) < ((wi s 6 x3.toNatClampNeg (s 4 4)) 1 1)) then f_X6_split_101 fu K9 x3 x3 (f_X6_kindFrom fu x3 (wi s 6 x3.toNatClampNeg (s 4 4)) (wl l 7 x3.toNatClampNeg (0 : Int64))).1 (f_X6_kindFrom fu x3 (wi s 6 x3.toNatClampNeg (s 4 4)) (wl l 7 x3.toNatClampNeg (0 : Int64))).2.1 (f_X6_kindFrom fu x3 (wi s 6 x3.toNatClampNeg (s 4 4)) (wl l 7 x3.toNatClampNeg (0 : Int64))).2.2 else f_X6_split_101 fu K9 x3 x3 (0 : Int32) (wi s 6 x3.toNatClampNeg (s 4 4)) (wl l 7 x3.toNatClampNeg (0 : Int64))

def p_X6_split_58 (fu : Nat) (P9 : Int32 → Int32 → fl_I → fl_L → Prop) (x3 : Int32) (s : fl_I) (l : fl_L) : Prop :=
    (vp_in x3 401) ∧ (vp_in x3 401) ∧ (((((wi s 6 x3.toNatClampNeg (s 4 4)) 4 4) < ((wi s 6 x3.toNatClampNeg (s 4 4)) 1 1)) → (p_X6_kindFrom fu x3 (wi s 6 x3.toNatClampNeg (s 4 4)) (wl l 7 x3.toNatClampNeg (0 : Int64))) ∧ p_X6_split_101 fu P9 x3 x3 (f_X6_kindFrom fu x3 (wi s 6 x3.toNatClampNeg (s 4 4)) (wl l 7 x3.toNatClampNeg (0 : Int64))).1 (f_X6_kindFrom fu x3 (wi s 6 x3.toNatClampNeg (s 4 4)) (wl l 7 x3.toNatClampNeg (0 : Int64))).2.1 (f_X6_kindFrom fu x3 (wi s 6 x3.toNatClampNeg (s 4 4)) (wl l 7 x3.toNatClampNeg (0 : Int64))).2.2) ∧ (¬ (((wi s 6 x3.toNatClampNeg (s 4 4)) 4 4) < ((wi s 6 x3.toNatClampNeg (s 4 4)) 1 1)) → p_X6_split_101 fu P9 x3 x3 (0 : Int32) (wi s 6 x3.toNatClampNeg (s 4 4)) (wl l 7 x3.toNatClampNeg (0 : Int64))))

set_option maxRecDepth 100000 in
set_option maxHeartbeats 1000000 in
theorem lp_X6_split_58 {G : ab_G} {fu : Nat} {d : Nat} {D : fl_D} (K9 : Int32 → Int32 → fl_I → fl_L → fl_I × fl_L) (P9 : Int32 → Int32 → fl_I → fl_L → Prop) (hK9 : ∀ (x2 : Int32) (x3 : Int32) (s : fl_I) (l : fl_L), P9 x2 x3 s l → ab_C G (d + 3) 0 0 M_X6_split 9 [some (.ref 4), some (.ref 1), some (.int x2), some (.int x3)] [] (hp D s l) (rt none (hp D (K9 x2 x3 s l).1 (K9 x2 x3 s l).2))) : ∀ (x3 : Int32) (s : fl_I) (l : fl_L), p_X6_split_58 fu P9 x3 s l → ab_C G (d + 3) 0 0 M_X6_split 58 [some (.ref 4), some (.ref 1), none, some (.int x3)] [] (hp D s l) (rt none (hp D (f_X6_split_58 fu K9 x3 s l).1 (f_X6_split_58 fu K9 x3 s l).2)) := by
  intro x3 s l hk
  generalize he : f_X6_split_58 fu K9 x3 s l = res
  unfold f_X6_split_58 at he
  unfold p_X6_split_58 at hk
  refine r_aload_n rfl rfl ?_
  refine q_getfield rfl (cc_4 _) rfl ?_
  refine r_iload_n rfl rfl ?_
  refine r_aload_n rfl rfl ?_
  refine q_getfield rfl (cc_4 _) rfl ?_
  obtain ⟨hb0, hk⟩ := hk
  refine w_iast rfl (cc_6 _) hb0 ?_
  refine r_aload_n rfl rfl ?_
  refine q_getfield rfl (cc_4 _) rfl ?_
  refine r_iload_n rfl rfl ?_
  refine r_lconst (a := 0) rfl (by decide) ?_
  obtain ⟨hb1, hk⟩ := hk
  refine w_last rfl (cc_7 _) hb1 ?_
  refine r_aload_n rfl rfl ?_
  refine q_getfield rfl (cc_4 _) rfl ?_
  refine r_iload_n rfl rfl ?_
  refine r_aload_n rfl rfl ?_
  refine q_getfield rfl (cc_4 _) rfl ?_
  refine r_aload_n rfl rfl ?_
  refine q_getfield rfl (cc_1 _) rfl ?_
  refine r_icmp_lt rfl (fun c_88 => ?_) (fun c_88 => ?_)
  · rw [if_pos c_88] at he
    replace hk := hk.1 c_88
    refine r_aload_n rfl rfl ?_
    refine r_aload_n rfl rfl ?_
    refine r_iload_n rfl rfl ?_
    obtain ⟨hb2, hk⟩ := hk
    refine q_callV0 [_, _] _ rfl kY_X6_kindFrom kT_X6_kindFrom rfl rfl (Nat.le_of_ble_eq_true rfl) (Nat.le_of_ble_eq_true rfl) (cc_4 _) (s_X6_kindFrom hb2) (fun r h q => ?_)
    obtain ⟨rfl, rfl⟩ := q
    simp only [Option.toList, List.cons_append, List.nil_append]
    subst he
    exact r_weak (L1 := [some (.ref 4), some (.ref 1), none, some (.int x3)]) ⟨rfl, rfl, rfl, trivial⟩ (lp_X6_split_101 _ _ hK9 _ _ _ _ _ hk)
  · rw [if_neg c_88] at he
    replace hk := hk.2 c_88
    refine r_iconst_ (a := 0) rfl (by decide) ?_
    refine r_goto rfl ?_
    subst he
    exact r_weak (L1 := [some (.ref 4), some (.ref 1), none, some (.int x3)]) ⟨rfl, rfl, rfl, trivial⟩ (lp_X6_split_101 _ _ hK9 _ _ _ _ _ hk)

def f_X6_split_20 (fu : Nat) (K9 : Int32 → Int32 → fl_I → fl_L → fl_I × fl_L) : Nat → Int32 → fl_I → fl_L → fl_I × fl_L
  | 0, x3, s, l => (s, l)
  | n + 1, x3, s, l =>
    if ((s 1 1) ≤ (s 4 4)) then f_X6_split_58 fu K9 x3 s l else if ((f_X6_isBlank fu (f_X4_byteAt fu (s 4 4) s l)) = 0) then f_X6_split_58 fu K9 x3 s l else f_X6_split_20 fu K9 n x3 (wi s 4 4 ((s 4 4) + (1 : Int32))) l

def p_X6_split_20 (fu : Nat) (P9 : Int32 → Int32 → fl_I → fl_L → Prop) : Nat → Int32 → fl_I → fl_L → Prop
  | 0, _, _, _ => False
  | n + 1, x3, s, l =>
    ((((s 1 1) ≤ (s 4 4)) → p_X6_split_58 fu P9 x3 s l) ∧ (¬ ((s 1 1) ≤ (s 4 4)) → (p_X4_byteAt fu (s 4 4) s l) ∧ (p_X6_isBlank fu (f_X4_byteAt fu (s 4 4) s l)) ∧ ((((f_X6_isBlank fu (f_X4_byteAt fu (s 4 4) s l)) = 0) → p_X6_split_58 fu P9 x3 s l) ∧ (¬ ((f_X6_isBlank fu (f_X4_byteAt fu (s 4 4) s l)) = 0) → p_X6_split_20 fu P9 n x3 (wi s 4 4 ((s 4 4) + (1 : Int32))) l))))

set_option maxRecDepth 100000 in
set_option maxHeartbeats 1000000 in
theorem lp_X6_split_20 {G : ab_G} {fu : Nat} {d : Nat} {D : fl_D} (K9 : Int32 → Int32 → fl_I → fl_L → fl_I × fl_L) (P9 : Int32 → Int32 → fl_I → fl_L → Prop) (hK9 : ∀ (x2 : Int32) (x3 : Int32) (s : fl_I) (l : fl_L), P9 x2 x3 s l → ab_C G (d + 3) 0 0 M_X6_split 9 [some (.ref 4), some (.ref 1), some (.int x2), some (.int x3)] [] (hp D s l) (rt none (hp D (K9 x2 x3 s l).1 (K9 x2 x3 s l).2))) : ∀ (n : Nat) (x3 : Int32) (s : fl_I) (l : fl_L), p_X6_split_20 fu P9 n x3 s l → ab_C G (d + 3) 0 0 M_X6_split 20 [some (.ref 4), some (.ref 1), none, some (.int x3)] [] (hp D s l) (rt none (hp D (f_X6_split_20 fu K9 n x3 s l).1 (f_X6_split_20 fu K9 n x3 s l).2)) := by
  intro n
  induction n with
  | zero => intro x3 s l hk; exact hk.elim
  | succ n ih =>
    intro x3 s l hk
    generalize he : f_X6_split_20 fu K9 (n + 1) x3 s l = res
    unfold f_X6_split_20 at he
    unfold p_X6_split_20 at hk
    refine r_aload_n rfl rfl ?_
    refine q_getfield rfl (cc_4 _) rfl ?_
    refine r_aload_n rfl rfl ?_
    refine q_getfield rfl (cc_1 _) rfl ?_
    refine r_icmp_ge rfl (fun c_28 => ?_) (fun c_28 => ?_)
    · rw [if_pos c_28] at he
      replace hk := hk.1 c_28
      subst he
      exact r_weak (L1 := [some (.ref 4), some (.ref 1), none, some (.int x3)]) ⟨rfl, rfl, rfl, trivial⟩ (lp_X6_split_58 _ _ hK9 _ _ _ hk)
    · rw [if_neg c_28] at he
      replace hk := hk.2 c_28
      refine r_aload_n rfl rfl ?_
      refine r_aload_n rfl rfl ?_
      refine q_getfield rfl (cc_4 _) rfl ?_
      obtain ⟨hb6, hk⟩ := hk
      refine q_callV0 [_] _ rfl kY_X4_byteAt kT_X4_byteAt rfl rfl (Nat.le_of_ble_eq_true rfl) (Nat.le_of_ble_eq_true rfl) (cc_1 _) (s_X4_byteAt hb6) (fun r h q => ?_)
      obtain ⟨rfl, rfl⟩ := q
      simp only [Option.toList, List.cons_append, List.nil_append]
      obtain ⟨hb7, hk⟩ := hk
      refine r_callS0 [_] _ rfl kY_X6_isBlank kT_X6_isBlank rfl rfl (Nat.le_of_ble_eq_true rfl) (Nat.le_of_ble_eq_true rfl) (s_X6_isBlank hb7) (fun r h q => ?_)
      obtain ⟨rfl, rfl⟩ := q
      simp only [Option.toList, List.cons_append, List.nil_append]
      refine r_if_eq rfl (fun c_42 => ?_) (fun c_42 => ?_)
      · rw [if_pos c_42] at he
        replace hk := hk.1 c_42
        subst he
        exact r_weak (L1 := [some (.ref 4), some (.ref 1), none, some (.int x3)]) ⟨rfl, rfl, rfl, trivial⟩ (lp_X6_split_58 _ _ hK9 _ _ _ hk)
      · rw [if_neg c_42] at he
        replace hk := hk.2 c_42
        refine r_aload_n rfl rfl ?_
        refine r_dup rfl rfl ?_
        refine q_getfield rfl (cc_4 _) rfl ?_
        refine r_iconst_ (a := 1) rfl (by decide) ?_
        refine r_iadd rfl ?_
        refine w_put rfl (cc_4 _) ff_6_4 ft_6_4 (fun _ _ => (Nat.le_of_ble_eq_true rfl)) (fun _ _ => rfl) ?_
        refine r_goto rfl ?_
        subst he
        exact r_weak (L1 := [some (.ref 4), some (.ref 1), none, some (.int x3)]) ⟨rfl, rfl, rfl, trivial⟩ (ih _ _ _ hk)

def f_X6_split_9 (fu : Nat) : Nat → Int32 → Int32 → fl_I → fl_L → fl_I × fl_L
  | 0, x2, x3, s, l => (s, l)
  | n + 1, x2, x3, s, l =>
    if ((400 : Int32) < x3) then f_X6_split_133 fu  s l else if (x2 = 0) then f_X6_split_133 fu  s l else f_X6_split_20 fu (fun x2 x3 s l => f_X6_split_9 fu n x2 x3 s l) fu x3 s l

def p_X6_split_9 (fu : Nat) : Nat → Int32 → Int32 → fl_I → fl_L → Prop
  | 0, _, _, _, _ => False
  | n + 1, x2, x3, s, l =>
    ((((400 : Int32) < x3) → p_X6_split_133 fu  s l) ∧ (¬ ((400 : Int32) < x3) → (((x2 = 0) → p_X6_split_133 fu  s l) ∧ (¬ (x2 = 0) → p_X6_split_20 fu (fun x2 x3 s l => p_X6_split_9 fu n x2 x3 s l) fu x3 s l))))

set_option maxRecDepth 100000 in
set_option maxHeartbeats 1000000 in
theorem lp_X6_split_9 {G : ab_G} {fu : Nat} {d : Nat} {D : fl_D} : ∀ (n : Nat) (x2 : Int32) (x3 : Int32) (s : fl_I) (l : fl_L), p_X6_split_9 fu n x2 x3 s l → ab_C G (d + 3) 0 0 M_X6_split 9 [some (.ref 4), some (.ref 1), some (.int x2), some (.int x3)] [] (hp D s l) (rt none (hp D (f_X6_split_9 fu n x2 x3 s l).1 (f_X6_split_9 fu n x2 x3 s l).2)) := by
  intro n
  induction n with
  | zero => intro x2 x3 s l hk; exact hk.elim
  | succ n ih =>
    intro x2 x3 s l hk
    generalize he : f_X6_split_9 fu (n + 1) x2 x3 s l = res
    unfold f_X6_split_9 at he
    unfold p_X6_split_9 at hk
    refine r_iload_n rfl rfl ?_
    refine r_sipush_ (a := 400) rfl (by decide) ?_
    refine r_icmp_gt rfl (fun c_13 => ?_) (fun c_13 => ?_)
    · rw [if_pos c_13] at he
      replace hk := hk.1 c_13
      subst he
      exact r_weak (L1 := [none, none, none, none]) trivial (lp_X6_split_133 _ _ hk)
    · rw [if_neg c_13] at he
      replace hk := hk.2 c_13
      refine r_iload_n rfl rfl ?_
      refine r_if_eq rfl (fun c_17 => ?_) (fun c_17 => ?_)
      · rw [if_pos c_17] at he
        replace hk := hk.1 c_17
        subst he
        exact r_weak (L1 := [none, none, none, none]) trivial (lp_X6_split_133 _ _ hk)
      · rw [if_neg c_17] at he
        replace hk := hk.2 c_17
        subst he
        exact r_weak (L1 := [some (.ref 4), some (.ref 1), none, some (.int x3)]) ⟨rfl, rfl, rfl, trivial⟩ (lp_X6_split_20 _ _ (fun _ _ _ _ h9 => ih _ _ _ _ h9) fu _ _ _ hk)

def f_X6_split (fu : Nat) (s : fl_I) (l : fl_L) : fl_I × fl_L :=
  f_X6_split_9 fu fu (1 : Int32) (0 : Int32) (wi s 4 4 (0 : Int32)) l

def p_X6_split (fu : Nat) (s : fl_I) (l : fl_L) : Prop :=
  p_X6_split_9 fu fu (1 : Int32) (0 : Int32) (wi s 4 4 (0 : Int32)) l

set_option maxRecDepth 100000 in
set_option maxHeartbeats 1000000 in
theorem s_X6_split {G : ab_G} {fu : Nat} {d : Nat} {D : fl_D} {s : fl_I} {l : fl_L}  (hk : p_X6_split fu s l) : ab_C G (d + 3) 0 0 M_X6_split 0 (ab_ent [.ref 4, .ref 1]) [] (hp D s l) (rt none (hp D (f_X6_split fu s l).1 (f_X6_split fu s l).2)) := by
  generalize he : (f_X6_split fu s l) = res
  unfold f_X6_split at he
  unfold p_X6_split at hk
  refine r_weak (L1 := [some (.ref 4), some (.ref 1), none, none]) ⟨rfl, rfl, trivial⟩ ?_
  refine r_aload_n rfl rfl ?_
  refine r_iconst_ (a := 0) rfl (by decide) ?_
  refine w_put rfl (cc_4 _) ff_6_4 ft_6_4 (fun _ _ => (Nat.le_of_ble_eq_true rfl)) (fun _ _ => rfl) ?_
  refine r_iconst_ (a := 1) rfl (by decide) ?_
  refine r_istore_n rfl (Nat.le_of_ble_eq_true rfl) rfl ?_
  refine r_iconst_ (a := 0) rfl (by decide) ?_
  refine r_istore_n rfl (Nat.le_of_ble_eq_true rfl) rfl ?_
  subst he
  exact r_weak (L1 := [some (.ref 4), some (.ref 1), some (.int (1 : Int32)), some (.int (0 : Int32))]) ⟨rfl, rfl, rfl, rfl, trivial⟩ (lp_X6_split_9 fu _ _ _ _ hk)

