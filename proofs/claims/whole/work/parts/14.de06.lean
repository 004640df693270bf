def f_X12_tellPicker_110 (s : fl_I) (l : fl_L) : fl_I × fl_L :=
    (s, l)

def p_X12_tellPicker_110 (s : fl_I) (l : fl_L) : Prop :=
    True

set_option maxRecDepth 100000 in
set_option maxHeartbeats 4000000 in
theorem lp_X12_tellPicker_110 {G : ab_G} {d : Nat} {D : fl_D} : ∀ (s : fl_I) (l : fl_L), p_X12_tellPicker_110  s l → ab_C G (d + 4) 0 0 M_X12_tellPicker 110 [none, none] [] (hp D s l) (rt none (hp D (f_X12_tellPicker_110  s l).1 (f_X12_tellPicker_110  s l).2)) := by
  intro  s l hk
  generalize he : f_X12_tellPicker_110  s l = res
  unfold f_X12_tellPicker_110 at he
  unfold p_X12_tellPicker_110 at hk
  refine r_ret rfl rfl ?_
  subst he
  exact ⟨rfl, rfl⟩

def f_X12_tellPicker_90 (s : fl_I) (l : fl_L) : fl_I × fl_L :=
    if ((s 60 13) = 0) then f_X12_tellPicker_110  (wi s 74 (s 60 19).toNatClampNeg ((s 74 (s 60 19).toNatClampNeg) + (1 : Int32))) l else f_X12_tellPicker_110  s l

def p_X12_tellPicker_90 (s : fl_I) (l : fl_L) : Prop :=
    ((((s 60 13) = 0) → (vp_in (s 60 19) 2) ∧ (vp_in (s 60 19) 2) ∧ p_X12_tellPicker_110  (wi s 74 (s 60 19).toNatClampNeg ((s 74 (s 60 19).toNatClampNeg) + (1 : Int32))) l) ∧ (¬ ((s 60 13) = 0) → p_X12_tellPicker_110  s l))

set_option maxRecDepth 100000 in
set_option maxHeartbeats 4000000 in
theorem lp_X12_tellPicker_90 {G : ab_G} {d : Nat} {D : fl_D} : ∀ (s : fl_I) (l : fl_L), p_X12_tellPicker_90  s l → ab_C G (d + 4) 0 0 M_X12_tellPicker 90 [some (.ref 60), none] [] (hp D s l) (rt none (hp D (f_X12_tellPicker_90  s l).1 (f_X12_tellPicker_90  s l).2)) := by
  intro  s l hk
  generalize he : f_X12_tellPicker_90  s l = res
  unfold f_X12_tellPicker_90 at he
  unfold p_X12_tellPicker_90 at hk
  refine r_aload_n rfl rfl ?_
  refine q_getfield rfl (cc_60 _) rfl ?_
  refine r_if_ne rfl (fun c_94 => ?_) (fun c_94 => ?_)
  · rw [if_neg c_94] at he
    replace hk := hk.2 c_94
    subst he
    exact r_weak (L1 := [none, none]) trivial (lp_X12_tellPicker_110 _ _ hk)
  · rw [if_pos c_94] at he
    replace hk := hk.1 c_94
    refine r_aload_n rfl rfl ?_
    refine q_getfield rfl (cc_60 _) rfl ?_
    refine r_aload_n rfl rfl ?_
    refine q_getfield rfl (cc_60 _) rfl ?_
    refine r_dup2 rfl rfl rfl ?_
    obtain ⟨hb11, hk⟩ := hk
    refine q_iald rfl (cc_74 _) hb11 ?_
    refine r_iconst_ (a := 1) rfl (by decide) ?_
    refine r_iadd rfl ?_
    obtain ⟨hb12, hk⟩ := hk
    refine w_iast rfl (cc_74 _) hb12 ?_
    subst he
    exact r_weak (L1 := [none, none]) trivial (lp_X12_tellPicker_110 _ _ hk)

def f_X12_tellPicker_84 (y1 : Int32) (y2 : Int32) (s : fl_I) (l : fl_L) : fl_I × fl_L :=
    f_X12_tellPicker_90  (f_X12_must (4 : Int32) (wi s 78 y1.toNatClampNeg y2) l).1 (f_X12_must (4 : Int32) (wi s 78 y1.toNatClampNeg y2) l).2

def p_X12_tellPicker_84 (y1 : Int32) (y2 : Int32) (s : fl_I) (l : fl_L) : Prop :=
    (vp_in y1 8) ∧ (p_X12_must (4 : Int32) (wi s 78 y1.toNatClampNeg y2) l) ∧ p_X12_tellPicker_90  (f_X12_must (4 : Int32) (wi s 78 y1.toNatClampNeg y2) l).1 (f_X12_must (4 : Int32) (wi s 78 y1.toNatClampNeg y2) l).2

set_option maxRecDepth 100000 in
set_option maxHeartbeats 4000000 in
theorem lp_X12_tellPicker_84 {G : ab_G} {d : Nat} {D : fl_D} : ∀ (y1 : Int32) (y2 : Int32) (s : fl_I) (l : fl_L), p_X12_tellPicker_84 y1 y2 s l → ab_C G (d + 4) 0 0 M_X12_tellPicker 84 [some (.ref 60), none] [.int y2, .int y1, .ref 78] (hp D s l) (rt none (hp D (f_X12_tellPicker_84 y1 y2 s l).1 (f_X12_tellPicker_84 y1 y2 s l).2)) := by
  intro y1 y2 s l hk
  generalize he : f_X12_tellPicker_84 y1 y2 s l = res
  unfold f_X12_tellPicker_84 at he
  unfold p_X12_tellPicker_84 at hk
  obtain ⟨hb9, hk⟩ := hk
  refine w_iast rfl (cc_78 _) hb9 ?_
  refine r_aload_n rfl rfl ?_
  refine r_iconst_ (a := 4) rfl (by decide) ?_
  obtain ⟨hb10, hk⟩ := hk
  refine q_callV0 [_] _ rfl kY_X12_must kT_X12_must rfl rfl (Nat.le_of_ble_eq_true rfl) (Nat.le_of_ble_eq_true rfl) (cc_60 _) (s_X12_must hb10) (fun r h q => ?_)
  obtain ⟨rfl, rfl⟩ := q
  simp only [Option.toList, List.cons_append, List.nil_append]
  subst he
  exact r_weak (L1 := [some (.ref 60), none]) ⟨rfl, trivial⟩ (lp_X12_tellPicker_90 _ _ hk)

def f_X12_tellPicker_71 (x1 : Int32) (y1 : Int32) (y2 : Int32) (s : fl_I) (l : fl_L) : fl_I × fl_L :=
    f_X12_tellPicker_84 x1 (f_X12_bounded (1 : Int32) (32 : Int32) (wi s 77 y1.toNatClampNeg y2) l).1 (f_X12_bounded (1 : Int32) (32 : Int32) (wi s 77 y1.toNatClampNeg y2) l).2.1 (f_X12_bounded (1 : Int32) (32 : Int32) (wi s 77 y1.toNatClampNeg y2) l).2.2

def p_X12_tellPicker_71 (x1 : Int32) (y1 : Int32) (y2 : Int32) (s : fl_I) (l : fl_L) : Prop :=
    (vp_in y1 8) ∧ (p_X12_bounded (1 : Int32) (32 : Int32) (wi s 77 y1.toNatClampNeg y2) l) ∧ p_X12_tellPicker_84 x1 (f_X12_bounded (1 : Int32) (32 : Int32) (wi s 77 y1.toNatClampNeg y2) l).1 (f_X12_bounded (1 : Int32) (32 : Int32) (wi s 77 y1.toNatClampNeg y2) l).2.1 (f_X12_bounded (1 : Int32) (32 : Int32) (wi s 77 y1.toNatClampNeg y2) l).2.2

set_option maxRecDepth 100000 in
set_option maxHeartbeats 4000000 in
theorem lp_X12_tellPicker_71 {G : ab_G} {d : Nat} {D : fl_D} : ∀ (x1 : Int32) (y1 : Int32) (y2 : Int32) (s : fl_I) (l : fl_L), p_X12_tellPicker_71 x1 y1 y2 s l → ab_C G (d + 4) 0 0 M_X12_tellPicker 71 [some (.ref 60), some (.int x1)] [.int y2, .int y1, .ref 77] (hp D s l) (rt none (hp D (f_X12_tellPicker_71 x1 y1 y2 s l).1 (f_X12_tellPicker_71 x1 y1 y2 s l).2)) := by
  intro x1 y1 y2 s l hk
  generalize he : f_X12_tellPicker_71 x1 y1 y2 s l = res
  unfold f_X12_tellPicker_71 at he
  unfold p_X12_tellPicker_71 at hk
  obtain ⟨hb7, hk⟩ := hk
  refine w_iast rfl (cc_77 _) hb7 ?_
  refine r_aload_n rfl rfl ?_
  refine q_getfield rfl (cc_60 _) rfl ?_
  refine r_iload_n rfl rfl ?_
  refine r_aload_n rfl rfl ?_
  refine r_iconst_ (a := 1) rfl (by decide) ?_
  refine r_bipush_ (a := 32) rfl (by decide) ?_
  obtain ⟨hb8, hk⟩ := hk
  refine q_callV0 [_, _] _ rfl kY_X12_bounded kT_X12_bounded rfl rfl (Nat.le_of_ble_eq_true rfl) (Nat.le_of_ble_eq_true rfl) (cc_60 _) (s_X12_bounded hb8) (fun r h q => ?_)
  obtain ⟨rfl, rfl⟩ := q
  simp only [Option.toList, List.cons_append, List.nil_append]
  subst he
  exact r_weak (L1 := [some (.ref 60), none]) ⟨rfl, trivial⟩ (lp_X12_tellPicker_84 _ _ _ _ hk)

def f_X12_tellPicker_58 (x1 : Int32) (y1 : Int32) (y2 : Int32) (s : fl_I) (l : fl_L) : fl_I × fl_L :=
    f_X12_tellPicker_71 x1 x1 (f_X12_bounded (0 : Int32) (7 : Int32) (wi s 76 y1.toNatClampNeg y2) l).1 (f_X12_bounded (0 : Int32) (7 : Int32) (wi s 76 y1.toNatClampNeg y2) l).2.1 (f_X12_bounded (0 : Int32) (7 : Int32) (wi s 76 y1.toNatClampNeg y2) l).2.2

def p_X12_tellPicker_58 (x1 : Int32) (y1 : Int32) (y2 : Int32) (s : fl_I) (l : fl_L) : Prop :=
    (vp_in y1 8) ∧ (p_X12_bounded (0 : Int32) (7 : Int32) (wi s 76 y1.toNatClampNeg y2) l) ∧ p_X12_tellPicker_71 x1 x1 (f_X12_bounded (0 : Int32) (7 : Int32) (wi s 76 y1.toNatClampNeg y2) l).1 (f_X12_bounded (0 : Int32) (7 : Int32) (wi s 76 y1.toNatClampNeg y2) l).2.1 (f_X12_bounded (0 : Int32) (7 : Int32) (wi s 76 y1.toNatClampNeg y2) l).2.2

set_option maxRecDepth 100000 in
set_option maxHeartbeats 4000000 in
theorem lp_X12_tellPicker_58 {G : ab_G} {d : Nat} {D : fl_D} : ∀ (x1 : Int32) (y1 : Int32) (y2 : Int32) (s : fl_I) (l : fl_L), p_X12_tellPicker_58 x1 y1 y2 s l → ab_C G (d + 4) 0 0 M_X12_tellPicker 58 [some (.ref 60), some (.int x1)] [.int y2, .int y1, .ref 76] (hp D s l) (rt none (hp D (f_X12_tellPicker_58 x1 y1 y2 s l).1 (f_X12_tellPicker_58 x1 y1 y2 s l).2)) := by
  intro x1 y1 y2 s l hk
  generalize he : f_X12_tellPicker_58 x1 y1 y2 s l = res
  unfold f_X12_tellPicker_58 at he
  unfold p_X12_tellPicker_58 at hk
  obtain ⟨hb5, hk⟩ := hk
  refine w_iast rfl (cc_76 _) hb5 ?_
  refine r_aload_n rfl rfl ?_
  refine q_getfield rfl (cc_60 _) rfl ?_
  refine r_iload_n rfl rfl ?_
  refine r_aload_n rfl rfl ?_
  refine r_iconst_ (a := 0) rfl (by decide) ?_
  refine r_bipush_ (a := 7) rfl (by decide) ?_
  obtain ⟨hb6, hk⟩ := hk
  refine q_callV0 [_, _] _ rfl kY_X12_bounded kT_X12_bounded rfl rfl (Nat.le_of_ble_eq_true rfl) (Nat.le_of_ble_eq_true rfl) (cc_60 _) (s_X12_bounded hb6) (fun r h q => ?_)
  obtain ⟨rfl, rfl⟩ := q
  simp only [Option.toList, List.cons_append, List.nil_append]
  subst he
  exact r_weak (L1 := [some (.ref 60), some (.int x1)]) ⟨rfl, rfl, trivial⟩ (lp_X12_tellPicker_71 _ _ _ _ _ hk)

def f_X12_tellPicker_45 (x1 : Int32) (y1 : Int32) (y2 : Int64) (s : fl_I) (l : fl_L) : fl_I × fl_L :=
    f_X12_tellPicker_58 x1 x1 (f_X12_bounded (0 : Int32) (9 : Int32) s (wl l 75 y1.toNatClampNeg y2)).1 (f_X12_bounded (0 : Int32) (9 : Int32) s (wl l 75 y1.toNatClampNeg y2)).2.1 (f_X12_bounded (0 : Int32) (9 : Int32) s (wl l 75 y1.toNatClampNeg y2)).2.2

def p_X12_tellPicker_45 (x1 : Int32) (y1 : Int32) (y2 : Int64) (s : fl_I) (l : fl_L) : Prop :=
    (vp_in y1 8) ∧ (p_X12_bounded (0 : Int32) (9 : Int32) s (wl l 75 y1.toNatClampNeg y2)) ∧ p_X12_tellPicker_58 x1 x1 (f_X12_bounded (0 : Int32) (9 : Int32) s (wl l 75 y1.toNatClampNeg y2)).1 (f_X12_bounded (0 : Int32) (9 : Int32) s (wl l 75 y1.toNatClampNeg y2)).2.1 (f_X12_bounded (0 : Int32) (9 : Int32) s (wl l 75 y1.toNatClampNeg y2)).2.2

set_option maxRecDepth 100000 in
set_option maxHeartbeats 4000000 in
theorem lp_X12_tellPicker_45 {G : ab_G} {d : Nat} {D : fl_D} : ∀ (x1 : Int32) (y1 : Int32) (y2 : Int64) (s : fl_I) (l : fl_L), p_X12_tellPicker_45 x1 y1 y2 s l → ab_C G (d + 4) 0 0 M_X12_tellPicker 45 [some (.ref 60), some (.int x1)] [.long y2, .int y1, .ref 75] (hp D s l) (rt none (hp D (f_X12_tellPicker_45 x1 y1 y2 s l).1 (f_X12_tellPicker_45 x1 y1 y2 s l).2)) := by
  intro x1 y1 y2 s l hk
  generalize he : f_X12_tellPicker_45 x1 y1 y2 s l = res
  unfold f_X12_tellPicker_45 at he
  unfold p_X12_tellPicker_45 at hk
  obtain ⟨hb3, hk⟩ := hk
  refine w_last rfl (cc_75 _) hb3 ?_
  refine r_aload_n rfl rfl ?_
  refine q_getfield rfl (cc_60 _) rfl ?_
  refine r_iload_n rfl rfl ?_
  refine r_aload_n rfl rfl ?_
  refine r_iconst_ (a := 0) rfl (by decide) ?_
  refine r_bipush_ (a := 9) rfl (by decide) ?_
  obtain ⟨hb4, hk⟩ := hk
  refine q_callV0 [_, _] _ rfl kY_X12_bounded kT_X12_bounded rfl rfl (Nat.le_of_ble_eq_true rfl) (Nat.le_of_ble_eq_true rfl) (cc_60 _) (s_X12_bounded hb4) (fun r h q => ?_)
  obtain ⟨rfl, rfl⟩ := q
  simp only [Option.toList, List.cons_append, List.nil_append]
  subst he
  exact r_weak (L1 := [some (.ref 60), some (.int x1)]) ⟨rfl, rfl, trivial⟩ (lp_X12_tellPicker_58 _ _ _ _ _ hk)

def f_X12_tellPicker (s : fl_I) (l : fl_L) : fl_I × fl_L :=
  f_X12_tellPicker_45 (((4 : Int32) * (s 60 19)) + (s 74 (s 60 19).toNatClampNeg)) (((4 : Int32) * (s 60 19)) + (s 74 (s 60 19).toNatClampNeg)) (f_X12_named ((4 : Int32) * (s 60 19)) (s 74 (s 60 19).toNatClampNeg) 75 8 s l).1 (f_X12_named ((4 : Int32) * (s 60 19)) (s 74 (s 60 19).toNatClampNeg) 75 8 s l).2.1 (f_X12_named ((4 : Int32) * (s 60 19)) (s 74 (s 60 19).toNatClampNeg) 75 8 s l).2.2

def p_X12_tellPicker (s : fl_I) (l : fl_L) : Prop :=
  (vp_in (s 60 19) 2) ∧ (vp_in (s 60 19) 2) ∧ (p_X12_named ((4 : Int32) * (s 60 19)) (s 74 (s 60 19).toNatClampNeg) 75 8 s l) ∧ p_X12_tellPicker_45 (((4 : Int32) * (s 60 19)) + (s 74 (s 60 19).toNatClampNeg)) (((4 : Int32) * (s 60 19)) + (s 74 (s 60 19).toNatClampNeg)) (f_X12_named ((4 : Int32) * (s 60 19)) (s 74 (s 60 19).toNatClampNeg) 75 8 s l).1 (f_X12_named ((4 : Int32) * (s 60 19)) (s 74 (s 60 19).toNatClampNeg) 75 8 s l).2.1 (f_X12_named ((4 : Int32) * (s 60 19)) (s 74 (s 60 19).toNatClampNeg) 75 8 s l).2.2

set_option maxRecDepth 100000 in
set_option maxHeartbeats 4000000 in
theorem s_X12_tellPicker {G : ab_G} {d : Nat} {D : fl_D} {s : fl_I} {l : fl_L}  (hk : p_X12_tellPicker s l) : ab_C G (d + 4) 0 0 M_X12_tellPicker 0 (ab_ent [.ref 60]) [] (hp D s l) (rt none (hp D (f_X12_tellPicker s l).1 (f_X12_tellPicker s l).2)) := by
  generalize he : (f_X12_tellPicker s l) = res
  unfold f_X12_tellPicker at he
  unfold p_X12_tellPicker at hk
  refine r_weak (L1 := [some (.ref 60), none]) ⟨rfl, trivial⟩ ?_
  refine r_iconst_ (a := 4) rfl (by decide) ?_
  refine r_aload_n rfl rfl ?_
  refine q_getfield rfl (cc_60 _) rfl ?_
  refine r_imul rfl ?_
  refine r_aload_n rfl rfl ?_
  refine q_getfield rfl (cc_60 _) rfl ?_
  refine r_aload_n rfl rfl ?_
  refine q_getfield rfl (cc_60 _) rfl ?_
  obtain ⟨hb0, hk⟩ := hk
  refine q_iald rfl (cc_74 _) hb0 ?_
  refine r_iadd rfl ?_
  refine r_istore_n rfl (Nat.le_of_ble_eq_true rfl) rfl ?_
  refine r_aload_n rfl rfl ?_
  refine q_getfield rfl (cc_60 _) rfl ?_
  refine r_iload_n rfl rfl ?_
  refine r_aload_n rfl rfl ?_
  refine r_aload_n rfl rfl ?_
  refine q_getfield rfl (cc_60 _) rfl ?_
  refine r_iconst_ (a := 4) rfl (by decide) ?_
  refine r_aload_n rfl rfl ?_
  refine q_getfield rfl (cc_60 _) rfl ?_
  refine r_imul rfl ?_
  refine r_aload_n rfl rfl ?_
  refine q_getfield rfl (cc_60 _) rfl ?_
  refine r_aload_n rfl rfl ?_
  refine q_getfield rfl (cc_60 _) rfl ?_
  obtain ⟨hb1, hk⟩ := hk
  refine q_iald rfl (cc_74 _) hb1 ?_
  obtain ⟨hb2, hk⟩ := hk
  refine q_callV0 [_, _, _] _ rfl kY_X12_named kT_X12_named rfl rfl (Nat.le_of_ble_eq_true rfl) (Nat.le_of_ble_eq_true rfl) (cc_60 _) (s_X12_named (cc_75 _) hb2) (fun r h q => ?_)
  obtain ⟨rfl, rfl⟩ := q
  simp only [Option.toList, List.cons_append, List.nil_append]
  subst he
  exact r_weak (L1 := [some (.ref 60), some (.int (((4 : Int32) * (s 60 19)) + (s 74 (s 60 19).toNatClampNeg)))]) ⟨rfl, rfl, trivial⟩ (lp_X12_tellPicker_45 _ _ _ _ _ hk)

def f_X5_addLetter_25 : Nat → Int64 → Int32 → Int32 → Int32 → Int32 → Nat → fl_I → fl_L → fl_I × fl_L
  | 0, x1, x3, x4, x5, x6, t, s, l => (s, l)
  | n + 1, x1, x3, x4, x5, x6, t, s, l =>
    if (x5 ≤ x6) then ((wi s t 0 ((s t 0) + (1 : Int32))), (wl l (t + 1) (s t 0).toNatClampNeg x1)) else if ((s t 3) < 0) then ((wi s t 0 ((s t 0) + (1 : Int32))), (wl l (t + 1) (s t 0).toNatClampNeg x1)) else if ((32 : Int32) ≤ (s t 3)) then ((wi s t 0 ((s t 0) + (1 : Int32))), (wl l (t + 1) (s t 0).toNatClampNeg x1)) else f_X5_addLetter_25 n x1 x3 x4 x5 (x6 + 1) t (wi (wi (wi (wi s (t + 4) (s t 3).toNatClampNeg (f_X11_signAt x1 x6)) (t + 5) ((wi s (t + 4) (s t 3).toNatClampNeg (f_X11_signAt x1 x6)) t 3).toNatClampNeg ((wi s (t + 4) (s t 3).toNatClampNeg (f_X11_signAt x1 x6)) t 0)) (t + 6) ((wi (wi s (t + 4) (s t 3).toNatClampNeg (f_X11_signAt x1 x6)) (t + 5) ((wi s (t + 4) (s t 3).toNatClampNeg (f_X11_signAt x1 x6)) t 3).toNatClampNeg ((wi s (t + 4) (s t 3).toNatClampNeg (f_X11_signAt x1 x6)) t 0)) t 3).toNatClampNeg (((10 : Int32) * x4) + ((x3 + x6) - (x3 + x6) / (10 : Int32) * (10 : Int32)))) t 3 (((wi (wi (wi s (t + 4) (s t 3).toNatClampNeg (f_X11_signAt x1 x6)) (t + 5) ((wi s (t + 4) (s t 3).toNatClampNeg (f_X11_signAt x1 x6)) t 3).toNatClampNeg ((wi s (t + 4) (s t 3).toNatClampNeg (f_X11_signAt x1 x6)) t 0)) (t + 6) ((wi (wi s (t + 4) (s t 3).toNatClampNeg (f_X11_signAt x1 x6)) (t + 5) ((wi s (t + 4) (s t 3).toNatClampNeg (f_X11_signAt x1 x6)) t 3).toNatClampNeg ((wi s (t + 4) (s t 3).toNatClampNeg (f_X11_signAt x1 x6)) t 0)) t 3).toNatClampNeg (((10 : Int32) * x4) + ((x3 + x6) - (x3 + x6) / (10 : Int32) * (10 : Int32)))) t 3) + (1 : Int32))) l

def p_X5_addLetter_25 : Nat → Int64 → Int32 → Int32 → Int32 → Int32 → Nat → fl_I → fl_L → Prop
  | 0, _, _, _, _, _, _, _, _ => False
  | n + 1, x1, x3, x4, x5, x6, t, s, l =>
    (((x5 ≤ x6) → (vp_in (s t 0) 4) ∧ True) ∧ (¬ (x5 ≤ x6) → ((((s t 3) < 0) → (vp_in (s t 0) 4) ∧ True) ∧ (¬ ((s t 3) < 0) → ((((32 : Int32) ≤ (s t 3)) → (vp_in (s t 0) 4) ∧ True) ∧ (¬ ((32 : Int32) ≤ (s t 3)) → (p_X11_signAt x1 x6) ∧ (vp_in (s t 3) 32) ∧ (vp_in ((wi s (t + 4) (s t 3).toNatClampNeg (f_X11_signAt x1 x6)) t 3) 32) ∧ (vp_in ((wi (wi s (t + 4) (s t 3).toNatClampNeg (f_X11_signAt x1 x6)) (t + 5) ((wi s (t + 4) (s t 3).toNatClampNeg (f_X11_signAt x1 x6)) t 3).toNatClampNeg ((wi s (t + 4) (s t 3).toNatClampNeg (f_X11_signAt x1 x6)) t 0)) t 3) 32) ∧ p_X5_addLetter_25 n x1 x3 x4 x5 (x6 + 1) t (wi (wi (wi (wi s (t + 4) (s t 3).toNatClampNeg (f_X11_signAt x1 x6)) (t + 5) ((wi s (t + 4) (s t 3).toNatClampNeg (f_X11_signAt x1 x6)) t 3).toNatClampNeg ((wi s (t + 4) (s t 3).toNatClampNeg (f_X11_signAt x1 x6)) t 0)) (t + 6) ((wi (wi s (t + 4) (s t 3).toNatClampNeg (f_X11_signAt x1 x6)) (t + 5) ((wi s (t + 4) (s t 3).toNatClampNeg (f_X11_signAt x1 x6)) t 3).toNatClampNeg ((wi s (t + 4) (s t 3).toNatClampNeg (f_X11_signAt x1 x6)) t 0)) t 3).toNatClampNeg (((10 : Int32) * x4) + ((x3 + x6) - (x3 + x6) / (10 : Int32) * (10 : Int32)))) t 3 (((wi (wi (wi s (t + 4) (s t 3).toNatClampNeg (f_X11_signAt x1 x6)) (t + 5) ((wi s (t + 4) (s t 3).toNatClampNeg (f_X11_signAt x1 x6)) t 3).toNatClampNeg ((wi s (t + 4) (s t 3).toNatClampNeg (f_X11_signAt x1 x6)) t 0)) (t + 6) ((wi (wi s (t + 4) (s t 3).toNatClampNeg (f_X11_signAt x1 x6)) (t + 5) ((wi s (t + 4) (s t 3).toNatClampNeg (f_X11_signAt x1 x6)) t 3).toNatClampNeg ((wi s (t + 4) (s t 3).toNatClampNeg (f_X11_signAt x1 x6)) t 0)) t 3).toNatClampNeg (((10 : Int32) * x4) + ((x3 + x6) - (x3 + x6) / (10 : Int32) * (10 : Int32)))) t 3) + (1 : Int32))) l))))))

set_option maxRecDepth 100000 in
set_option maxHeartbeats 4000000 in
theorem lp_X5_addLetter_25 {G : ab_G} {d : Nat} {D : fl_D} {t : Nat} (htt : isT t) : ∀ (n : Nat) (x1 : Int64) (x3 : Int32) (x4 : Int32) (x5 : Int32) (x6 : Int32) (s : fl_I) (l : fl_L), p_X5_addLetter_25 n x1 x3 x4 x5 x6 t s l → ab_C G (d + 2) 0 0 M_X5_addLetter 25 [some (.ref t), some (.long x1), none, some (.int x3), some (.int x4), some (.int x5), some (.int x6)] [] (hp D s l) (rt none (hp D (f_X5_addLetter_25 n x1 x3 x4 x5 x6 t s l).1 (f_X5_addLetter_25 n x1 x3 x4 x5 x6 t s l).2)) := by
  intro n
  induction n with
  | zero => intro x1 x3 x4 x5 x6 s l hk; exact hk.elim
  | succ n ih =>
    intro x1 x3 x4 x5 x6 s l hk
    generalize he : f_X5_addLetter_25 (n + 1) x1 x3 x4 x5 x6 t s l = res
    unfold f_X5_addLetter_25 at he
    unfold p_X5_addLetter_25 at hk
    refine r_iload rfl rfl ?_
    refine r_iload rfl rfl ?_
    refine r_icmp_ge rfl (fun c_29 => ?_) (fun c_29 => ?_)
    · rw [if_pos c_29] at he
      replace hk := hk.1 c_29
      refine r_aload_n rfl rfl ?_
      refine q_getfield rfl (cT_0 htt) rfl ?_
      refine r_aload_n rfl rfl ?_
      refine q_getfield rfl (cT_0 htt) rfl ?_
      refine r_lload_n rfl rfl ?_
      obtain ⟨hb1, hk⟩ := hk
      refine w_last rfl (cT_1 htt) hb1 ?_
      refine r_aload_n rfl rfl ?_
      refine r_dup rfl rfl ?_
      refine q_getfield rfl (cT_0 htt) rfl ?_
      refine r_iconst_ (a := 1) rfl (by decide) ?_
      refine r_iadd rfl ?_
      refine w_put rfl (cT_0 htt) ff_5_0 ft_5_0 (Nat.le_of_ble_eq_true rfl) rfl ?_
      refine r_ret rfl rfl ?_
      subst he
      exact ⟨rfl, rfl⟩
    · rw [if_neg c_29] at he
      replace hk := hk.2 c_29
      refine r_aload_n rfl rfl ?_
      refine q_getfield rfl (cT_0 htt) rfl ?_
      refine r_if_lt rfl (fun c_36 => ?_) (fun c_36 => ?_)
      · rw [if_pos c_36] at he
        replace hk := hk.1 c_36
        refine r_aload_n rfl rfl ?_
        refine q_getfield rfl (cT_0 htt) rfl ?_
        refine r_aload_n rfl rfl ?_
        refine q_getfield rfl (cT_0 htt) rfl ?_
        refine r_lload_n rfl rfl ?_
        obtain ⟨hb2, hk⟩ := hk
        refine w_last rfl (cT_1 htt) hb2 ?_
        refine r_aload_n rfl rfl ?_
        refine r_dup rfl rfl ?_
        refine q_getfield rfl (cT_0 htt) rfl ?_
        refine r_iconst_ (a := 1) rfl (by decide) ?_
        refine r_iadd rfl ?_
        refine w_put rfl (cT_0 htt) ff_5_0 ft_5_0 (Nat.le_of_ble_eq_true rfl) rfl ?_
        refine r_ret rfl rfl ?_
        subst he
        exact ⟨rfl, rfl⟩
      · rw [if_neg c_36] at he
        replace hk := hk.2 c_36
        refine r_aload_n rfl rfl ?_
        refine q_getfield rfl (cT_0 htt) rfl ?_
        refine r_bipush_ (a := 32) rfl (by decide) ?_
        refine r_icmp_ge rfl (fun c_45 => ?_) (fun c_45 => ?_)
        · rw [if_pos c_45] at he
          replace hk := hk.1 c_45
          refine r_aload_n rfl rfl ?_
          refine q_getfield rfl (cT_0 htt) rfl ?_
          refine r_aload_n rfl rfl ?_
          refine q_getfield rfl (cT_0 htt) rfl ?_
          refine r_lload_n rfl rfl ?_
          obtain ⟨hb3, hk⟩ := hk
          refine w_last rfl (cT_1 htt) hb3 ?_
          refine r_aload_n rfl rfl ?_
          refine r_dup rfl rfl ?_
          refine q_getfield rfl (cT_0 htt) rfl ?_
          refine r_iconst_ (a := 1) rfl (by decide) ?_
          refine r_iadd rfl ?_
          refine w_put rfl (cT_0 htt) ff_5_0 ft_5_0 (Nat.le_of_ble_eq_true rfl) rfl ?_
          refine r_ret rfl rfl ?_
          subst he
          exact ⟨rfl, rfl⟩
        · rw [if_neg c_45] at he
          replace hk := hk.2 c_45
          refine r_aload_n rfl rfl ?_
          refine q_getfield rfl (cT_0 htt) rfl ?_
          refine r_aload_n rfl rfl ?_
          refine q_getfield rfl (cT_0 htt) rfl ?_
          refine r_lload_n rfl rfl ?_
          refine r_iload rfl rfl ?_
          obtain ⟨hb4, hk⟩ := hk
          refine r_callSN0 [_, _] _ rfl kY_X11_signAt kT_X11_signAt rfl rfl (Nat.le_of_ble_eq_true rfl) (Nat.le_of_ble_eq_true rfl) (s_X11_signAt hb4) (fun r h q => ?_)
          obtain ⟨rfl, rfl⟩ := q
          simp only [Option.toList, List.cons_append, List.nil_append]
          obtain ⟨hb5, hk⟩ := hk
          refine w_iast rfl (cT_4 htt) hb5 ?_
          refine r_aload_n rfl rfl ?_
          refine q_getfield rfl (cT_0 htt) rfl ?_
          refine r_aload_n rfl rfl ?_
          refine q_getfield rfl (cT_0 htt) rfl ?_
          refine r_aload_n rfl rfl ?_
          refine q_getfield rfl (cT_0 htt) rfl ?_
          obtain ⟨hb6, hk⟩ := hk
          refine w_iast rfl (cT_5 htt) hb6 ?_
          refine r_aload_n rfl rfl ?_
          refine q_getfield rfl (cT_0 htt) rfl ?_
          refine r_aload_n rfl rfl ?_
          refine q_getfield rfl (cT_0 htt) rfl ?_
          refine r_bipush_ (a := 10) rfl (by decide) ?_
          refine r_iload rfl rfl ?_
          refine r_imul rfl ?_
          refine r_iload_n rfl rfl ?_
          refine r_iload rfl rfl ?_
          refine r_iadd rfl ?_
          refine r_bipush_ (a := 10) rfl (by decide) ?_
          refine r_irem rfl (by decide) ?_
          refine r_iadd rfl ?_
          obtain ⟨hb7, hk⟩ := hk
          refine w_iast rfl (cT_6 htt) hb7 ?_
          refine r_aload_n rfl rfl ?_
          refine r_dup rfl rfl ?_
          refine q_getfield rfl (cT_0 htt) rfl ?_
          refine r_iconst_ (a := 1) rfl (by decide) ?_
          refine r_iadd rfl ?_
          refine w_put rfl (cT_0 htt) ff_5_3 ft_5_3 (Nat.le_of_ble_eq_true rfl) rfl ?_
          refine r_iinc (b := x6 + 1) rfl rfl rfl (Nat.le_of_ble_eq_true rfl) rfl ?_
          refine r_goto rfl ?_
          subst he
          exact r_weak (L1 := [some (.ref t), some (.long x1), none, some (.int x3), some (.int x4), some (.int x5), some (.int (x6 + 1))]) ⟨rfl, rfl, rfl, rfl, rfl, rfl, trivial⟩ (ih _ _ _ _ _ _ _ hk)

def f_X5_addLetter (v0 : Int64) (v1 : Int32) (v2 : Int32) (t : Nat) (s : fl_I) (l : fl_L) : fl_I × fl_L :=
  if ((s t 0) < 0) then (s, l) else if ((s t 0) < (4 : Int32)) then f_X5_addLetter_25 fu v0 v1 v2 (f_X11_nameLength v0) (0 : Int32) t s l else (s, l)

def p_X5_addLetter (v0 : Int64) (v1 : Int32) (v2 : Int32) (t : Nat) (s : fl_I) (l : fl_L) : Prop :=
  ((((s t 0) < 0) → True) ∧ (¬ ((s t 0) < 0) → ((((s t 0) < (4 : Int32)) → (p_X11_nameLength v0) ∧ p_X5_addLetter_25 fu v0 v1 v2 (f_X11_nameLength v0) (0 : Int32) t s l) ∧ (¬ ((s t 0) < (4 : Int32)) → True))))

set_option maxRecDepth 100000 in
set_option maxHeartbeats 4000000 in
theorem s_X5_addLetter {G : ab_G} {d : Nat} {D : fl_D} {s : fl_I} {l : fl_L} {t : Nat} (htt : isT t) {v0 : Int64} {v1 : Int32} {v2 : Int32} (hk : p_X5_addLetter v0 v1 v2 t s l) : ab_C G (d + 2) 0 0 M_X5_addLetter 0 (ab_ent [.ref t, .long v0, .int v1, .int v2]) [] (hp D s l) (rt none (hp D (f_X5_addLetter v0 v1 v2 t s l).1 (f_X5_addLetter v0 v1 v2 t s l).2)) := by
  generalize he : (f_X5_addLetter v0 v1 v2 t s l) = res
  unfold f_X5_addLetter at he
  unfold p_X5_addLetter at hk
  refine r_weak (L1 := [some (.ref t), some (.long v0), none, some (.int v1), some (.int v2), none, none]) ⟨rfl, rfl, rfl, rfl, trivial⟩ ?_
  refine r_aload_n rfl rfl ?_
  refine q_getfield rfl (cT_0 htt) rfl ?_
  refine r_if_lt rfl (fun c_4 => ?_) (fun c_4 => ?_)
  · rw [if_pos c_4] at he
    replace hk := hk.1 c_4
    refine r_ret rfl rfl ?_
    subst he
    exact ⟨rfl, rfl⟩
  · rw [if_neg c_4] at he
    replace hk := hk.2 c_4
    refine r_aload_n rfl rfl ?_
    refine q_getfield rfl (cT_0 htt) rfl ?_
    refine r_iconst_ (a := 4) rfl (by decide) ?_
    refine r_icmp_lt rfl (fun c_12 => ?_) (fun c_12 => ?_)
    · rw [if_pos c_12] at he
      replace hk := hk.1 c_12
      refine r_lload_n rfl rfl ?_
      obtain ⟨hb0, hk⟩ := hk
      refine r_callSN0 [_] _ rfl kY_X11_nameLength kT_X11_nameLength rfl rfl (Nat.le_of_ble_eq_true rfl) (Nat.le_of_ble_eq_true rfl) (s_X11_nameLength hb0) (fun r h q => ?_)
      obtain ⟨rfl, rfl⟩ := q
      simp only [Option.toList, List.cons_append, List.nil_append]
      refine r_istore rfl (Nat.le_of_ble_eq_true rfl) rfl ?_
      refine r_iconst_ (a := 0) rfl (by decide) ?_
      refine r_istore rfl (Nat.le_of_ble_eq_true rfl) rfl ?_
      subst he
      exact r_weak (L1 := [some (.ref t), some (.long v0), none, some (.int v1), some (.int v2), some (.int (f_X11_nameLength v0)), some (.int (0 : Int32))]) ⟨rfl, rfl, rfl, rfl, rfl, rfl, trivial⟩ (lp_X5_addLetter_25 htt fu _ _ _ _ _ _ _ hk)
    · rw [if_neg c_12] at he
      replace hk := hk.2 c_12
      refine r_ret rfl rfl ?_
      subst he
      exact ⟨rfl, rfl⟩

def f_X6_split_133 (s : fl_I) (l : fl_L) : fl_I × fl_L :=
    (s, l)

def p_X6_split_133 (s : fl_I) (l : fl_L) : Prop :=
    True

set_option maxRecDepth 100000 in
set_option maxHeartbeats 4000000 in
theorem lp_X6_split_133 {G : ab_G} {d : Nat} {D : fl_D} : ∀ (s : fl_I) (l : fl_L), p_X6_split_133  s l → ab_C G (d + 3) 0 0 M_X6_split 133 [none, none, none, none] [] (hp D s l) (rt none (hp D (f_X6_split_133  s l).1 (f_X6_split_133  s l).2)) := by
  intro  s l hk
  generalize he : f_X6_split_133  s l = res
  unfold f_X6_split_133 at he
  unfold p_X6_split_133 at hk
  refine r_ret rfl rfl ?_
  subst he
  exact ⟨rfl, rfl⟩

def f_X6_split_125 (K9 : Int32 → Int32 → fl_I → fl_L → fl_I × fl_L) (x3 : Int32) (s : fl_I) (l : fl_L) : fl_I × fl_L :=
    K9 (0 : Int32) (x3 + 1) s l

def p_X6_split_125 (P9 : Int32 → Int32 → fl_I → fl_L → Prop) (x3 : Int32) (s : fl_I) (l : fl_L) : Prop :=
    P9 (0 : Int32) (x3 + 1) s l

set_option maxRecDepth 100000 in
set_option maxHeartbeats 4000000 in
theorem lp_X6_split_125 {G : ab_G} {d : Nat} {D : fl_D} (K9 : Int32 → Int32 → fl_I → fl_L → fl_I × fl_L) (P9 : Int32 → Int32 → fl_I → fl_L → Prop) (hK9 : ∀ (x2 : Int32) (x3 : Int32) (s : fl_I) (l : fl_L), P9 x2 x3 s l → ab_C G (d + 3) 0 0 M_X6_split 9 [some (.ref 4), some (.ref 1), some (.int x2), some (.int x3)] [] (hp D s l) (rt none (hp D (K9 x2 x3 s l).1 (K9 x2 x3 s l).2))) : ∀ (x3 : Int32) (s : fl_I) (l : fl_L), p_X6_split_125 P9 x3 s l → ab_C G (d + 3) 0 0 M_X6_split 125 [some (.ref 4), some (.ref 1), none, some (.int x3)] [] (hp D s l) (rt none (hp D (f_X6_split_125 K9 x3 s l).1 (f_X6_split_125 K9 x3 s l).2)) := by
  intro x3 s l hk
  generalize he : f_X6_split_125 K9 x3 s l = res
  unfold f_X6_split_125 at he
  unfold p_X6_split_125 at hk
  refine r_iconst_ (a := 0) rfl (by decide) ?_
  refine r_istore_n rfl (Nat.le_of_ble_eq_true rfl) rfl ?_
  refine r_iinc (b := x3 + 1) rfl rfl rfl (Nat.le_of_ble_eq_true rfl) rfl ?_
  refine r_goto rfl ?_
  subst he
  exact r_weak (L1 := [some (.ref 4), some (.ref 1), some (.int (0 : Int32)), some (.int (x3 + 1))]) ⟨rfl, rfl, rfl, rfl, trivial⟩ (hK9 _ _ _ _ hk)

def f_X6_split_101 (K9 : Int32 → Int32 → fl_I → fl_L → fl_I × fl_L) (x3 : Int32) (y1 : Int32) (y2 : Int32) (s : fl_I) (l : fl_L) : fl_I × fl_L :=
    if (((wi s 5 y1.toNatClampNeg y2) 5 x3.toNatClampNeg) = 0) then f_X6_split_125 K9 x3 (wi s 5 y1.toNatClampNeg y2) l else if (((wi s 5 y1.toNatClampNeg y2) 5 x3.toNatClampNeg) = (1 : Int32)) then f_X6_split_125 K9 x3 (wi s 5 y1.toNatClampNeg y2) l else K9 (1 : Int32) (x3 + 1) (wi s 5 y1.toNatClampNeg y2) l

def p_X6_split_101 (P9 : Int32 → Int32 → fl_I → fl_L → Prop) (x3 : Int32) (y1 : Int32) (y2 : Int32) (s : fl_I) (l : fl_L) : Prop :=
    (vp_in y1 401) ∧ (vp_in x3 401) ∧ (((((wi s 5 y1.toNatClampNeg y2) 5 x3.toNatClampNeg) = 0) → p_X6_split_125 P9 x3 (wi s 5 y1.toNatClampNeg y2) l) ∧ (¬ (((wi s 5 y1.toNatClampNeg y2) 5 x3.toNatClampNeg) = 0) → (vp_in x3 401) ∧ (((((wi s 5 y1.toNatClampNeg y2) 5 x3.toNatClampNeg) = (1 : Int32)) → p_X6_split_125 P9 x3 (wi s 5 y1.toNatClampNeg y2) l) ∧ (¬ (((wi s 5 y1.toNatClampNeg y2) 5 x3.toNatClampNeg) = (1 : Int32)) → P9 (1 : Int32) (x3 + 1) (wi s 5 y1.toNatClampNeg y2) l))))

set_option maxRecDepth 100000 in
set_option maxHeartbeats 4000000 in
theorem lp_X6_split_101 {G : ab_G} {d : Nat} {D : fl_D} (K9 : Int32 → Int32 → fl_I → fl_L → fl_I × fl_L) (P9 : Int32 → Int32 → fl_I → fl_L → Prop) (hK9 : ∀ (x2 : Int32) (x3 : Int32) (s : fl_I) (l : fl_L), P9 x2 x3 s l → ab_C G (d + 3) 0 0 M_X6_split 9 [some (.ref 4), some (.ref 1), some (.int x2), some (.int x3)] [] (hp D s l) (rt none (hp D (K9 x2 x3 s l).1 (K9 x2 x3 s l).2))) : ∀ (x3 : Int32) (y1 : Int32) (y2 : Int32) (s : fl_I) (l : fl_L), p_X6_split_101 P9 x3 y1 y2 s l → ab_C G (d + 3) 0 0 M_X6_split 101 [some (.ref 4), some (.ref 1), none, some (.int x3)] [.int y2, .int y1, .ref 5] (hp D s l) (rt none (hp D (f_X6_split_101 K9 x3 y1 y2 s l).1 (f_X6_split_101 K9 x3 y1 y2 s l).2)) := by
  intro x3 y1 y2 s l hk
  generalize he : f_X6_split_101 K9 x3 y1 y2 s l = res
  unfold f_X6_split_101 at he
  unfold p_X6_split_101 at hk
  obtain ⟨hb3, hk⟩ := hk
  refine w_iast rfl (cc_5 _) hb3 ?_
  refine r_aload_n rfl rfl ?_
  refine q_getfield rfl (cc_4 _) rfl ?_
  refine r_iload_n rfl rfl ?_
  obtain ⟨hb4, hk⟩ := hk
  refine q_iald rfl (cc_5 _) hb4 ?_
  refine r_if_eq rfl (fun c_108 => ?_) (fun c_108 => ?_)
  · rw [if_pos c_108] at he
    replace hk := hk.1 c_108
    subst he
    exact r_weak (L1 := [some (.ref 4), some (.ref 1), none, some (.int x3)]) ⟨rfl, rfl, rfl, trivial⟩ (lp_X6_split_125 _ _ hK9 _ _ _ hk)
  · rw [if_neg c_108] at he
    replace hk := hk.2 c_108
    refine r_aload_n rfl rfl ?_
    refine q_getfield rfl (cc_4 _) rfl ?_
    refine r_iload_n rfl rfl ?_
    obtain ⟨hb5, hk⟩ := hk
    refine q_iald rfl (cc_5 _) hb5 ?_
    refine r_iconst_ (a := 1) rfl (by decide) ?_
    refine r_icmp_eq rfl (fun c_118 => ?_) (fun c_118 => ?_)
    · rw [if_pos c_118] at he
      replace hk := hk.1 c_118
      subst he
      exact r_weak (L1 := [some (.ref 4), some (.ref 1), none, some (.int x3)]) ⟨rfl, rfl, rfl, trivial⟩ (lp_X6_split_125 _ _ hK9 _ _ _ hk)
    · rw [if_neg c_118] at he
      replace hk := hk.2 c_118
      refine r_iconst_ (a := 1) rfl (by decide) ?_
      refine r_goto rfl ?_
      refine r_istore_n rfl (Nat.le_of_ble_eq_true rfl) rfl ?_
      refine r_iinc (b := x3 + 1) rfl rfl rfl (Nat.le_of_ble_eq_true rfl) rfl ?_
      refine r_goto rfl ?_
      subst he
      exact r_weak (L1 := [some (.ref 4), some (.ref 1), some (.int (1 : Int32)), some (.int (x3 + 1))]) ⟨rfl, rfl, rfl, rfl, trivial⟩ (hK9 _ _ _ _ hk)

def f_X6_split_58 (K9 : Int32 → Int32 → fl_I → fl_L → fl_I × fl_L) (x3 : Int32) (s : fl_I) (l : fl_L) : fl_I × fl_L :=
    if (((wi s 6 x3.toNatClampNeg (s 4 4)) 4 4) < ((wi s 6 x3.toNatClampNeg (s 4 4)) 1 1)) then f_X6_split_101 K9 x3 x3 (f_X6_kindFrom x3 (wi s 6 x3.toNatClampNeg (s 4 4)) (wl l 7 x3.toNatClampNeg (0 : Int64))).1 (f_X6_kindFrom x3 (wi s 6 x3.toNatClampNeg (s 4 4)) (wl l 7 x3.toNatClampNeg (0 : Int64))).2.1 (f_X6_kindFrom x3 (wi s 6 x3.toNatClampNeg (s 4 4)) (wl l 7 x3.toNatClampNeg (0 : Int64))).2.2 else f_X6_split_101 K9 x3 x3 (0 : Int32) (wi s 6 x3.toNatClampNeg (s 4 4)) (wl l 7 x3.toNatClampNeg (0 : Int64))

def p_X6_split_58 (P9 : Int32 → Int32 → fl_I → fl_L → Prop) (x3 : Int32) (s : fl_I) (l : fl_L) : Prop :=
    (vp_in x3 401) ∧ (vp_in x3 401) ∧ (((((wi s 6 x3.toNatClampNeg (s 4 4)) 4 4) < ((wi s 6 x3.toNatClampNeg (s 4 4)) 1 1)) → (p_X6_kindFrom x3 (wi s 6 x3.toNatClampNeg (s 4 4)) (wl l 7 x3.toNatClampNeg (0 : Int64))) ∧ p_X6_split_101 P9 x3 x3 (f_X6_kindFrom x3 (wi s 6 x3.toNatClampNeg (s 4 4)) (wl l 7 x3.toNatClampNeg (0 : Int64))).1 (f_X6_kindFrom x3 (wi s 6 x3.toNatClampNeg (s 4 4)) (wl l 7 x3.toNatClampNeg (0 : Int64))).2.1 (f_X6_kindFrom x3 (wi s 6 x3.toNatClampNeg (s 4 4)) (wl l 7 x3.toNatClampNeg (0 : Int64))).2.2) ∧ (¬ (((wi s 6 x3.toNatClampNeg (s 4 4)) 4 4) < ((wi s 6 x3.toNatClampNeg (s 4 4)) 1 1)) → p_X6_split_101 P9 x3 x3 (0 : Int32) (wi s 6 x3.toNatClampNeg (s 4 4)) (wl l 7 x3.toNatClampNeg (0 : Int64))))

set_option maxRecDepth 100000 in
set_option maxHeartbeats 4000000 in
theorem lp_X6_split_58 {G : ab_G} {d : Nat} {D : fl_D} (K9 : Int32 → Int32 → fl_I → fl_L → fl_I × fl_L) (P9 : Int32 → Int32 → fl_I → fl_L → Prop) (hK9 : ∀ (x2 : Int32) (x3 : Int32) (s : fl_I) (l : fl_L), P9 x2 x3 s l → ab_C G (d + 3) 0 0 M_X6_split 9 [some (.ref 4), some (.ref 1), some (.int x2), some (.int x3)] [] (hp D s l) (rt none (hp D (K9 x2 x3 s l).1 (K9 x2 x3 s l).2))) : ∀ (x3 : Int32) (s : fl_I) (l : fl_L), p_X6_split_58 P9 x3 s l → ab_C G (d + 3) 0 0 M_X6_split 58 [some (.ref 4), some (.ref 1), none, some (.int x3)] [] (hp D s l) (rt none (hp D (f_X6_split_58 K9 x3 s l).1 (f_X6_split_58 K9 x3 s l).2)) := by
  intro x3 s l hk
  generalize he : f_X6_split_58 K9 x3 s l = res
  unfold f_X6_split_58 at he
  unfold p_X6_split_58 at hk
  refine r_aload_n rfl rfl ?_
  refine q_getfield rfl (cc_4 _) rfl ?_
  refine r_iload_n rfl rfl ?_
  refine r_aload_n rfl rfl ?_
  refine q_getfield rfl (cc_4 _) rfl ?_
  obtain ⟨hb0, hk⟩ := hk
  refine w_iast rfl (cc_6 _) hb0 ?_
  refine r_aload_n rfl rfl ?_
  refine q_getfield rfl (cc_4 _) rfl ?_
  refine r_iload_n rfl rfl ?_
  refine r_lconst (a := 0) rfl (by decide) ?_
  obtain ⟨hb1, hk⟩ := hk
  refine w_last rfl (cc_7 _) hb1 ?_
  refine r_aload_n rfl rfl ?_
  refine q_getfield rfl (cc_4 _) rfl ?_
  refine r_iload_n rfl rfl ?_
  refine r_aload_n rfl rfl ?_
  refine q_getfield rfl (cc_4 _) rfl ?_
  refine r_aload_n rfl rfl ?_
  refine q_getfield rfl (cc_1 _) rfl ?_
  refine r_icmp_lt rfl (fun c_88 => ?_) (fun c_88 => ?_)
  · rw [if_pos c_88] at he
    replace hk := hk.1 c_88
    refine r_aload_n rfl rfl ?_
    refine r_aload_n rfl rfl ?_
    refine r_iload_n rfl rfl ?_
    obtain ⟨hb2, hk⟩ := hk
    refine q_callV0 [_, _] _ rfl kY_X6_kindFrom kT_X6_kindFrom rfl rfl (Nat.le_of_ble_eq_true rfl) (Nat.le_of_ble_eq_true rfl) (cc_4 _) (s_X6_kindFrom hb2) (fun r h q => ?_)
    obtain ⟨rfl, rfl⟩ := q
    simp only [Option.toList, List.cons_append, List.nil_append]
    subst he
    exact r_weak (L1 := [some (.ref 4), some (.ref 1), none, some (.int x3)]) ⟨rfl, rfl, rfl, trivial⟩ (lp_X6_split_101 _ _ hK9 _ _ _ _ _ hk)
  · rw [if_neg c_88] at he
    replace hk := hk.2 c_88
    refine r_iconst_ (a := 0) rfl (by decide) ?_
    refine r_goto rfl ?_
    subst he
    exact r_weak (L1 := [some (.ref 4), some (.ref 1), none, some (.int x3)]) ⟨rfl, rfl, rfl, trivial⟩ (lp_X6_split_101 _ _ hK9 _ _ _ _ _ hk)

def f_X6_split_20 (K9 : Int32 → Int32 → fl_I → fl_L → fl_I × fl_L) : Nat → Int32 → fl_I → fl_L → fl_I × fl_L
  | 0, x3, s, l => (s, l)
  | n + 1, x3, s, l =>
    if ((s 1 1) ≤ (s 4 4)) then f_X6_split_58 K9 x3 s l else if ((f_X6_isBlank (f_X4_byteAt (s 4 4) s l)) = 0) then f_X6_split_58 K9 x3 s l else f_X6_split_20 K9 n x3 (wi s 4 4 ((s 4 4) + (1 : Int32))) l

def p_X6_split_20 (P9 : Int32 → Int32 → fl_I → fl_L → Prop) : Nat → Int32 → fl_I → fl_L → Prop
  | 0, _, _, _ => False
  | n + 1, x3, s, l =>
    ((((s 1 1) ≤ (s 4 4)) → p_X6_split_58 P9 x3 s l) ∧ (¬ ((s 1 1) ≤ (s 4 4)) → (p_X4_byteAt (s 4 4) s l) ∧ (p_X6_isBlank (f_X4_byteAt (s 4 4) s l)) ∧ ((((f_X6_isBlank (f_X4_byteAt (s 4 4) s l)) = 0) → p_X6_split_58 P9 x3 s l) ∧ (¬ ((f_X6_isBlank (f_X4_byteAt (s 4 4) s l)) = 0) → p_X6_split_20 P9 n x3 (wi s 4 4 ((s 4 4) + (1 : Int32))) l))))

set_option maxRecDepth 100000 in
set_option maxHeartbeats 4000000 in
theorem lp_X6_split_20 {G : ab_G} {d : Nat} {D : fl_D} (K9 : Int32 → Int32 → fl_I → fl_L → fl_I × fl_L) (P9 : Int32 → Int32 → fl_I → fl_L → Prop) (hK9 : ∀ (x2 : Int32) (x3 : Int32) (s : fl_I) (l : fl_L), P9 x2 x3 s l → ab_C G (d + 3) 0 0 M_X6_split 9 [some (.ref 4), some (.ref 1), some (.int x2), some (.int x3)] [] (hp D s l) (rt none (hp D (K9 x2 x3 s l).1 (K9 x2 x3 s l).2))) : ∀ (n : Nat) (x3 : Int32) (s : fl_I) (l : fl_L), p_X6_split_20 P9 n x3 s l → ab_C G (d + 3) 0 0 M_X6_split 20 [some (.ref 4), some (.ref 1), none, some (.int x3)] [] (hp D s l) (rt none (hp D (f_X6_split_20 K9 n x3 s l).1 (f_X6_split_20 K9 n x3 s l).2)) := by
  intro n
  induction n with
  | zero => intro x3 s l hk; exact hk.elim
  | succ n ih =>
    intro x3 s l hk
    generalize he : f_X6_split_20 K9 (n + 1) x3 s l = res
    unfold f_X6_split_20 at he
    unfold p_X6_split_20 at hk
    refine r_aload_n rfl rfl ?_
    refine q_getfield rfl (cc_4 _) rfl ?_
    refine r_aload_n rfl rfl ?_
    refine q_getfield rfl (cc_1 _) rfl ?_
    refine r_icmp_ge rfl (fun c_28 => ?_) (fun c_28 => ?_)
    · rw [if_pos c_28] at he
      replace hk := hk.1 c_28
      subst he
      exact r_weak (L1 := [some (.ref 4), some (.ref 1), none, some (.int x3)]) ⟨rfl, rfl, rfl, trivial⟩ (lp_X6_split_58 _ _ hK9 _ _ _ hk)
    · rw [if_neg c_28] at he
      replace hk := hk.2 c_28
      refine r_aload_n rfl rfl ?_
      refine r_aload_n rfl rfl ?_
      refine q_getfield rfl (cc_4 _) rfl ?_
      obtain ⟨hb6, hk⟩ := hk
      refine q_callV0 [_] _ rfl kY_X4_byteAt kT_X4_byteAt rfl rfl (Nat.le_of_ble_eq_true rfl) (Nat.le_of_ble_eq_true rfl) (cc_1 _) (s_X4_byteAt hb6) (fun r h q => ?_)
      obtain ⟨rfl, rfl⟩ := q
      simp only [Option.toList, List.cons_append, List.nil_append]
      obtain ⟨hb7, hk⟩ := hk
      refine r_callS0 [_] _ rfl kY_X6_isBlank kT_X6_isBlank rfl rfl (Nat.le_of_ble_eq_true rfl) (Nat.le_of_ble_eq_true rfl) (s_X6_isBlank hb7) (fun r h q => ?_)
      obtain ⟨rfl, rfl⟩ := q
      simp only [Option.toList, List.cons_append, List.nil_append]
      refine r_if_eq rfl (fun c_42 => ?_) (fun c_42 => ?_)
      · rw [if_pos c_42] at he
        replace hk := hk.1 c_42
        subst he
        exact r_weak (L1 := [some (.ref 4), some (.ref 1), none, some (.int x3)]) ⟨rfl, rfl, rfl, trivial⟩ (lp_X6_split_58 _ _ hK9 _ _ _ hk)
      · rw [if_neg c_42] at he
        replace hk := hk.2 c_42
        refine r_aload_n rfl rfl ?_
        refine r_dup rfl rfl ?_
        refine q_getfield rfl (cc_4 _) rfl ?_
        refine r_iconst_ (a := 1) rfl (by decide) ?_
        refine r_iadd rfl ?_
        refine w_put rfl (cc_4 _) ff_6_4 ft_6_4 (Nat.le_of_ble_eq_true rfl) rfl ?_
        refine r_goto rfl ?_
        subst he
        exact r_weak (L1 := [some (.ref 4), some (.ref 1), none, some (.int x3)]) ⟨rfl, rfl, rfl, trivial⟩ (ih _ _ _ hk)

def f_X6_split_9 : Nat → Int32 → Int32 → fl_I → fl_L → fl_I × fl_L
  | 0, x2, x3, s, l => (s, l)
  | n + 1, x2, x3, s, l =>
    if ((400 : Int32) < x3) then f_X6_split_133  s l else if (x2 = 0) then f_X6_split_133  s l else f_X6_split_20 (fun x2 x3 s l => f_X6_split_9 n x2 x3 s l) fu x3 s l

def p_X6_split_9 : Nat → Int32 → Int32 → fl_I → fl_L → Prop
  | 0, _, _, _, _ => False
  | n + 1, x2, x3, s, l =>
    ((((400 : Int32) < x3) → p_X6_split_133  s l) ∧ (¬ ((400 : Int32) < x3) → (((x2 = 0) → p_X6_split_133  s l) ∧ (¬ (x2 = 0) → p_X6_split_20 (fun x2 x3 s l => p_X6_split_9 n x2 x3 s l) fu x3 s l))))

set_option maxRecDepth 100000 in
set_option maxHeartbeats 4000000 in
theorem lp_X6_split_9 {G : ab_G} {d : Nat} {D : fl_D} : ∀ (n : Nat) (x2 : Int32) (x3 : Int32) (s : fl_I) (l : fl_L), p_X6_split_9 n x2 x3 s l → ab_C G (d + 3) 0 0 M_X6_split 9 [some (.ref 4), some (.ref 1), some (.int x2), some (.int x3)] [] (hp D s l) (rt none (hp D (f_X6_split_9 n x2 x3 s l).1 (f_X6_split_9 n x2 x3 s l).2)) := by
  intro n
  induction n with
  | zero => intro x2 x3 s l hk; exact hk.elim
  | succ n ih =>
    intro x2 x3 s l hk
    generalize he : f_X6_split_9 (n + 1) x2 x3 s l = res
    unfold f_X6_split_9 at he
    unfold p_X6_split_9 at hk
    refine r_iload_n rfl rfl ?_
    refine r_sipush_ (a := 400) rfl (by decide) ?_
    refine r_icmp_gt rfl (fun c_13 => ?_) (fun c_13 => ?_)
    · rw [if_pos c_13] at he
      replace hk := hk.1 c_13
      subst he
      exact r_weak (L1 := [none, none, none, none]) trivial (lp_X6_split_133 _ _ hk)
    · rw [if_neg c_13] at he
      replace hk := hk.2 c_13
      refine r_iload_n rfl rfl ?_
      refine r_if_eq rfl (fun c_17 => ?_) (fun c_17 => ?_)
      · rw [if_pos c_17] at he
        replace hk := hk.1 c_17
        subst he
        exact r_weak (L1 := [none, none, none, none]) trivial (lp_X6_split_133 _ _ hk)
      · rw [if_neg c_17] at he
        replace hk := hk.2 c_17
        subst he
        exact r_weak (L1 := [some (.ref 4), some (.ref 1), none, some (.int x3)]) ⟨rfl, rfl, rfl, trivial⟩ (lp_X6_split_20 _ _ (fun _ _ _ _ h9 => ih _ _ _ _ h9) fu _ _ _ hk)

def f_X6_split (s : fl_I) (l : fl_L) : fl_I × fl_L :=
  f_X6_split_9 fu (1 : Int32) (0 : Int32) (wi s 4 4 (0 : Int32)) l

def p_X6_split (s : fl_I) (l : fl_L) : Prop :=
  p_X6_split_9 fu (1 : Int32) (0 : Int32) (wi s 4 4 (0 : Int32)) l

set_option maxRecDepth 100000 in
set_option maxHeartbeats 4000000 in
theorem s_X6_split {G : ab_G} {d : Nat} {D : fl_D} {s : fl_I} {l : fl_L}  (hk : p_X6_split s l) : ab_C G (d + 3) 0 0 M_X6_split 0 (ab_ent [.ref 4, .ref 1]) [] (hp D s l) (rt none (hp D (f_X6_split s l).1 (f_X6_split s l).2)) := by
  generalize he : (f_X6_split s l) = res
  unfold f_X6_split at he
  unfold p_X6_split at hk
  refine r_weak (L1 := [some (.ref 4), some (.ref 1), none, none]) ⟨rfl, rfl, trivial⟩ ?_
  refine r_aload_n rfl rfl ?_
  refine r_iconst_ (a := 0) rfl (by decide) ?_
  refine w_put rfl (cc_4 _) ff_6_4 ft_6_4 (Nat.le_of_ble_eq_true rfl) rfl ?_
  refine r_iconst_ (a := 1) rfl (by decide) ?_
  refine r_istore_n rfl (Nat.le_of_ble_eq_true rfl) rfl ?_
  refine r_iconst_ (a := 0) rfl (by decide) ?_
  refine r_istore_n rfl (Nat.le_of_ble_eq_true rfl) rfl ?_
  subst he
  exact r_weak (L1 := [some (.ref 4), some (.ref 1), some (.int (1 : Int32)), some (.int (0 : Int32))]) ⟨rfl, rfl, rfl, rfl, trivial⟩ (lp_X6_split_9 fu _ _ _ _ hk)

def f_X12_ask_46 (K29 : Int32 → Int32 → Int32 → Int32 → Int32) : Nat → Int32 → Int32 → Int32 → Int32 → Int32 → Int32 → fl_I → fl_L → Int32
  | 0, _, _, _, _, _, _, _, _ => 0
  | n + 1, x2, x3, x4, x5, x6, x7, s, l =>
    if ((s 72 (s 60 18).toNatClampNeg) ≤ x7) then if (x6 ≤ ((f_X12_bits x2) - x6)) then if (x3 < 0) then K29 x2 x5 ((f_X12_bits x2) - x6) (x5 + 1) else if (((f_X12_bits x2) - x6) < x4) then K29 x2 x5 ((f_X12_bits x2) - x6) (x5 + 1) else K29 x2 x3 x4 (x5 + 1) else if (x3 < 0) then K29 x2 x5 x6 (x5 + 1) else if (x6 < x4) then K29 x2 x5 x6 (x5 + 1) else K29 x2 x3 x4 (x5 + 1) else if (((x2 >>> (x7 &&& 31)) &&& (1 : Int32)) = (1 : Int32)) then if ((f_X12_isThere x7 x5 s l) = 0) then f_X12_ask_46 K29 n x2 x3 x4 x5 x6 (x7 + 1) s l else f_X12_ask_46 K29 n x2 x3 x4 x5 (x6 + 1) (x7 + 1) s l else f_X12_ask_46 K29 n x2 x3 x4 x5 x6 (x7 + 1) s l

def p_X12_ask_46 (P29 : Int32 → Int32 → Int32 → Int32 → Prop) : Nat → Int32 → Int32 → Int32 → Int32 → Int32 → Int32 → fl_I → fl_L → Prop
  | 0, _, _, _, _, _, _, _, _ => False
  | n + 1, x2, x3, x4, x5, x6, x7, s, l =>
    (vp_in (s 60 18) 2) ∧ ((((s 72 (s 60 18).toNatClampNeg) ≤ x7) → (p_X12_bits x2) ∧ (((x6 ≤ ((f_X12_bits x2) - x6)) → (p_X12_bits x2) ∧ (((x3 < 0) → P29 x2 x5 ((f_X12_bits x2) - x6) (x5 + 1)) ∧ (¬ (x3 < 0) → (((((f_X12_bits x2) - x6) < x4) → P29 x2 x5 ((f_X12_bits x2) - x6) (x5 + 1)) ∧ (¬ (((f_X12_bits x2) - x6) < x4) → P29 x2 x3 x4 (x5 + 1)))))) ∧ (¬ (x6 ≤ ((f_X12_bits x2) - x6)) → (((x3 < 0) → P29 x2 x5 x6 (x5 + 1)) ∧ (¬ (x3 < 0) → (((x6 < x4) → P29 x2 x5 x6 (x5 + 1)) ∧ (¬ (x6 < x4) → P29 x2 x3 x4 (x5 + 1)))))))) ∧ (¬ ((s 72 (s 60 18).toNatClampNeg) ≤ x7) → (((((x2 >>> (x7 &&& 31)) &&& (1 : Int32)) = (1 : Int32)) → (p_X12_isThere x7 x5 s l) ∧ ((((f_X12_isThere x7 x5 s l) = 0) → p_X12_ask_46 P29 n x2 x3 x4 x5 x6 (x7 + 1) s l) ∧ (¬ ((f_X12_isThere x7 x5 s l) = 0) → p_X12_ask_46 P29 n x2 x3 x4 x5 (x6 + 1) (x7 + 1) s l))) ∧ (¬ (((x2 >>> (x7 &&& 31)) &&& (1 : Int32)) = (1 : Int32)) → p_X12_ask_46 P29 n x2 x3 x4 x5 x6 (x7 + 1) s l))))

set_option maxRecDepth 100000 in
set_option maxHeartbeats 4000000 in
theorem lp_X12_ask_46 {G : ab_G} {d : Nat} {D : fl_D} {s : fl_I} {l : fl_L} (K29 : Int32 → Int32 → Int32 → Int32 → Int32) (P29 : Int32 → Int32 → Int32 → Int32 → Prop) (hK29 : ∀ (x2 : Int32) (x3 : Int32) (x4 : Int32) (x5 : Int32), P29 x2 x3 x4 x5 → ab_C G (d + 3) 0 0 M_X12_ask 29 [some (.ref 60), none, some (.int x2), some (.int x3), some (.int x4), some (.int x5), none, none] [] (hp D s l) (rt (some (.int (K29 x2 x3 x4 x5))) (hp D s l))) : ∀ (n : Nat) (x2 : Int32) (x3 : Int32) (x4 : Int32) (x5 : Int32) (x6 : Int32) (x7 : Int32), p_X12_ask_46 P29 n x2 x3 x4 x5 x6 x7 s l → ab_C G (d + 3) 0 0 M_X12_ask 46 [some (.ref 60), none, some (.int x2), some (.int x3), some (.int x4), some (.int x5), some (.int x6), some (.int x7)] [] (hp D s l) (rt (some (.int (f_X12_ask_46 K29 n x2 x3 x4 x5 x6 x7 s l))) (hp D s l)) := by
  intro n
  induction n with
  | zero => intro x2 x3 x4 x5 x6 x7 hk; exact hk.elim
  | succ n ih =>
    intro x2 x3 x4 x5 x6 x7 hk
    generalize he : f_X12_ask_46 K29 (n + 1) x2 x3 x4 x5 x6 x7 s l = res
    unfold f_X12_ask_46 at he
    unfold p_X12_ask_46 at hk
    refine r_iload rfl rfl ?_
    refine r_aload_n rfl rfl ?_
    refine q_getfield rfl (cc_60 _) rfl ?_
    refine r_aload_n rfl rfl ?_
    refine q_getfield rfl (cc_60 _) rfl ?_
    obtain ⟨hb2, hk⟩ := hk
    refine q_iald rfl (cc_72 _) hb2 ?_
    refine r_icmp_ge rfl (fun c_57 => ?_) (fun c_57 => ?_)
    · rw [if_pos c_57] at he
      replace hk := hk.1 c_57
      refine r_iload rfl rfl ?_
      refine r_iload_n rfl rfl ?_
      obtain ⟨hb3, hk⟩ := hk
      refine r_callS0 [_] _ rfl kY_X12_bits kT_X12_bits rfl rfl (Nat.le_of_ble_eq_true rfl) (Nat.le_of_ble_eq_true rfl) (s_X12_bits hb3) (fun r h q => ?_)
      obtain ⟨rfl, rfl⟩ := q
      simp only [Option.toList, List.cons_append, List.nil_append]
      refine r_iload rfl rfl ?_
      refine r_isub rfl ?_
      refine r_icmp_le rfl (fun c_99 => ?_) (fun c_99 => ?_)
      · rw [if_pos c_99] at he
        replace hk := hk.1 c_99
        refine r_iload_n rfl rfl ?_
        obtain ⟨hb4, hk⟩ := hk
        refine r_callS0 [_] _ rfl kY_X12_bits kT_X12_bits rfl rfl (Nat.le_of_ble_eq_true rfl) (Nat.le_of_ble_eq_true rfl) (s_X12_bits hb4) (fun r h q => ?_)
        obtain ⟨rfl, rfl⟩ := q
        simp only [Option.toList, List.cons_append, List.nil_append]
        refine r_iload rfl rfl ?_
        refine r_isub rfl ?_
        refine r_istore rfl (Nat.le_of_ble_eq_true rfl) rfl ?_
        refine r_iload_n rfl rfl ?_
        refine r_if_lt rfl (fun c_117 => ?_) (fun c_117 => ?_)
        · rw [if_pos c_117] at he
          replace hk := hk.1 c_117
          refine r_iload rfl rfl ?_
          refine r_istore_n rfl (Nat.le_of_ble_eq_true rfl) rfl ?_
          refine r_iload rfl rfl ?_
          refine r_istore rfl (Nat.le_of_ble_eq_true rfl) rfl ?_
          refine r_iinc (b := x5 + 1) rfl rfl rfl (Nat.le_of_ble_eq_true rfl) rfl ?_
          refine r_goto rfl ?_
          subst he
          exact r_weak (L1 := [some (.ref 60), none, some (.int x2), some (.int x5), some (.int ((f_X12_bits x2) - x6)), some (.int (x5 + 1)), none, none]) ⟨rfl, rfl, rfl, rfl, rfl, trivial⟩ (hK29 _ _ _ _ hk)
        · rw [if_neg c_117] at he
          replace hk := hk.2 c_117
          refine r_iload rfl rfl ?_
          refine r_iload rfl rfl ?_
          refine r_icmp_lt rfl (fun c_124 => ?_) (fun c_124 => ?_)
          · rw [if_pos c_124] at he
            replace hk := hk.1 c_124
            refine r_iload rfl rfl ?_
            refine r_istore_n rfl (Nat.le_of_ble_eq_true rfl) rfl ?_
            refine r_iload rfl rfl ?_
            refine r_istore rfl (Nat.le_of_ble_eq_true rfl) rfl ?_
            refine r_iinc (b := x5 + 1) rfl rfl rfl (Nat.le_of_ble_eq_true rfl) rfl ?_
            refine r_goto rfl ?_
            subst he
            exact r_weak (L1 := [some (.ref 60), none, some (.int x2), some (.int x5), some (.int ((f_X12_bits x2) - x6)), some (.int (x5 + 1)), none, none]) ⟨rfl, rfl, rfl, rfl, rfl, trivial⟩ (hK29 _ _ _ _ hk)
          · rw [if_neg c_124] at he
            replace hk := hk.2 c_124
            refine r_goto rfl ?_
            refine r_iinc (b := x5 + 1) rfl rfl rfl (Nat.le_of_ble_eq_true rfl) rfl ?_
            refine r_goto rfl ?_
            subst he
            exact r_weak (L1 := [some (.ref 60), none, some (.int x2), some (.int x3), some (.int x4), some (.int (x5 + 1)), none, none]) ⟨rfl, rfl, rfl, rfl, rfl, trivial⟩ (hK29 _ _ _ _ hk)
      · rw [if_neg c_99] at he
        replace hk := hk.2 c_99
        refine r_iload rfl rfl ?_
        refine r_goto rfl ?_
        refine r_istore rfl (Nat.le_of_ble_eq_true rfl) rfl ?_
        refine r_iload_n rfl rfl ?_
        refine r_if_lt rfl (fun c_117 => ?_) (fun c_117 => ?_)
        · rw [if_pos c_117] at he
          replace hk := hk.1 c_117
          refine r_iload rfl rfl ?_
          refine r_istore_n rfl (Nat.le_of_ble_eq_true rfl) rfl ?_
          refine r_iload rfl rfl ?_
          refine r_istore rfl (Nat.le_of_ble_eq_true rfl) rfl ?_
          refine r_iinc (b := x5 + 1) rfl rfl rfl (Nat.le_of_ble_eq_true rfl) rfl ?_
          refine r_goto rfl ?_
          subst he
          exact r_weak (L1 := [some (.ref 60), none, some (.int x2), some (.int x5), some (.int x6), some (.int (x5 + 1)), none, none]) ⟨rfl, rfl, rfl, rfl, rfl, trivial⟩ (hK29 _ _ _ _ hk)
        · rw [if_neg c_117] at he
          replace hk := hk.2 c_117
          refine r_iload rfl rfl ?_
          refine r_iload rfl rfl ?_
          refine r_icmp_lt rfl (fun c_124 => ?_) (fun c_124 => ?_)
          · rw [if_pos c_124] at he
            replace hk := hk.1 c_124
            refine r_iload rfl rfl ?_
            refine r_istore_n rfl (Nat.le_of_ble_eq_true rfl) rfl ?_
            refine r_iload rfl rfl ?_
            refine r_istore rfl (Nat.le_of_ble_eq_true rfl) rfl ?_
            refine r_iinc (b := x5 + 1) rfl rfl rfl (Nat.le_of_ble_eq_true rfl) rfl ?_
            refine r_goto rfl ?_
            subst he
            exact r_weak (L1 := [some (.ref 60), none, some (.int x2), some (.int x5), some (.int x6), some (.int (x5 + 1)), none, none]) ⟨rfl, rfl, rfl, rfl, rfl, trivial⟩ (hK29 _ _ _ _ hk)
          · rw [if_neg c_124] at he
            replace hk := hk.2 c_124
            refine r_goto rfl ?_
            refine r_iinc (b := x5 + 1) rfl rfl rfl (Nat.le_of_ble_eq_true rfl) rfl ?_
            refine r_goto rfl ?_
            subst he
            exact r_weak (L1 := [some (.ref 60), none, some (.int x2), some (.int x3), some (.int x4), some (.int (x5 + 1)), none, none]) ⟨rfl, rfl, rfl, rfl, rfl, trivial⟩ (hK29 _ _ _ _ hk)
    · rw [if_neg c_57] at he
      replace hk := hk.2 c_57
      refine r_iload_n rfl rfl ?_
      refine r_iload rfl rfl ?_
      refine r_ishr rfl ?_
      refine r_iconst_ (a := 1) rfl (by decide) ?_
      refine r_iand rfl ?_
      refine r_iconst_ (a := 1) rfl (by decide) ?_
      refine r_icmp_ne rfl (fun c_67 => ?_) (fun c_67 => ?_)
      · rw [if_neg c_67] at he
        replace hk := hk.2 c_67
        refine r_iinc (b := x7 + 1) rfl rfl rfl (Nat.le_of_ble_eq_true rfl) rfl ?_
        refine r_goto rfl ?_
        subst he
        exact r_weak (L1 := [some (.ref 60), none, some (.int x2), some (.int x3), some (.int x4), some (.int x5), some (.int x6), some (.int (x7 + 1))]) ⟨rfl, rfl, rfl, rfl, rfl, rfl, rfl, trivial⟩ (ih _ _ _ _ _ _ hk)
      · rw [if_pos c_67] at he
        replace hk := hk.1 c_67
        refine r_aload_n rfl rfl ?_
        refine r_iload rfl rfl ?_
        refine r_iload rfl rfl ?_
        obtain ⟨hb5, hk⟩ := hk
        refine q_callV0 [_, _] _ rfl kY_X12_isThere kT_X12_isThere rfl rfl (Nat.le_of_ble_eq_true rfl) (Nat.le_of_ble_eq_true rfl) (cc_60 _) (s_X12_isThere hb5) (fun r h q => ?_)
        obtain ⟨rfl, rfl⟩ := q
        simp only [Option.toList, List.cons_append, List.nil_append]
        refine r_if_eq rfl (fun c_78 => ?_) (fun c_78 => ?_)
        · rw [if_pos c_78] at he
          replace hk := hk.1 c_78
          refine r_iinc (b := x7 + 1) rfl rfl rfl (Nat.le_of_ble_eq_true rfl) rfl ?_
          refine r_goto rfl ?_
          subst he
          exact r_weak (L1 := [some (.ref 60), none, some (.int x2), some (.int x3), some (.int x4), some (.int x5), some (.int x6), some (.int (x7 + 1))]) ⟨rfl, rfl, rfl, rfl, rfl, rfl, rfl, trivial⟩ (ih _ _ _ _ _ _ hk)
        · rw [if_neg c_78] at he
          replace hk := hk.2 c_78
          refine r_iinc (b := x6 + 1) rfl rfl rfl (Nat.le_of_ble_eq_true rfl) rfl ?_
          refine r_iinc (b := x7 + 1) rfl rfl rfl (Nat.le_of_ble_eq_true rfl) rfl ?_
          refine r_goto rfl ?_
          subst he
          exact r_weak (L1 := [some (.ref 60), none, some (.int x2), some (.int x3), some (.int x4), some (.int x5), some (.int (x6 + 1)), some (.int (x7 + 1))]) ⟨rfl, rfl, rfl, rfl, rfl, rfl, rfl, trivial⟩ (ih _ _ _ _ _ _ hk)

def f_X12_ask_29 : Nat → Int32 → Int32 → Int32 → Int32 → fl_I → fl_L → Int32
  | 0, _, _, _, _, _, _ => 0
  | n + 1, x2, x3, x4, x5, s, l =>
    if ((27 : Int32) ≤ x5) then x3 else if (x2 = 0) then x3 else f_X12_ask_46 (fun x2 x3 x4 x5 => f_X12_ask_29 n x2 x3 x4 x5 s l) fu x2 x3 x4 x5 (0 : Int32) (0 : Int32) s l

def p_X12_ask_29 : Nat → Int32 → Int32 → Int32 → Int32 → fl_I → fl_L → Prop
  | 0, _, _, _, _, _, _ => False
  | n + 1, x2, x3, x4, x5, s, l =>
    ((((27 : Int32) ≤ x5) → True) ∧ (¬ ((27 : Int32) ≤ x5) → (((x2 = 0) → True) ∧ (¬ (x2 = 0) → p_X12_ask_46 (fun x2 x3 x4 x5 => p_X12_ask_29 n x2 x3 x4 x5 s l) fu x2 x3 x4 x5 (0 : Int32) (0 : Int32) s l))))

set_option maxRecDepth 100000 in
set_option maxHeartbeats 4000000 in
theorem lp_X12_ask_29 {G : ab_G} {d : Nat} {D : fl_D} {s : fl_I} {l : fl_L} : ∀ (n : Nat) (x2 : Int32) (x3 : Int32) (x4 : Int32) (x5 : Int32), p_X12_ask_29 n x2 x3 x4 x5 s l → ab_C G (d + 3) 0 0 M_X12_ask 29 [some (.ref 60), none, some (.int x2), some (.int x3), some (.int x4), some (.int x5), none, none] [] (hp D s l) (rt (some (.int (f_X12_ask_29 n x2 x3 x4 x5 s l))) (hp D s l)) := by
  intro n
  induction n with
  | zero => intro x2 x3 x4 x5 hk; exact hk.elim
  | succ n ih =>
    intro x2 x3 x4 x5 hk
    generalize he : f_X12_ask_29 (n + 1) x2 x3 x4 x5 s l = res
    unfold f_X12_ask_29 at he
    unfold p_X12_ask_29 at hk
    refine r_iload rfl rfl ?_
    refine r_bipush_ (a := 27) rfl (by decide) ?_
    refine r_icmp_ge rfl (fun c_33 => ?_) (fun c_33 => ?_)
    · rw [if_pos c_33] at he
      replace hk := hk.1 c_33
      refine r_iload_n rfl rfl ?_
      refine r_iret rfl rfl rfl ?_
      subst he
      exact ⟨rfl, rfl⟩
    · rw [if_neg c_33] at he
      replace hk := hk.2 c_33
      refine r_iload_n rfl rfl ?_
      refine r_if_eq rfl (fun c_37 => ?_) (fun c_37 => ?_)
      · rw [if_pos c_37] at he
        replace hk := hk.1 c_37
        refine r_iload_n rfl rfl ?_
        refine r_iret rfl rfl rfl ?_
        subst he
        exact ⟨rfl, rfl⟩
      · rw [if_neg c_37] at he
        replace hk := hk.2 c_37
        refine r_iconst_ (a := 0) rfl (by decide) ?_
        refine r_istore rfl (Nat.le_of_ble_eq_true rfl) rfl ?_
        refine r_iconst_ (a := 0) rfl (by decide) ?_
        refine r_istore rfl (Nat.le_of_ble_eq_true rfl) rfl ?_
        subst he
        exact r_weak (L1 := [some (.ref 60), none, some (.int x2), some (.int x3), some (.int x4), some (.int x5), some (.int (0 : Int32)), some (.int (0 : Int32))]) ⟨rfl, rfl, rfl, rfl, rfl, rfl, rfl, trivial⟩ (lp_X12_ask_46 _ _ (fun _ _ _ _ h9 => ih _ _ _ _ h9) fu _ _ _ _ _ _ hk)

def f_X12_ask (v0 : Int32) (s : fl_I) (l : fl_L) : Int32 :=
  if ((f_X12_in v0 (0 : Int32) (s 60 65)) = 0) then (-1 : Int32) else f_X12_ask_29 fu (f_X12_writtenBits v0 s l) (-2 : Int32) (0 : Int32) (1 : Int32) s l

def p_X12_ask (v0 : Int32) (s : fl_I) (l : fl_L) : Prop :=
  (p_X12_in v0 (0 : Int32) (s 60 65)) ∧ ((((f_X12_in v0 (0 : Int32) (s 60 65)) = 0) → True) ∧ (¬ ((f_X12_in v0 (0 : Int32) (s 60 65)) = 0) → (p_X12_writtenBits v0 s l) ∧ p_X12_ask_29 fu (f_X12_writtenBits v0 s l) (-2 : Int32) (0 : Int32) (1 : Int32) s l))

set_option maxRecDepth 100000 in
set_option maxHeartbeats 4000000 in
theorem s_X12_ask {G : ab_G} {d : Nat} {D : fl_D} {s : fl_I} {l : fl_L} {v0 : Int32} (hk : p_X12_ask v0 s l) : ab_C G (d + 3) 0 0 M_X12_ask 0 (ab_ent [.ref 60, .int v0]) [] (hp D s l) (rt (some (.int (f_X12_ask v0 s l))) (hp D s l)) := by
  generalize he : (f_X12_ask v0 s l) = res
  unfold f_X12_ask at he
  unfold p_X12_ask at hk
  refine r_weak (L1 := [some (.ref 60), some (.int v0), none, none, none, none, none, none]) ⟨rfl, rfl, trivial⟩ ?_
  refine r_iload_n rfl rfl ?_
  refine r_iconst_ (a := 0) rfl (by decide) ?_
  refine r_aload_n rfl rfl ?_
  refine q_getfield rfl (cc_60 _) rfl ?_
  obtain ⟨hb0, hk⟩ := hk
  refine r_callS0 [_, _, _] _ rfl kY_X12_in kT_X12_in rfl rfl (Nat.le_of_ble_eq_true rfl) (Nat.le_of_ble_eq_true rfl) (s_X12_in hb0) (fun r h q => ?_)
  obtain ⟨rfl, rfl⟩ := q
  simp only [Option.toList, List.cons_append, List.nil_append]
  refine r_if_ne rfl (fun c_9 => ?_) (fun c_9 => ?_)
  · rw [if_neg c_9] at he
    replace hk := hk.2 c_9
    refine r_aload_n rfl rfl ?_
    refine r_iload_n rfl rfl ?_
    obtain ⟨hb1, hk⟩ := hk
    refine q_callV0 [_] _ rfl kY_X12_writtenBits kT_X12_writtenBits rfl rfl (Nat.le_of_ble_eq_true rfl) (Nat.le_of_ble_eq_true rfl) (cc_60 _) (s_X12_writtenBits hb1) (fun r h q => ?_)
    obtain ⟨rfl, rfl⟩ := q
    simp only [Option.toList, List.cons_append, List.nil_append]
    refine r_istore_n rfl (Nat.le_of_ble_eq_true rfl) rfl ?_
    refine r_bipush_ (a := -2) rfl (by decide) ?_
    refine r_istore_n rfl (Nat.le_of_ble_eq_true rfl) rfl ?_
    refine r_iconst_ (a := 0) rfl (by decide) ?_
    refine r_istore rfl (Nat.le_of_ble_eq_true rfl) rfl ?_
    refine r_iconst_ (a := 1) rfl (by decide) ?_
    refine r_istore rfl (Nat.le_of_ble_eq_true rfl) rfl ?_
    subst he
    exact r_weak (L1 := [some (.ref 60), none, some (.int (f_X12_writtenBits v0 s l)), some (.int (-2 : Int32)), some (.int (0 : Int32)), some (.int (1 : Int32)), none, none]) ⟨rfl, rfl, rfl, rfl, rfl, trivial⟩ (lp_X12_ask_29 fu _ _ _ _ hk)
  · rw [if_pos c_9] at he
    replace hk := hk.1 c_9
    refine r_iconst_ (a := -1) rfl (by decide) ?_
    refine r_iret rfl rfl rfl ?_
    subst he
    exact ⟨rfl, rfl⟩

def f_X12_share_80 : Nat → Int32 → Int32 → Int32 → Int32 → Int32 → fl_I → fl_L → Int32 × fl_I × fl_L
  | 0, x3, x4, x5, x6, x7, s, l => (0, s, l)
  | n + 1, x3, x4, x5, x6, x7, s, l =>
    if (x5 < x7) then (x6, s, l) else if ((f_X12_roundFrom x4 (x5 &&& (x7 ^^^ (-1 : Int32))) (f_X12_roundFrom x3 x7 s l).2.1 (f_X12_roundFrom x3 x7 s l).2.2).1 ≤ (f_X12_roundFrom x3 x7 s l).1) then if (x6 ≤ (f_X12_roundFrom x3 x7 s l).1) then f_X12_share_80 n x3 x4 x5 x6 (x7 + 1) (f_X12_roundFrom x4 (x5 &&& (x7 ^^^ (-1 : Int32))) (f_X12_roundFrom x3 x7 s l).2.1 (f_X12_roundFrom x3 x7 s l).2.2).2.1 (f_X12_roundFrom x4 (x5 &&& (x7 ^^^ (-1 : Int32))) (f_X12_roundFrom x3 x7 s l).2.1 (f_X12_roundFrom x3 x7 s l).2.2).2.2 else f_X12_share_80 n x3 x4 x5 (f_X12_roundFrom x3 x7 s l).1 (x7 + 1) (f_X12_roundFrom x4 (x5 &&& (x7 ^^^ (-1 : Int32))) (f_X12_roundFrom x3 x7 s l).2.1 (f_X12_roundFrom x3 x7 s l).2.2).2.1 (f_X12_roundFrom x4 (x5 &&& (x7 ^^^ (-1 : Int32))) (f_X12_roundFrom x3 x7 s l).2.1 (f_X12_roundFrom x3 x7 s l).2.2).2.2 else if (x6 ≤ (f_X12_roundFrom x4 (x5 &&& (x7 ^^^ (-1 : Int32))) (f_X12_roundFrom x3 x7 s l).2.1 (f_X12_roundFrom x3 x7 s l).2.2).1) then f_X12_share_80 n x3 x4 x5 x6 (x7 + 1) (f_X12_roundFrom x4 (x5 &&& (x7 ^^^ (-1 : Int32))) (f_X12_roundFrom x3 x7 s l).2.1 (f_X12_roundFrom x3 x7 s l).2.2).2.1 (f_X12_roundFrom x4 (x5 &&& (x7 ^^^ (-1 : Int32))) (f_X12_roundFrom x3 x7 s l).2.1 (f_X12_roundFrom x3 x7 s l).2.2).2.2 else f_X12_share_80 n x3 x4 x5 (f_X12_roundFrom x4 (x5 &&& (x7 ^^^ (-1 : Int32))) (f_X12_roundFrom x3 x7 s l).2.1 (f_X12_roundFrom x3 x7 s l).2.2).1 (x7 + 1) (f_X12_roundFrom x4 (x5 &&& (x7 ^^^ (-1 : Int32))) (f_X12_roundFrom x3 x7 s l).2.1 (f_X12_roundFrom x3 x7 s l).2.2).2.1 (f_X12_roundFrom x4 (x5 &&& (x7 ^^^ (-1 : Int32))) (f_X12_roundFrom x3 x7 s l).2.1 (f_X12_roundFrom x3 x7 s l).2.2).2.2

def p_X12_share_80 : Nat → Int32 → Int32 → Int32 → Int32 → Int32 → fl_I → fl_L → Prop
  | 0, _, _, _, _, _, _, _ => False
  | n + 1, x3, x4, x5, x6, x7, s, l =>
    (((x5 < x7) → True) ∧ (¬ (x5 < x7) → (p_X12_roundFrom x3 x7 s l) ∧ (p_X12_roundFrom x4 (x5 &&& (x7 ^^^ (-1 : Int32))) (f_X12_roundFrom x3 x7 s l).2.1 (f_X12_roundFrom x3 x7 s l).2.2) ∧ ((((f_X12_roundFrom x4 (x5 &&& (x7 ^^^ (-1 : Int32))) (f_X12_roundFrom x3 x7 s l).2.1 (f_X12_roundFrom x3 x7 s l).2.2).1 ≤ (f_X12_roundFrom x3 x7 s l).1) → (((x6 ≤ (f_X12_roundFrom x3 x7 s l).1) → p_X12_share_80 n x3 x4 x5 x6 (x7 + 1) (f_X12_roundFrom x4 (x5 &&& (x7 ^^^ (-1 : Int32))) (f_X12_roundFrom x3 x7 s l).2.1 (f_X12_roundFrom x3 x7 s l).2.2).2.1 (f_X12_roundFrom x4 (x5 &&& (x7 ^^^ (-1 : Int32))) (f_X12_roundFrom x3 x7 s l).2.1 (f_X12_roundFrom x3 x7 s l).2.2).2.2) ∧ (¬ (x6 ≤ (f_X12_roundFrom x3 x7 s l).1) → p_X12_share_80 n x3 x4 x5 (f_X12_roundFrom x3 x7 s l).1 (x7 + 1) (f_X12_roundFrom x4 (x5 &&& (x7 ^^^ (-1 : Int32))) (f_X12_roundFrom x3 x7 s l).2.1 (f_X12_roundFrom x3 x7 s l).2.2).2.1 (f_X12_roundFrom x4 (x5 &&& (x7 ^^^ (-1 : Int32))) (f_X12_roundFrom x3 x7 s l).2.1 (f_X12_roundFrom x3 x7 s l).2.2).2.2))) ∧ (¬ ((f_X12_roundFrom x4 (x5 &&& (x7 ^^^ (-1 : Int32))) (f_X12_roundFrom x3 x7 s l).2.1 (f_X12_roundFrom x3 x7 s l).2.2).1 ≤ (f_X12_roundFrom x3 x7 s l).1) → (((x6 ≤ (f_X12_roundFrom x4 (x5 &&& (x7 ^^^ (-1 : Int32))) (f_X12_roundFrom x3 x7 s l).2.1 (f_X12_roundFrom x3 x7 s l).2.2).1) → p_X12_share_80 n x3 x4 x5 x6 (x7 + 1) (f_X12_roundFrom x4 (x5 &&& (x7 ^^^ (-1 : Int32))) (f_X12_roundFrom x3 x7 s l).2.1 (f_X12_roundFrom x3 x7 s l).2.2).2.1 (f_X12_roundFrom x4 (x5 &&& (x7 ^^^ (-1 : Int32))) (f_X12_roundFrom x3 x7 s l).2.1 (f_X12_roundFrom x3 x7 s l).2.2).2.2) ∧ (¬ (x6 ≤ (f_X12_roundFrom x4 (x5 &&& (x7 ^^^ (-1 : Int32))) (f_X12_roundFrom x3 x7 s l).2.1 (f_X12_roundFrom x3 x7 s l).2.2).1) → p_X12_share_80 n x3 x4 x5 (f_X12_roundFrom x4 (x5 &&& (x7 ^^^ (-1 : Int32))) (f_X12_roundFrom x3 x7 s l).2.1 (f_X12_roundFrom x3 x7 s l).2.2).1 (x7 + 1) (f_X12_roundFrom x4 (x5 &&& (x7 ^^^ (-1 : Int32))) (f_X12_roundFrom x3 x7 s l).2.1 (f_X12_roundFrom x3 x7 s l).2.2).2.1 (f_X12_roundFrom x4 (x5 &&& (x7 ^^^ (-1 : Int32))) (f_X12_roundFrom x3 x7 s l).2.1 (f_X12_roundFrom x3 x7 s l).2.2).2.2))))))

set_option maxRecDepth 100000 in
set_option maxHeartbeats 4000000 in
theorem lp_X12_share_80 {G : ab_G} {d : Nat} {D : fl_D} : ∀ (n : Nat) (x3 : Int32) (x4 : Int32) (x5 : Int32) (x6 : Int32) (x7 : Int32) (s : fl_I) (l : fl_L), p_X12_share_80 n x3 x4 x5 x6 x7 s l → ab_C G (d + 3) 0 0 M_X12_share 80 [some (.ref 60), none, none, some (.int x3), some (.int x4), some (.int x5), some (.int x6), some (.int x7), none, none] [] (hp D s l) (rt (some (.int (f_X12_share_80 n x3 x4 x5 x6 x7 s l).1)) (hp D (f_X12_share_80 n x3 x4 x5 x6 x7 s l).2.1 (f_X12_share_80 n x3 x4 x5 x6 x7 s l).2.2)) := by
  intro n
  induction n with
  | zero => intro x3 x4 x5 x6 x7 s l hk; exact hk.elim
  | succ n ih =>
    intro x3 x4 x5 x6 x7 s l hk
    generalize he : f_X12_share_80 (n + 1) x3 x4 x5 x6 x7 s l = res
    unfold f_X12_share_80 at he
    unfold p_X12_share_80 at hk
    refine r_iload rfl rfl ?_
    refine r_iload rfl rfl ?_
    refine r_icmp_gt rfl (fun c_84 => ?_) (fun c_84 => ?_)
    · rw [if_pos c_84] at he
      replace hk := hk.1 c_84
      refine r_iload rfl rfl ?_
      refine r_iret rfl rfl rfl ?_
      subst he
      exact ⟨rfl, rfl⟩
    · rw [if_neg c_84] at he
      replace hk := hk.2 c_84
      refine r_aload_n rfl rfl ?_
      refine r_iload_n rfl rfl ?_
      refine r_iload rfl rfl ?_
      obtain ⟨hb7, hk⟩ := hk
      refine q_callV0 [_, _] _ rfl kY_X12_roundFrom kT_X12_roundFrom rfl rfl (Nat.le_of_ble_eq_true rfl) (Nat.le_of_ble_eq_true rfl) (cc_60 _) (s_X12_roundFrom hb7) (fun r h q => ?_)
      obtain ⟨rfl, rfl⟩ := q
      simp only [Option.toList, List.cons_append, List.nil_append]
      refine r_istore rfl (Nat.le_of_ble_eq_true rfl) rfl ?_
      refine r_aload_n rfl rfl ?_
      refine r_iload rfl rfl ?_
      refine r_iload rfl rfl ?_
      refine r_iload rfl rfl ?_
      refine r_iconst_ (a := -1) rfl (by decide) ?_
      refine r_ixor rfl ?_
      refine r_iand rfl ?_
      obtain ⟨hb8, hk⟩ := hk
      refine q_callV0 [_, _] _ rfl kY_X12_roundFrom kT_X12_roundFrom rfl rfl (Nat.le_of_ble_eq_true rfl) (Nat.le_of_ble_eq_true rfl) (cc_60 _) (s_X12_roundFrom hb8) (fun r h q => ?_)
      obtain ⟨rfl, rfl⟩ := q
      simp only [Option.toList, List.cons_append, List.nil_append]
      refine r_istore rfl (Nat.le_of_ble_eq_true rfl) rfl ?_
      refine r_iload rfl rfl ?_
      refine r_iload rfl rfl ?_
      refine r_icmp_le rfl (fun c_115 => ?_) (fun c_115 => ?_)
      · rw [if_pos c_115] at he
        replace hk := hk.1 c_115
        refine r_iload rfl rfl ?_
        refine r_iload rfl rfl ?_
        refine r_icmp_ge rfl (fun c_126 => ?_) (fun c_126 => ?_)
        · rw [if_pos c_126] at he
          replace hk := hk.1 c_126
          refine r_iinc (b := x7 + 1) rfl rfl rfl (Nat.le_of_ble_eq_true rfl) rfl ?_
          refine r_goto rfl ?_
          subst he
          exact r_weak (L1 := [some (.ref 60), none, none, some (.int x3), some (.int x4), some (.int x5), some (.int x6), some (.int (x7 + 1)), none, none]) ⟨rfl, rfl, rfl, rfl, rfl, rfl, trivial⟩ (ih _ _ _ _ _ _ _ hk)
        · rw [if_neg c_126] at he
          replace hk := hk.2 c_126
          refine r_iload rfl rfl ?_
          refine r_istore rfl (Nat.le_of_ble_eq_true rfl) rfl ?_
          refine r_iinc (b := x7 + 1) rfl rfl rfl (Nat.le_of_ble_eq_true rfl) rfl ?_
          refine r_goto rfl ?_
          subst he
          exact r_weak (L1 := [some (.ref 60), none, none, some (.int x3), some (.int x4), some (.int x5), some (.int (f_X12_roundFrom x3 x7 s l).1), some (.int (x7 + 1)), none, none]) ⟨rfl, rfl, rfl, rfl, rfl, rfl, trivial⟩ (ih _ _ _ _ _ _ _ hk)
      · rw [if_neg c_115] at he
        replace hk := hk.2 c_115
        refine r_iload rfl rfl ?_
        refine r_istore rfl (Nat.le_of_ble_eq_true rfl) rfl ?_
        refine r_iload rfl rfl ?_
        refine r_iload rfl rfl ?_
        refine r_icmp_ge rfl (fun c_126 => ?_) (fun c_126 => ?_)
        · rw [if_pos c_126] at he
          replace hk := hk.1 c_126
          refine r_iinc (b := x7 + 1) rfl rfl rfl (Nat.le_of_ble_eq_true rfl) rfl ?_
          refine r_goto rfl ?_
          subst he
          exact r_weak (L1 := [some (.ref 60), none, none, some (.int x3), some (.int x4), some (.int x5), some (.int x6), some (.int (x7 + 1)), none, none]) ⟨rfl, rfl, rfl, rfl, rfl, rfl, trivial⟩ (ih _ _ _ _ _ _ _ hk)
        · rw [if_neg c_126] at he
          replace hk := hk.2 c_126
          refine r_iload rfl rfl ?_
          refine r_istore rfl (Nat.le_of_ble_eq_true rfl) rfl ?_
          refine r_iinc (b := x7 + 1) rfl rfl rfl (Nat.le_of_ble_eq_true rfl) rfl ?_
          refine r_goto rfl ?_
          subst he
          exact r_weak (L1 := [some (.ref 60), none, none, some (.int x3), some (.int x4), some (.int x5), some (.int (f_X12_roundFrom x4 (x5 &&& (x7 ^^^ (-1 : Int32))) (f_X12_roundFrom x3 x7 s l).2.1 (f_X12_roundFrom x3 x7 s l).2.2).1), some (.int (x7 + 1)), none, none]) ⟨rfl, rfl, rfl, rfl, rfl, rfl, trivial⟩ (ih _ _ _ _ _ _ _ hk)

def f_X12_share (v0 : Int32) (v1 : Int32) (s : fl_I) (l : fl_L) : Int32 × fl_I × fl_L :=
  if ((f_X12_isPicker v0 s l) = 0) then ((-1 : Int32), s, l) else if ((f_X12_isPicker v1 s l) = 0) then ((-1 : Int32), s, l) else if (v0 = v1) then ((-1 : Int32), s, l) else if (((f_X12_fillsCells (-1 : Int32) (-1 : Int32) (f_X12_copies s l).1 (f_X12_copies s l).2).1 60 60) ≤ (10 : Int32)) then f_X12_share_80 fu (f_X12_cellOfPicker v0 (f_X12_copies s l).1 (f_X12_copies s l).2) (f_X12_cellOfPicker v1 (f_X12_copies s l).1 (f_X12_copies s l).2) (((1 : Int32) <<< (((f_X12_fillsRest (f_X12_fillsCells (-1 : Int32) (-1 : Int32) (f_X12_copies s l).1 (f_X12_copies s l).2).1 (f_X12_fillsCells (-1 : Int32) (-1 : Int32) (f_X12_copies s l).1 (f_X12_copies s l).2).2).1 60 60) &&& 31)) - (1 : Int32)) (9999 : Int32) (0 : Int32) (f_X12_fillsRest (f_X12_fillsCells (-1 : Int32) (-1 : Int32) (f_X12_copies s l).1 (f_X12_copies s l).2).1 (f_X12_fillsCells (-1 : Int32) (-1 : Int32) (f_X12_copies s l).1 (f_X12_copies s l).2).2).1 (f_X12_fillsRest (f_X12_fillsCells (-1 : Int32) (-1 : Int32) (f_X12_copies s l).1 (f_X12_copies s l).2).1 (f_X12_fillsCells (-1 : Int32) (-1 : Int32) (f_X12_copies s l).1 (f_X12_copies s l).2).2).2 else ((-3 : Int32), (f_X12_fillsCells (-1 : Int32) (-1 : Int32) (f_X12_copies s l).1 (f_X12_copies s l).2).1, (f_X12_fillsCells (-1 : Int32) (-1 : Int32) (f_X12_copies s l).1 (f_X12_copies s l).2).2)

def p_X12_share (v0 : Int32) (v1 : Int32) (s : fl_I) (l : fl_L) : Prop :=
  (p_X12_isPicker v0 s l) ∧ ((((f_X12_isPicker v0 s l) = 0) → True) ∧ (¬ ((f_X12_isPicker v0 s l) = 0) → (p_X12_isPicker v1 s l) ∧ ((((f_X12_isPicker v1 s l) = 0) → True) ∧ (¬ ((f_X12_isPicker v1 s l) = 0) → (((v0 = v1) → True) ∧ (¬ (v0 = v1) → (p_X12_copies s l) ∧ (p_X12_cellOfPicker v0 (f_X12_copies s l).1 (f_X12_copies s l).2) ∧ (p_X12_cellOfPicker v1 (f_X12_copies s l).1 (f_X12_copies s l).2) ∧ (p_X12_fillsCells (-1 : Int32) (-1 : Int32) (f_X12_copies s l).1 (f_X12_copies s l).2) ∧ (((((f_X12_fillsCells (-1 : Int32) (-1 : Int32) (f_X12_copies s l).1 (f_X12_copies s l).2).1 60 60) ≤ (10 : Int32)) → (p_X12_fillsRest (f_X12_fillsCells (-1 : Int32) (-1 : Int32) (f_X12_copies s l).1 (f_X12_copies s l).2).1 (f_X12_fillsCells (-1 : Int32) (-1 : Int32) (f_X12_copies s l).1 (f_X12_copies s l).2).2) ∧ p_X12_share_80 fu (f_X12_cellOfPicker v0 (f_X12_copies s l).1 (f_X12_copies s l).2) (f_X12_cellOfPicker v1 (f_X12_copies s l).1 (f_X12_copies s l).2) (((1 : Int32) <<< (((f_X12_fillsRest (f_X12_fillsCells (-1 : Int32) (-1 : Int32) (f_X12_copies s l).1 (f_X12_copies s l).2).1 (f_X12_fillsCells (-1 : Int32) (-1 : Int32) (f_X12_copies s l).1 (f_X12_copies s l).2).2).1 60 60) &&& 31)) - (1 : Int32)) (9999 : Int32) (0 : Int32) (f_X12_fillsRest (f_X12_fillsCells (-1 : Int32) (-1 : Int32) (f_X12_copies s l).1 (f_X12_copies s l).2).1 (f_X12_fillsCells (-1 : Int32) (-1 : Int32) (f_X12_copies s l).1 (f_X12_copies s l).2).2).1 (f_X12_fillsRest (f_X12_fillsCells (-1 : Int32) (-1 : Int32) (f_X12_copies s l).1 (f_X12_copies s l).2).1 (f_X12_fillsCells (-1 : Int32) (-1 : Int32) (f_X12_copies s l).1 (f_X12_copies s l).2).2).2) ∧ (¬ (((f_X12_fillsCells (-1 : Int32) (-1 : Int32) (f_X12_copies s l).1 (f_X12_copies s l).2).1 60 60) ≤ (10 : Int32)) → True))))))))

set_option maxRecDepth 100000 in
set_option maxHeartbeats 4000000 in
theorem s_X12_share {G : ab_G} {d : Nat} {D : fl_D} {s : fl_I} {l : fl_L} {v0 : Int32} {v1 : Int32} (hk : p_X12_share v0 v1 s l) : ab_C G (d + 3) 0 0 M_X12_share 0 (ab_ent [.ref 60, .int v0, .int v1]) [] (hp D s l) (rt (some (.int (f_X12_share v0 v1 s l).1)) (hp D (f_X12_share v0 v1 s l).2.1 (f_X12_share v0 v1 s l).2.2)) := by
  generalize he : (f_X12_share v0 v1 s l) = res
  unfold f_X12_share at he
  unfold p_X12_share at hk
  refine r_weak (L1 := [some (.ref 60), some (.int v0), some (.int v1), none, none, none, none, none, none, none]) ⟨rfl, rfl, rfl, trivial⟩ ?_
  refine r_aload_n rfl rfl ?_
  refine r_iload_n rfl rfl ?_
  obtain ⟨hb0, hk⟩ := hk
  refine q_callV0 [_] _ rfl kY_X12_isPicker kT_X12_isPicker rfl rfl (Nat.le_of_ble_eq_true rfl) (Nat.le_of_ble_eq_true rfl) (cc_60 _) (s_X12_isPicker hb0) (fun r h q => ?_)
  obtain ⟨rfl, rfl⟩ := q
  simp only [Option.toList, List.cons_append, List.nil_append]
  refine r_if_eq rfl (fun c_5 => ?_) (fun c_5 => ?_)
  · rw [if_pos c_5] at he
    replace hk := hk.1 c_5
    refine r_iconst_ (a := -1) rfl (by decide) ?_
    refine r_iret rfl rfl rfl ?_
    subst he
    exact ⟨rfl, rfl⟩
  · rw [if_neg c_5] at he
    replace hk := hk.2 c_5
    refine r_aload_n rfl rfl ?_
    refine r_iload_n rfl rfl ?_
    obtain ⟨hb1, hk⟩ := hk
    refine q_callV0 [_] _ rfl kY_X12_isPicker kT_X12_isPicker rfl rfl (Nat.le_of_ble_eq_true rfl) (Nat.le_of_ble_eq_true rfl) (cc_60 _) (s_X12_isPicker hb1) (fun r h q => ?_)
    obtain ⟨rfl, rfl⟩ := q
    simp only [Option.toList, List.cons_append, List.nil_append]
    refine r_if_eq rfl (fun c_13 => ?_) (fun c_13 => ?_)
    · rw [if_pos c_13] at he
      replace hk := hk.1 c_13
      refine r_iconst_ (a := -1) rfl (by decide) ?_
      refine r_iret rfl rfl rfl ?_
      subst he
      exact ⟨rfl, rfl⟩
    · rw [if_neg c_13] at he
      replace hk := hk.2 c_13
      refine r_iload_n rfl rfl ?_
      refine r_iload_n rfl rfl ?_
      refine r_icmp_ne rfl (fun c_18 => ?_) (fun c_18 => ?_)
      · rw [if_neg c_18] at he
        replace hk := hk.2 c_18
        refine r_aload_n rfl rfl ?_
        obtain ⟨hb2, hk⟩ := hk
        refine q_callV0 [] _ rfl kY_X12_copies kT_X12_copies rfl rfl (Nat.le_of_ble_eq_true rfl) (Nat.le_of_ble_eq_true rfl) (cc_60 _) (s_X12_copies hb2) (fun r h q => ?_)
        obtain ⟨rfl, rfl⟩ := q
        simp only [Option.toList, List.cons_append, List.nil_append]
        refine r_aload_n rfl rfl ?_
        refine r_iload_n rfl rfl ?_
        obtain ⟨hb3, hk⟩ := hk
        refine q_callV0 [_] _ rfl kY_X12_cellOfPicker kT_X12_cellOfPicker rfl rfl (Nat.le_of_ble_eq_true rfl) (Nat.le_of_ble_eq_true rfl) (cc_60 _) (s_X12_cellOfPicker hb3) (fun r h q => ?_)
        obtain ⟨rfl, rfl⟩ := q
        simp only [Option.toList, List.cons_append, List.nil_append]
        refine r_istore_n rfl (Nat.le_of_ble_eq_true rfl) rfl ?_
        refine r_aload_n rfl rfl ?_
        refine r_iload_n rfl rfl ?_
        obtain ⟨hb4, hk⟩ := hk
        refine q_callV0 [_] _ rfl kY_X12_cellOfPicker kT_X12_cellOfPicker rfl rfl (Nat.le_of_ble_eq_true rfl) (Nat.le_of_ble_eq_true rfl) (cc_60 _) (s_X12_cellOfPicker hb4) (fun r h q => ?_)
        obtain ⟨rfl, rfl⟩ := q
        simp only [Option.toList, List.cons_append, List.nil_append]
        refine r_istore rfl (Nat.le_of_ble_eq_true rfl) rfl ?_
        refine r_aload_n rfl rfl ?_
        refine r_iconst_ (a := -1) rfl (by decide) ?_
        refine r_iconst_ (a := -1) rfl (by decide) ?_
        obtain ⟨hb5, hk⟩ := hk
        refine q_callV0 [_, _] _ rfl kY_X12_fillsCells kT_X12_fillsCells rfl rfl (Nat.le_of_ble_eq_true rfl) (Nat.le_of_ble_eq_true rfl) (cc_60 _) (s_X12_fillsCells hb5) (fun r h q => ?_)
        obtain ⟨rfl, rfl⟩ := q
        simp only [Option.toList, List.cons_append, List.nil_append]
        refine r_aload_n rfl rfl ?_
        refine q_getfield rfl (cc_60 _) rfl ?_
        refine r_bipush_ (a := 10) rfl (by decide) ?_
        refine r_icmp_le rfl (fun c_52 => ?_) (fun c_52 => ?_)
        · rw [if_pos c_52] at he
          replace hk := hk.1 c_52
          refine r_aload_n rfl rfl ?_
          obtain ⟨hb6, hk⟩ := hk
          refine q_callV0 [] _ rfl kY_X12_fillsRest kT_X12_fillsRest rfl rfl (Nat.le_of_ble_eq_true rfl) (Nat.le_of_ble_eq_true rfl) (cc_60 _) (s_X12_fillsRest hb6) (fun r h q => ?_)
          obtain ⟨rfl, rfl⟩ := q
          simp only [Option.toList, List.cons_append, List.nil_append]
          refine r_iconst_ (a := 1) rfl (by decide) ?_
          refine r_aload_n rfl rfl ?_
          refine q_getfield rfl (cc_60 _) rfl ?_
          refine r_ishl rfl ?_
          refine r_iconst_ (a := 1) rfl (by decide) ?_
          refine r_isub rfl ?_
          refine r_istore rfl (Nat.le_of_ble_eq_true rfl) rfl ?_
          refine r_sipush_ (a := 9999) rfl (by decide) ?_
          refine r_istore rfl (Nat.le_of_ble_eq_true rfl) rfl ?_
          refine r_iconst_ (a := 0) rfl (by decide) ?_
          refine r_istore rfl (Nat.le_of_ble_eq_true rfl) rfl ?_
          subst he
          exact r_weak (L1 := [some (.ref 60), none, none, some (.int (f_X12_cellOfPicker v0 (f_X12_copies s l).1 (f_X12_copies s l).2)), some (.int (f_X12_cellOfPicker v1 (f_X12_copies s l).1 (f_X12_copies s l).2)), some (.int (((1 : Int32) <<< (((f_X12_fillsRest (f_X12_fillsCells (-1 : Int32) (-1 : Int32) (f_X12_copies s l).1 (f_X12_copies s l).2).1 (f_X12_fillsCells (-1 : Int32) (-1 : Int32) (f_X12_copies s l).1 (f_X12_copies s l).2).2).1 60 60) &&& 31)) - (1 : Int32))), some (.int (9999 : Int32)), some (.int (0 : Int32)), none, none]) ⟨rfl, rfl, rfl, rfl, rfl, rfl, trivial⟩ (lp_X12_share_80 fu _ _ _ _ _ _ _ hk)
        · rw [if_neg c_52] at he
          replace hk := hk.2 c_52
          refine r_bipush_ (a := -3) rfl (by decide) ?_
          refine r_iret rfl rfl rfl ?_
          subst he
          exact ⟨rfl, rfl⟩
      · rw [if_pos c_18] at he
        replace hk := hk.1 c_18
        refine r_iconst_ (a := -1) rfl (by decide) ?_
        refine r_iret rfl rfl rfl ?_
        subst he
        exact ⟨rfl, rfl⟩

def f_X9_blow_10 : Nat → Int32 → Nat → Nat → fl_I → fl_L → fl_I × fl_L
  | 0, x3, t, a, s, l => (s, l)
  | n + 1, x3, t, a, s, l =>
    if ((s a 1) ≤ x3) then (s, l) else if ((s (a + 1) x3.toNatClampNeg) < (80 : Int32)) then if ((f_X1_ofPiece (0 : Int32) x3 (s 50 (s (a + 1) x3.toNatClampNeg).toNatClampNeg) t a s l).1 ≤ 0) then f_X9_blow_10 n (x3 + 1) t a (wi (f_X1_ofPiece (0 : Int32) x3 (s 50 (s (a + 1) x3.toNatClampNeg).toNatClampNeg) t a s l).2.1 (a + 2) x3.toNatClampNeg (i_min (999 : Int32) (((f_X1_ofPiece (0 : Int32) x3 (s 50 (s (a + 1) x3.toNatClampNeg).toNatClampNeg) t a s l).2.1 (a + 2) x3.toNatClampNeg) + (1 : Int32)))) (f_X1_ofPiece (0 : Int32) x3 (s 50 (s (a + 1) x3.toNatClampNeg).toNatClampNeg) t a s l).2.2 else f_X9_blow_10 n (x3 + 1) t a (wi (wi (f_X1_ofPiece (0 : Int32) x3 (s 50 (s (a + 1) x3.toNatClampNeg).toNatClampNeg) t a s l).2.1 (a + 1) x3.toNatClampNeg (((10 : Int32) * (f_X11_held (((s (a + 1) x3.toNatClampNeg) / (10 : Int32)) + ((f_X1_ofPiece (0 : Int32) x3 (s 50 (s (a + 1) x3.toNatClampNeg).toNatClampNeg) t a s l).2.1 t 16)) (7 : Int32))) + (f_X11_held (((s (a + 1) x3.toNatClampNeg) - (s (a + 1) x3.toNatClampNeg) / (10 : Int32) * (10 : Int32)) + ((f_X1_ofPiece (0 : Int32) x3 (s 50 (s (a + 1) x3.toNatClampNeg).toNatClampNeg) t a s l).2.1 t 15)) (9 : Int32)))) (a + 2) x3.toNatClampNeg (0 : Int32)) (f_X1_ofPiece (0 : Int32) x3 (s 50 (s (a + 1) x3.toNatClampNeg).toNatClampNeg) t a s l).2.2 else f_X9_blow_10 n (x3 + 1) t a s l

def p_X9_blow_10 : Nat → Int32 → Nat → Nat → fl_I → fl_L → Prop
  | 0, _, _, _, _, _ => False
  | n + 1, x3, t, a, s, l =>
    ((((s a 1) ≤ x3) → True) ∧ (¬ ((s a 1) ≤ x3) → (vp_in x3 32) ∧ ((((s (a + 1) x3.toNatClampNeg) < (80 : Int32)) → (vp_in (s (a + 1) x3.toNatClampNeg) 80) ∧ (p_X1_ofPiece (0 : Int32) x3 (s 50 (s (a + 1) x3.toNatClampNeg).toNatClampNeg) t a s l) ∧ ((((f_X1_ofPiece (0 : Int32) x3 (s 50 (s (a + 1) x3.toNatClampNeg).toNatClampNeg) t a s l).1 ≤ 0) → (vp_in x3 32) ∧ (vp_in x3 32) ∧ p_X9_blow_10 n (x3 + 1) t a (wi (f_X1_ofPiece (0 : Int32) x3 (s 50 (s (a + 1) x3.toNatClampNeg).toNatClampNeg) t a s l).2.1 (a + 2) x3.toNatClampNeg (i_min (999 : Int32) (((f_X1_ofPiece (0 : Int32) x3 (s 50 (s (a + 1) x3.toNatClampNeg).toNatClampNeg) t a s l).2.1 (a + 2) x3.toNatClampNeg) + (1 : Int32)))) (f_X1_ofPiece (0 : Int32) x3 (s 50 (s (a + 1) x3.toNatClampNeg).toNatClampNeg) t a s l).2.2) ∧ (¬ ((f_X1_ofPiece (0 : Int32) x3 (s 50 (s (a + 1) x3.toNatClampNeg).toNatClampNeg) t a s l).1 ≤ 0) → (p_X11_held (((s (a + 1) x3.toNatClampNeg) - (s (a + 1) x3.toNatClampNeg) / (10 : Int32) * (10 : Int32)) + ((f_X1_ofPiece (0 : Int32) x3 (s 50 (s (a + 1) x3.toNatClampNeg).toNatClampNeg) t a s l).2.1 t 15)) (9 : Int32)) ∧ (p_X11_held (((s (a + 1) x3.toNatClampNeg) / (10 : Int32)) + ((f_X1_ofPiece (0 : Int32) x3 (s 50 (s (a + 1) x3.toNatClampNeg).toNatClampNeg) t a s l).2.1 t 16)) (7 : Int32)) ∧ (vp_in x3 32) ∧ (vp_in x3 32) ∧ p_X9_blow_10 n (x3 + 1) t a (wi (wi (f_X1_ofPiece (0 : Int32) x3 (s 50 (s (a + 1) x3.toNatClampNeg).toNatClampNeg) t a s l).2.1 (a + 1) x3.toNatClampNeg (((10 : Int32) * (f_X11_held (((s (a + 1) x3.toNatClampNeg) / (10 : Int32)) + ((f_X1_ofPiece (0 : Int32) x3 (s 50 (s (a + 1) x3.toNatClampNeg).toNatClampNeg) t a s l).2.1 t 16)) (7 : Int32))) + (f_X11_held (((s (a + 1) x3.toNatClampNeg) - (s (a + 1) x3.toNatClampNeg) / (10 : Int32) * (10 : Int32)) + ((f_X1_ofPiece (0 : Int32) x3 (s 50 (s (a + 1) x3.toNatClampNeg).toNatClampNeg) t a s l).2.1 t 15)) (9 : Int32)))) (a + 2) x3.toNatClampNeg (0 : Int32)) (f_X1_ofPiece (0 : Int32) x3 (s 50 (s (a + 1) x3.toNatClampNeg).toNatClampNeg) t a s l).2.2))) ∧ (¬ ((s (a + 1) x3.toNatClampNeg) < (80 : Int32)) → p_X9_blow_10 n (x3 + 1) t a s l))))

set_option maxRecDepth 100000 in
set_option maxHeartbeats 4000000 in
theorem lp_X9_blow_10 {G : ab_G} {d : Nat} {D : fl_D} {t : Nat} (htt : isT t) {a : Nat} (hya : isY D a) : ∀ (n : Nat) (x3 : Int32) (s : fl_I) (l : fl_L), p_X9_blow_10 n x3 t a s l → ab_C G (d + 3) 0 0 M_X9_blow 10 [some (.ref 46), some (.ref t), some (.ref a), some (.int x3), none, none, none] [] (hp D s l) (rt none (hp D (f_X9_blow_10 n x3 t a s l).1 (f_X9_blow_10 n x3 t a s l).2)) := by
  intro n
  induction n with
  | zero => intro x3 s l hk; exact hk.elim
  | succ n ih =>
    intro x3 s l hk
    generalize he : f_X9_blow_10 (n + 1) x3 t a s l = res
    unfold f_X9_blow_10 at he
    unfold p_X9_blow_10 at hk
    refine r_iload_n rfl rfl ?_
    refine r_aload_n rfl rfl ?_
    refine q_getfield rfl (cY_0 hya) rfl ?_
    refine r_icmp_ge rfl (fun c_15 => ?_) (fun c_15 => ?_)
    · rw [if_pos c_15] at he
      replace hk := hk.1 c_15
      refine r_ret rfl rfl ?_
      subst he
      exact ⟨rfl, rfl⟩
    · rw [if_neg c_15] at he
      replace hk := hk.2 c_15
      refine r_aload_n rfl rfl ?_
      refine q_getfield rfl (cY_0 hya) rfl ?_
      refine r_iload_n rfl rfl ?_
      obtain ⟨hb1, hk⟩ := hk
      refine q_iald rfl (cY_1 hya) hb1 ?_
      refine r_istore rfl (Nat.le_of_ble_eq_true rfl) rfl ?_
      refine r_iload rfl rfl ?_
      refine r_bipush_ (a := 80) rfl (by decide) ?_
      refine r_icmp_lt rfl (fun c_30 => ?_) (fun c_30 => ?_)
      · rw [if_pos c_30] at he
        replace hk := hk.1 c_30
        refine r_aload_n rfl rfl ?_
        refine q_getfield rfl (cc_46 _) rfl ?_
        refine r_iconst_ (a := 0) rfl (by decide) ?_
        refine r_aload_n rfl rfl ?_
        refine r_aload_n rfl rfl ?_
        refine r_iload_n rfl rfl ?_
        refine r_aload_n rfl rfl ?_
        refine q_getfield rfl (cc_46 _) rfl ?_
        refine r_iload rfl rfl ?_
        obtain ⟨hb2, hk⟩ := hk
        refine q_iald rfl (cc_50 _) hb2 ?_
        obtain ⟨hb3, hk⟩ := hk
        refine q_callV0 [_, _, _, _, _] _ rfl kY_X1_ofPiece kT_X1_ofPiece rfl rfl (Nat.le_of_ble_eq_true rfl) (Nat.le_of_ble_eq_true rfl) (cc_47 _) (s_X1_ofPiece htt hya hb3) (fun r h q => ?_)
        obtain ⟨rfl, rfl⟩ := q
        simp only [Option.toList, List.cons_append, List.nil_append]
        refine r_if_le rfl (fun c_54 => ?_) (fun c_54 => ?_)
        · rw [if_pos c_54] at he
          replace hk := hk.1 c_54
          refine r_aload_n rfl rfl ?_
          refine q_getfield rfl (cY_0 hya) rfl ?_
          refine r_iload_n rfl rfl ?_
          refine r_sipush_ (a := 999) rfl (by decide) ?_
          refine r_aload_n rfl rfl ?_
          refine q_getfield rfl (cY_0 hya) rfl ?_
          refine r_iload_n rfl rfl ?_
          obtain ⟨hb4, hk⟩ := hk
          refine q_iald rfl (cY_2 hya) hb4 ?_
          refine r_iconst_ (a := 1) rfl (by decide) ?_
          refine r_iadd rfl ?_
          refine r_mmin rfl (Nat.le_of_ble_eq_true rfl) ?_
          obtain ⟨hb5, hk⟩ := hk
          refine w_iast rfl (cY_2 hya) hb5 ?_
          refine r_iinc (b := x3 + 1) rfl rfl rfl (Nat.le_of_ble_eq_true rfl) rfl ?_
          refine r_goto rfl ?_
          subst he
          exact r_weak (L1 := [some (.ref 46), some (.ref t), some (.ref a), some (.int (x3 + 1)), none, none, none]) ⟨rfl, rfl, rfl, rfl, trivial⟩ (ih _ _ _ hk)
        · rw [if_neg c_54] at he
          replace hk := hk.2 c_54
          refine r_iload rfl rfl ?_
          refine r_bipush_ (a := 10) rfl (by decide) ?_
          refine r_irem rfl (by decide) ?_
          refine r_aload_n rfl rfl ?_
          refine q_getfield rfl (cT_0 htt) rfl ?_
          refine r_iadd rfl ?_
          refine r_bipush_ (a := 9) rfl (by decide) ?_
          obtain ⟨hb6, hk⟩ := hk
          refine r_callSN0 [_, _] _ rfl kY_X11_held kT_X11_held rfl rfl (Nat.le_of_ble_eq_true rfl) (Nat.le_of_ble_eq_true rfl) (s_X11_held hb6) (fun r h q => ?_)
          obtain ⟨rfl, rfl⟩ := q
          simp only [Option.toList, List.cons_append, List.nil_append]
          refine r_istore rfl (Nat.le_of_ble_eq_true rfl) rfl ?_
          refine r_iload rfl rfl ?_
          refine r_bipush_ (a := 10) rfl (by decide) ?_
          refine r_idiv rfl (by decide) ?_
          refine r_aload_n rfl rfl ?_
          refine q_getfield rfl (cT_0 htt) rfl ?_
          refine r_iadd rfl ?_
          refine r_bipush_ (a := 7) rfl (by decide) ?_
          obtain ⟨hb7, hk⟩ := hk
          refine r_callSN0 [_, _] _ rfl kY_X11_held kT_X11_held rfl rfl (Nat.le_of_ble_eq_true rfl) (Nat.le_of_ble_eq_true rfl) (s_X11_held hb7) (fun r h q => ?_)
          obtain ⟨rfl, rfl⟩ := q
          simp only [Option.toList, List.cons_append, List.nil_append]
          refine r_istore rfl (Nat.le_of_ble_eq_true rfl) rfl ?_
          refine r_aload_n rfl rfl ?_
          refine q_getfield rfl (cY_0 hya) rfl ?_
          refine r_iload_n rfl rfl ?_
          refine r_bipush_ (a := 10) rfl (by decide) ?_
          refine r_iload rfl rfl ?_
          refine r_imul rfl ?_
          refine r_iload rfl rfl ?_
          refine r_iadd rfl ?_
          obtain ⟨hb8, hk⟩ := hk
          refine w_iast rfl (cY_1 hya) hb8 ?_
          refine r_aload_n rfl rfl ?_
          refine q_getfield rfl (cY_0 hya) rfl ?_
          refine r_iload_n rfl rfl ?_
          refine r_iconst_ (a := 0) rfl (by decide) ?_
          obtain ⟨hb9, hk⟩ := hk
          refine w_iast rfl (cY_2 hya) hb9 ?_
          refine r_goto rfl ?_
          refine r_iinc (b := x3 + 1) rfl rfl rfl (Nat.le_of_ble_eq_true rfl) rfl ?_
          refine r_goto rfl ?_
          subst he
          exact r_weak (L1 := [some (.ref 46), some (.ref t), some (.ref a), some (.int (x3 + 1)), none, none, none]) ⟨rfl, rfl, rfl, rfl, trivial⟩ (ih _ _ _ hk)
      · rw [if_neg c_30] at he
        replace hk := hk.2 c_30
        refine r_goto rfl ?_
        refine r_iinc (b := x3 + 1) rfl rfl rfl (Nat.le_of_ble_eq_true rfl) rfl ?_
        refine r_goto rfl ?_
        subst he
        exact r_weak (L1 := [some (.ref 46), some (.ref t), some (.ref a), some (.int (x3 + 1)), none, none, none]) ⟨rfl, rfl, rfl, rfl, trivial⟩ (ih _ _ _ hk)

def f_X9_blow (t : Nat) (a : Nat) (s : fl_I) (l : fl_L) : fl_I × fl_L :=
  f_X9_blow_10 fu (0 : Int32) t a (f_X10_countAll a 50 s l).1 (f_X10_countAll a 50 s l).2

def p_X9_blow (t : Nat) (a : Nat) (s : fl_I) (l : fl_L) : Prop :=
  (p_X10_countAll a 50 s l) ∧ p_X9_blow_10 fu (0 : Int32) t a (f_X10_countAll a 50 s l).1 (f_X10_countAll a 50 s l).2

set_option maxRecDepth 100000 in
set_option maxHeartbeats 4000000 in
theorem s_X9_blow {G : ab_G} {d : Nat} {D : fl_D} {s : fl_I} {l : fl_L} {t : Nat} (htt : isT t) {a : Nat} (hya : isY D a)  (hk : p_X9_blow t a s l) : ab_C G (d + 3) 0 0 M_X9_blow 0 (ab_ent [.ref 46, .ref t, .ref a]) [] (hp D s l) (rt none (hp D (f_X9_blow t a s l).1 (f_X9_blow t a s l).2)) := by
  generalize he : (f_X9_blow t a s l) = res
  unfold f_X9_blow at he
  unfold p_X9_blow at hk
  refine r_weak (L1 := [some (.ref 46), some (.ref t), some (.ref a), none, none, none, none]) ⟨rfl, rfl, rfl, trivial⟩ ?_
  refine r_aload_n rfl rfl ?_
  refine r_aload_n rfl rfl ?_
  refine q_getfield rfl (cc_46 _) rfl ?_
  obtain ⟨hb0, hk⟩ := hk
  refine q_callV0 [_] _ rfl kY_X10_countAll kT_X10_countAll rfl rfl (Nat.le_of_ble_eq_true rfl) (Nat.le_of_ble_eq_true rfl) (cY_0 hya) (s_X10_countAll hya (cc_50 _) hb0) (fun r h q => ?_)
  obtain ⟨rfl, rfl⟩ := q
  simp only [Option.toList, List.cons_append, List.nil_append]
  refine r_iconst_ (a := 0) rfl (by decide) ?_
  refine r_istore_n rfl (Nat.le_of_ble_eq_true rfl) rfl ?_
  subst he
  exact r_weak (L1 := [some (.ref 46), some (.ref t), some (.ref a), some (.int (0 : Int32)), none, none, none]) ⟨rfl, rfl, rfl, rfl, trivial⟩ (lp_X9_blow_10 htt hya fu _ _ _ hk)

def f_X12_lawTells_137 (y0 : Int32) (s : fl_I) (l : fl_L) : Int32 × fl_I × fl_L :=
    if ((s 60 49) = 0) then (y0, s, l) else ((0 : Int32), s, l)

def p_X12_lawTells_137 (y0 : Int32) (s : fl_I) (l : fl_L) : Prop :=
    ((((s 60 49) = 0) → True) ∧ (¬ ((s 60 49) = 0) → True))

set_option maxRecDepth 100000 in
set_option maxHeartbeats 4000000 in
theorem lp_X12_lawTells_137 {G : ab_G} {d : Nat} {D : fl_D} : ∀ (y0 : Int32) (s : fl_I) (l : fl_L), p_X12_lawTells_137 y0 s l → ab_C G (d + 1) 0 0 M_X12_lawTells 137 [some (.ref 60), none, none, none, none, none, none] [.int y0] (hp D s l) (rt (some (.int (f_X12_lawTells_137 y0 s l).1)) (hp D (f_X12_lawTells_137 y0 s l).2.1 (f_X12_lawTells_137 y0 s l).2.2)) := by
  intro y0 s l hk
  generalize he : f_X12_lawTells_137 y0 s l = res
  unfold f_X12_lawTells_137 at he
  unfold p_X12_lawTells_137 at hk
  refine r_istore rfl (Nat.le_of_ble_eq_true rfl) rfl ?_
  refine r_aload_n rfl rfl ?_
  refine q_getfield rfl (cc_60 _) rfl ?_
  refine r_if_eq rfl (fun c_143 => ?_) (fun c_143 => ?_)
  · rw [if_pos c_143] at he
    replace hk := hk.1 c_143
    refine r_iload rfl rfl ?_
    refine r_iret rfl rfl rfl ?_
    subst he
    exact ⟨rfl, rfl⟩
  · rw [if_neg c_143] at he
    replace hk := hk.2 c_143
    refine r_iconst_ (a := 0) rfl (by decide) ?_
    refine r_goto rfl ?_
    refine r_iret rfl rfl rfl ?_
    subst he
    exact ⟨rfl, rfl⟩

def f_X12_lawTells_119 (x4 : Int32) (s : fl_I) (l : fl_L) : Int32 × fl_I × fl_L :=
    f_X12_lawTells_137 (f_X12_termOf (s 87 x4.toNatClampNeg) (s 88 x4.toNatClampNeg) s l).1 (f_X12_termOf (s 87 x4.toNatClampNeg) (s 88 x4.toNatClampNeg) s l).2.1 (f_X12_termOf (s 87 x4.toNatClampNeg) (s 88 x4.toNatClampNeg) s l).2.2

def p_X12_lawTells_119 (x4 : Int32) (s : fl_I) (l : fl_L) : Prop :=
    (vp_in x4 260) ∧ (vp_in x4 260) ∧ (p_X12_termOf (s 87 x4.toNatClampNeg) (s 88 x4.toNatClampNeg) s l) ∧ p_X12_lawTells_137 (f_X12_termOf (s 87 x4.toNatClampNeg) (s 88 x4.toNatClampNeg) s l).1 (f_X12_termOf (s 87 x4.toNatClampNeg) (s 88 x4.toNatClampNeg) s l).2.1 (f_X12_termOf (s 87 x4.toNatClampNeg) (s 88 x4.toNatClampNeg) s l).2.2

set_option maxRecDepth 100000 in
set_option maxHeartbeats 4000000 in
theorem lp_X12_lawTells_119 {G : ab_G} {d : Nat} {D : fl_D} : ∀ (x4 : Int32) (s : fl_I) (l : fl_L), p_X12_lawTells_119 x4 s l → ab_C G (d + 1) 0 0 M_X12_lawTells 119 [some (.ref 60), none, none, none, some (.int x4), none, none] [] (hp D s l) (rt (some (.int (f_X12_lawTells_119 x4 s l).1)) (hp D (f_X12_lawTells_119 x4 s l).2.1 (f_X12_lawTells_119 x4 s l).2.2)) := by
  intro x4 s l hk
  generalize he : f_X12_lawTells_119 x4 s l = res
  unfold f_X12_lawTells_119 at he
  unfold p_X12_lawTells_119 at hk
  refine r_aload_n rfl rfl ?_
  refine r_aload_n rfl rfl ?_
  refine q_getfield rfl (cc_60 _) rfl ?_
  refine r_iload rfl rfl ?_
  obtain ⟨hb5, hk⟩ := hk
  refine q_iald rfl (cc_87 _) hb5 ?_
  refine r_aload_n rfl rfl ?_
  refine q_getfield rfl (cc_60 _) rfl ?_
  refine r_iload rfl rfl ?_
  obtain ⟨hb6, hk⟩ := hk
  refine q_iald rfl (cc_88 _) hb6 ?_
  obtain ⟨hb7, hk⟩ := hk
  refine q_callV0 [_, _] _ rfl kY_X12_termOf kT_X12_termOf rfl rfl (Nat.le_of_ble_eq_true rfl) (Nat.le_of_ble_eq_true rfl) (cc_60 _) (s_X12_termOf hb7) (fun r h q => ?_)
  obtain ⟨rfl, rfl⟩ := q
  simp only [Option.toList, List.cons_append, List.nil_append]
  subst he
  exact r_weak (L1 := [some (.ref 60), none, none, none, none, none, none]) ⟨rfl, trivial⟩ (lp_X12_lawTells_137 _ _ _ hk)

def f_X12_lawTells_98 (K39 : Int32 → Int32 → fl_I → fl_L → Int32 × fl_I × fl_L) (x3 : Int32) (x4 : Int32) (x5 : Int32) (y0 : Int32) (s : fl_I) (l : fl_L) : Int32 × fl_I × fl_L :=
    if ((s 60 49) = 0) then if (x5 < y0) then f_X12_lawTells_119 x4 s l else K39 x3 (x4 + 1) s l else ((0 : Int32), s, l)

def p_X12_lawTells_98 (P39 : Int32 → Int32 → fl_I → fl_L → Prop) (x3 : Int32) (x4 : Int32) (x5 : Int32) (y0 : Int32) (s : fl_I) (l : fl_L) : Prop :=
    ((((s 60 49) = 0) → (((x5 < y0) → p_X12_lawTells_119 x4 s l) ∧ (¬ (x5 < y0) → P39 x3 (x4 + 1) s l))) ∧ (¬ ((s 60 49) = 0) → True))

set_option maxRecDepth 100000 in
set_option maxHeartbeats 4000000 in
theorem lp_X12_lawTells_98 {G : ab_G} {d : Nat} {D : fl_D} (K39 : Int32 → Int32 → fl_I → fl_L → Int32 × fl_I × fl_L) (P39 : Int32 → Int32 → fl_I → fl_L → Prop) (hK39 : ∀ (x3 : Int32) (x4 : Int32) (s : fl_I) (l : fl_L), P39 x3 x4 s l → ab_C G (d + 1) 0 0 M_X12_lawTells 39 [some (.ref 60), none, none, some (.int x3), some (.int x4), none, none] [] (hp D s l) (rt (some (.int (K39 x3 x4 s l).1)) (hp D (K39 x3 x4 s l).2.1 (K39 x3 x4 s l).2.2))) : ∀ (x3 : Int32) (x4 : Int32) (x5 : Int32) (y0 : Int32) (s : fl_I) (l : fl_L), p_X12_lawTells_98 P39 x3 x4 x5 y0 s l → ab_C G (d + 1) 0 0 M_X12_lawTells 98 [some (.ref 60), none, none, some (.int x3), some (.int x4), some (.int x5), none] [.int y0] (hp D s l) (rt (some (.int (f_X12_lawTells_98 K39 x3 x4 x5 y0 s l).1)) (hp D (f_X12_lawTells_98 K39 x3 x4 x5 y0 s l).2.1 (f_X12_lawTells_98 K39 x3 x4 x5 y0 s l).2.2)) := by
  intro x3 x4 x5 y0 s l hk
  generalize he : f_X12_lawTells_98 K39 x3 x4 x5 y0 s l = res
  unfold f_X12_lawTells_98 at he
  unfold p_X12_lawTells_98 at hk
  refine r_istore rfl (Nat.le_of_ble_eq_true rfl) rfl ?_
  refine r_aload_n rfl rfl ?_
  refine q_getfield rfl (cc_60 _) rfl ?_
  refine r_if_eq rfl (fun c_104 => ?_) (fun c_104 => ?_)
  · rw [if_pos c_104] at he
    replace hk := hk.1 c_104
    refine r_iload rfl rfl ?_
    refine r_iload rfl rfl ?_
    refine r_icmp_lt rfl (fun c_113 => ?_) (fun c_113 => ?_)
    · rw [if_pos c_113] at he
      replace hk := hk.1 c_113
      subst he
      exact r_weak (L1 := [some (.ref 60), none, none, none, some (.int x4), none, none]) ⟨rfl, rfl, trivial⟩ (lp_X12_lawTells_119 _ _ _ hk)
    · rw [if_neg c_113] at he
      replace hk := hk.2 c_113
      refine r_goto rfl ?_
      refine r_iinc (b := x4 + 1) rfl rfl rfl (Nat.le_of_ble_eq_true rfl) rfl ?_
      refine r_goto rfl ?_
      subst he
      exact r_weak (L1 := [some (.ref 60), none, none, some (.int x3), some (.int (x4 + 1)), none, none]) ⟨rfl, rfl, rfl, trivial⟩ (hK39 _ _ _ _ hk)
  · rw [if_neg c_104] at he
    replace hk := hk.2 c_104
    refine r_iconst_ (a := 0) rfl (by decide) ?_
    refine r_iret rfl rfl rfl ?_
    subst he
    exact ⟨rfl, rfl⟩

def f_X12_lawTells_78 (K39 : Int32 → Int32 → fl_I → fl_L → Int32 × fl_I × fl_L) (x3 : Int32) (x4 : Int32) (y0 : Int32) (s : fl_I) (l : fl_L) : Int32 × fl_I × fl_L :=
    f_X12_lawTells_98 K39 x3 x4 y0 (f_X12_termOf (s 86 x4.toNatClampNeg) (s 87 x4.toNatClampNeg) s l).1 (f_X12_termOf (s 86 x4.toNatClampNeg) (s 87 x4.toNatClampNeg) s l).2.1 (f_X12_termOf (s 86 x4.toNatClampNeg) (s 87 x4.toNatClampNeg) s l).2.2

def p_X12_lawTells_78 (P39 : Int32 → Int32 → fl_I → fl_L → Prop) (x3 : Int32) (x4 : Int32) (y0 : Int32) (s : fl_I) (l : fl_L) : Prop :=
    (vp_in x4 260) ∧ (vp_in x4 260) ∧ (p_X12_termOf (s 86 x4.toNatClampNeg) (s 87 x4.toNatClampNeg) s l) ∧ p_X12_lawTells_98 P39 x3 x4 y0 (f_X12_termOf (s 86 x4.toNatClampNeg) (s 87 x4.toNatClampNeg) s l).1 (f_X12_termOf (s 86 x4.toNatClampNeg) (s 87 x4.toNatClampNeg) s l).2.1 (f_X12_termOf (s 86 x4.toNatClampNeg) (s 87 x4.toNatClampNeg) s l).2.2

set_option maxRecDepth 100000 in
set_option maxHeartbeats 4000000 in
theorem lp_X12_lawTells_78 {G : ab_G} {d : Nat} {D : fl_D} (K39 : Int32 → Int32 → fl_I → fl_L → Int32 × fl_I × fl_L) (P39 : Int32 → Int32 → fl_I → fl_L → Prop) (hK39 : ∀ (x3 : Int32) (x4 : Int32) (s : fl_I) (l : fl_L), P39 x3 x4 s l → ab_C G (d + 1) 0 0 M_X12_lawTells 39 [some (.ref 60), none, none, some (.int x3), some (.int x4), none, none] [] (hp D s l) (rt (some (.int (K39 x3 x4 s l).1)) (hp D (K39 x3 x4 s l).2.1 (K39 x3 x4 s l).2.2))) : ∀ (x3 : Int32) (x4 : Int32) (y0 : Int32) (s : fl_I) (l : fl_L), p_X12_lawTells_78 P39 x3 x4 y0 s l → ab_C G (d + 1) 0 0 M_X12_lawTells 78 [some (.ref 60), none, none, some (.int x3), some (.int x4), none, none] [.int y0] (hp D s l) (rt (some (.int (f_X12_lawTells_78 K39 x3 x4 y0 s l).1)) (hp D (f_X12_lawTells_78 K39 x3 x4 y0 s l).2.1 (f_X12_lawTells_78 K39 x3 x4 y0 s l).2.2)) := by
  intro x3 x4 y0 s l hk
  generalize he : f_X12_lawTells_78 K39 x3 x4 y0 s l = res
  unfold f_X12_lawTells_78 at he
  unfold p_X12_lawTells_78 at hk
  refine r_istore rfl (Nat.le_of_ble_eq_true rfl) rfl ?_
  refine r_aload_n rfl rfl ?_
  refine r_aload_n rfl rfl ?_
  refine q_getfield rfl (cc_60 _) rfl ?_
  refine r_iload rfl rfl ?_
  obtain ⟨hb11, hk⟩ := hk
  refine q_iald rfl (cc_86 _) hb11 ?_
  refine r_aload_n rfl rfl ?_
  refine q_getfield rfl (cc_60 _) rfl ?_
  refine r_iload rfl rfl ?_
  obtain ⟨hb12, hk⟩ := hk
  refine q_iald rfl (cc_87 _) hb12 ?_
  obtain ⟨hb13, hk⟩ := hk
  refine q_callV0 [_, _] _ rfl kY_X12_termOf kT_X12_termOf rfl rfl (Nat.le_of_ble_eq_true rfl) (Nat.le_of_ble_eq_true rfl) (cc_60 _) (s_X12_termOf hb13) (fun r h q => ?_)
  obtain ⟨rfl, rfl⟩ := q
  simp only [Option.toList, List.cons_append, List.nil_append]
  subst he
  exact r_weak (L1 := [some (.ref 60), none, none, some (.int x3), some (.int x4), some (.int y0), none]) ⟨rfl, rfl, rfl, rfl, trivial⟩ (lp_X12_lawTells_98 _ _ hK39 _ _ _ _ _ _ hk)

def f_X12_lawTells_39 : Nat → Int32 → Int32 → fl_I → fl_L → Int32 × fl_I × fl_L
  | 0, x3, x4, s, l => (0, s, l)
  | n + 1, x3, x4, s, l =>
    if ((s 83 x3.toNatClampNeg) ≤ x4) then ((0 : Int32), s, l) else if ((s 84 x4.toNatClampNeg) = 0) then f_X12_lawTells_119 x4 s l else f_X12_lawTells_78 (fun x3 x4 s l => f_X12_lawTells_39 n x3 x4 s l) x3 x4 (f_X12_termOf (s 85 x4.toNatClampNeg) (s 86 x4.toNatClampNeg) s l).1 (f_X12_termOf (s 85 x4.toNatClampNeg) (s 86 x4.toNatClampNeg) s l).2.1 (f_X12_termOf (s 85 x4.toNatClampNeg) (s 86 x4.toNatClampNeg) s l).2.2

def p_X12_lawTells_39 : Nat → Int32 → Int32 → fl_I → fl_L → Prop
  | 0, _, _, _, _ => False
  | n + 1, x3, x4, s, l =>
    (vp_in x3 6) ∧ ((((s 83 x3.toNatClampNeg) ≤ x4) → True) ∧ (¬ ((s 83 x3.toNatClampNeg) ≤ x4) → (vp_in x4 260) ∧ ((((s 84 x4.toNatClampNeg) = 0) → p_X12_lawTells_119 x4 s l) ∧ (¬ ((s 84 x4.toNatClampNeg) = 0) → (vp_in x4 260) ∧ (vp_in x4 260) ∧ (p_X12_termOf (s 85 x4.toNatClampNeg) (s 86 x4.toNatClampNeg) s l) ∧ p_X12_lawTells_78 (fun x3 x4 s l => p_X12_lawTells_39 n x3 x4 s l) x3 x4 (f_X12_termOf (s 85 x4.toNatClampNeg) (s 86 x4.toNatClampNeg) s l).1 (f_X12_termOf (s 85 x4.toNatClampNeg) (s 86 x4.toNatClampNeg) s l).2.1 (f_X12_termOf (s 85 x4.toNatClampNeg) (s 86 x4.toNatClampNeg) s l).2.2))))

set_option maxRecDepth 100000 in
set_option maxHeartbeats 4000000 in
theorem lp_X12_lawTells_39 {G : ab_G} {d : Nat} {D : fl_D} : ∀ (n : Nat) (x3 : Int32) (x4 : Int32) (s : fl_I) (l : fl_L), p_X12_lawTells_39 n x3 x4 s l → ab_C G (d + 1) 0 0 M_X12_lawTells 39 [some (.ref 60), none, none, some (.int x3), some (.int x4), none, none] [] (hp D s l) (rt (some (.int (f_X12_lawTells_39 n x3 x4 s l).1)) (hp D (f_X12_lawTells_39 n x3 x4 s l).2.1 (f_X12_lawTells_39 n x3 x4 s l).2.2)) := by
  intro n
  induction n with
  | zero => intro x3 x4 s l hk; exact hk.elim
  | succ n ih =>
    intro x3 x4 s l hk
    generalize he : f_X12_lawTells_39 (n + 1) x3 x4 s l = res
    unfold f_X12_lawTells_39 at he
    unfold p_X12_lawTells_39 at hk
    refine r_iload rfl rfl ?_
    refine r_aload_n rfl rfl ?_
    refine q_getfield rfl (cc_60 _) rfl ?_
    refine r_iload_n rfl rfl ?_
    obtain ⟨hb3, hk⟩ := hk
    refine q_iald rfl (cc_83 _) hb3 ?_
    refine r_icmp_ge rfl (fun c_47 => ?_) (fun c_47 => ?_)
    · rw [if_pos c_47] at he
      replace hk := hk.1 c_47
      refine r_iconst_ (a := 0) rfl (by decide) ?_
      refine r_iret rfl rfl rfl ?_
      subst he
      exact ⟨rfl, rfl⟩
    · rw [if_neg c_47] at he
      replace hk := hk.2 c_47
      refine r_aload_n rfl rfl ?_
      refine q_getfield rfl (cc_60 _) rfl ?_
      refine r_iload rfl rfl ?_
      obtain ⟨hb4, hk⟩ := hk
      refine q_zald rfl (cc_84 _) hb4 ?_
      refine r_if_eq rfl (fun c_57 => ?_) (fun c_57 => ?_)
      · rw [if_pos c_57] at he
        replace hk := hk.1 c_57
        subst he
        exact r_weak (L1 := [some (.ref 60), none, none, none, some (.int x4), none, none]) ⟨rfl, rfl, trivial⟩ (lp_X12_lawTells_119 _ _ _ hk)
      · rw [if_neg c_57] at he
        replace hk := hk.2 c_57
        refine r_aload_n rfl rfl ?_
        refine r_aload_n rfl rfl ?_
        refine q_getfield rfl (cc_60 _) rfl ?_
        refine r_iload rfl rfl ?_
        obtain ⟨hb8, hk⟩ := hk
        refine q_iald rfl (cc_85 _) hb8 ?_
        refine r_aload_n rfl rfl ?_
        refine q_getfield rfl (cc_60 _) rfl ?_
        refine r_iload rfl rfl ?_
        obtain ⟨hb9, hk⟩ := hk
        refine q_iald rfl (cc_86 _) hb9 ?_
        obtain ⟨hb10, hk⟩ := hk
        refine q_callV0 [_, _] _ rfl kY_X12_termOf kT_X12_termOf rfl rfl (Nat.le_of_ble_eq_true rfl) (Nat.le_of_ble_eq_true rfl) (cc_60 _) (s_X12_termOf hb10) (fun r h q => ?_)
        obtain ⟨rfl, rfl⟩ := q
        simp only [Option.toList, List.cons_append, List.nil_append]
        subst he
        exact r_weak (L1 := [some (.ref 60), none, none, some (.int x3), some (.int x4), none, none]) ⟨rfl, rfl, rfl, trivial⟩ (lp_X12_lawTells_78 _ _ (fun _ _ _ _ h9 => ih _ _ _ _ h9) _ _ _ _ _ hk)

def f_X12_lawTells (v0 : Int32) (v1 : Int32) (s : fl_I) (l : fl_L) : Int32 × fl_I × fl_L :=
  if ((s 82 (((3 : Int32) * (s 60 18)) + v0).toNatClampNeg) = (s 83 (((3 : Int32) * (s 60 18)) + v0).toNatClampNeg)) then (v1, s, l) else f_X12_lawTells_39 fu (((3 : Int32) * (s 60 18)) + v0) ((wi s 60 49 (0 : Int32)) 82 (((3 : Int32) * (s 60 18)) + v0).toNatClampNeg) (wi s 60 49 (0 : Int32)) l

def p_X12_lawTells (v0 : Int32) (v1 : Int32) (s : fl_I) (l : fl_L) : Prop :=
  (vp_in (((3 : Int32) * (s 60 18)) + v0) 6) ∧ (vp_in (((3 : Int32) * (s 60 18)) + v0) 6) ∧ ((((s 82 (((3 : Int32) * (s 60 18)) + v0).toNatClampNeg) = (s 83 (((3 : Int32) * (s 60 18)) + v0).toNatClampNeg)) → True) ∧ (¬ ((s 82 (((3 : Int32) * (s 60 18)) + v0).toNatClampNeg) = (s 83 (((3 : Int32) * (s 60 18)) + v0).toNatClampNeg)) → (vp_in (((3 : Int32) * (s 60 18)) + v0) 6) ∧ p_X12_lawTells_39 fu (((3 : Int32) * (s 60 18)) + v0) ((wi s 60 49 (0 : Int32)) 82 (((3 : Int32) * (s 60 18)) + v0).toNatClampNeg) (wi s 60 49 (0 : Int32)) l))

set_option maxRecDepth 100000 in
set_option maxHeartbeats 4000000 in
theorem s_X12_lawTells {G : ab_G} {d : Nat} {D : fl_D} {s : fl_I} {l : fl_L} {v0 : Int32} {v1 : Int32} (hk : p_X12_lawTells v0 v1 s l) : ab_C G (d + 1) 0 0 M_X12_lawTells 0 (ab_ent [.ref 60, .int v0, .int v1]) [] (hp D s l) (rt (some (.int (f_X12_lawTells v0 v1 s l).1)) (hp D (f_X12_lawTells v0 v1 s l).2.1 (f_X12_lawTells v0 v1 s l).2.2)) := by
  generalize he : (f_X12_lawTells v0 v1 s l) = res
  unfold f_X12_lawTells at he
  unfold p_X12_lawTells at hk
  refine r_weak (L1 := [some (.ref 60), some (.int v0), some (.int v1), none, none, none, none]) ⟨rfl, rfl, rfl, trivial⟩ ?_
  refine r_iconst_ (a := 3) rfl (by decide) ?_
  refine r_aload_n rfl rfl ?_
  refine q_getfield rfl (cc_60 _) rfl ?_
  refine r_imul rfl ?_
  refine r_iload_n rfl rfl ?_
  refine r_iadd rfl ?_
  refine r_istore_n rfl (Nat.le_of_ble_eq_true rfl) rfl ?_
  refine r_aload_n rfl rfl ?_
  refine q_getfield rfl (cc_60 _) rfl ?_
  refine r_iload_n rfl rfl ?_
  obtain ⟨hb0, hk⟩ := hk
  refine q_iald rfl (cc_82 _) hb0 ?_
  refine r_aload_n rfl rfl ?_
  refine q_getfield rfl (cc_60 _) rfl ?_
  refine r_iload_n rfl rfl ?_
  obtain ⟨hb1, hk⟩ := hk
  refine q_iald rfl (cc_83 _) hb1 ?_
  refine r_icmp_ne rfl (fun c_21 => ?_) (fun c_21 => ?_)
  · rw [if_neg c_21] at he
    replace hk := hk.2 c_21
    refine r_aload_n rfl rfl ?_
    refine r_iconst_ (a := 0) rfl (by decide) ?_
    refine w_putZ rfl (cc_60 _) ff_12_49 ft_12_49 (by decide) (Nat.le_of_ble_eq_true rfl) rfl ?_
    refine r_aload_n rfl rfl ?_
    refine q_getfield rfl (cc_60 _) rfl ?_
    refine r_iload_n rfl rfl ?_
    obtain ⟨hb2, hk⟩ := hk
    refine q_iald rfl (cc_82 _) hb2 ?_
    refine r_istore rfl (Nat.le_of_ble_eq_true rfl) rfl ?_
    subst he
    exact r_weak (L1 := [some (.ref 60), none, none, some (.int (((3 : Int32) * (s 60 18)) + v0)), some (.int ((wi s 60 49 (0 : Int32)) 82 (((3 : Int32) * (s 60 18)) + v0).toNatClampNeg)), none, none]) ⟨rfl, rfl, rfl, trivial⟩ (lp_X12_lawTells_39 fu _ _ _ _ hk)
  · rw [if_pos c_21] at he
    replace hk := hk.1 c_21
    refine r_iload_n rfl rfl ?_
    refine r_iret rfl rfl rfl ?_
    subst he
    exact ⟨rfl, rfl⟩

def f_X12_tellLaw_148 (x1 : Int32) (x2 : Int32) (s : fl_I) (l : fl_L) : fl_I × fl_L :=
    if ((s 60 13) ≤ 0) then ((wi (wi s 82 (((3 : Int32) * (s 60 19)) + x1).toNatClampNeg x2) 83 (((3 : Int32) * ((wi s 82 (((3 : Int32) * (s 60 19)) + x1).toNatClampNeg x2) 60 19)) + x1).toNatClampNeg ((wi s 82 (((3 : Int32) * (s 60 19)) + x1).toNatClampNeg x2) 60 36)), l) else (s, l)

def p_X12_tellLaw_148 (x1 : Int32) (x2 : Int32) (s : fl_I) (l : fl_L) : Prop :=
    ((((s 60 13) ≤ 0) → (vp_in (((3 : Int32) * (s 60 19)) + x1) 6) ∧ (vp_in (((3 : Int32) * ((wi s 82 (((3 : Int32) * (s 60 19)) + x1).toNatClampNeg x2) 60 19)) + x1) 6) ∧ True) ∧ (¬ ((s 60 13) ≤ 0) → True))

set_option maxRecDepth 100000 in
set_option maxHeartbeats 4000000 in
theorem lp_X12_tellLaw_148 {G : ab_G} {d : Nat} {D : fl_D} : ∀ (x1 : Int32) (x2 : Int32) (s : fl_I) (l : fl_L), p_X12_tellLaw_148 x1 x2 s l → ab_C G (d + 5) 0 0 M_X12_tellLaw 148 [some (.ref 60), some (.int x1), some (.int x2), none] [] (hp D s l) (rt none (hp D (f_X12_tellLaw_148 x1 x2 s l).1 (f_X12_tellLaw_148 x1 x2 s l).2)) := by
  intro x1 x2 s l hk
  generalize he : f_X12_tellLaw_148 x1 x2 s l = res
  unfold f_X12_tellLaw_148 at he
  unfold p_X12_tellLaw_148 at hk
  refine r_aload_n rfl rfl ?_
  refine q_getfield rfl (cc_60 _) rfl ?_
  refine r_if_le rfl (fun c_152 => ?_) (fun c_152 => ?_)
  · rw [if_pos c_152] at he
    replace hk := hk.1 c_152
    refine r_aload_n rfl rfl ?_
    refine q_getfield rfl (cc_60 _) rfl ?_
    refine r_iconst_ (a := 3) rfl (by decide) ?_
    refine r_aload_n rfl rfl ?_
    refine q_getfield rfl (cc_60 _) rfl ?_
    refine r_imul rfl ?_
    refine r_iload_n rfl rfl ?_
    refine r_iadd rfl ?_
    refine r_iload_n rfl rfl ?_
    obtain ⟨hb4, hk⟩ := hk
    refine w_iast rfl (cc_82 _) hb4 ?_
    refine r_aload_n rfl rfl ?_
    refine q_getfield rfl (cc_60 _) rfl ?_
    refine r_iconst_ (a := 3) rfl (by decide) ?_
    refine r_aload_n rfl rfl ?_
    refine q_getfield rfl (cc_60 _) rfl ?_
    refine r_imul rfl ?_
    refine r_iload_n rfl rfl ?_
    refine r_iadd rfl ?_
    refine r_aload_n rfl rfl ?_
    refine q_getfield rfl (cc_60 _) rfl ?_
    obtain ⟨hb5, hk⟩ := hk
    refine w_iast rfl (cc_83 _) hb5 ?_
    refine r_ret rfl rfl ?_
    subst he
    exact ⟨rfl, rfl⟩
  · rw [if_neg c_152] at he
    replace hk := hk.2 c_152
    refine r_ret rfl rfl ?_
    subst he
    exact ⟨rfl, rfl⟩

def f_X12_tellLaw_143 (x1 : Int32) (x2 : Int32) (s : fl_I) (l : fl_L) : fl_I × fl_L :=
    f_X12_tellLaw_148 x1 x2 (f_X12_must (4 : Int32) s l).1 (f_X12_must (4 : Int32) s l).2

def p_X12_tellLaw_143 (x1 : Int32) (x2 : Int32) (s : fl_I) (l : fl_L) : Prop :=
    (p_X12_must (4 : Int32) s l) ∧ p_X12_tellLaw_148 x1 x2 (f_X12_must (4 : Int32) s l).1 (f_X12_must (4 : Int32) s l).2

set_option maxRecDepth 100000 in
set_option maxHeartbeats 4000000 in
theorem lp_X12_tellLaw_143 {G : ab_G} {d : Nat} {D : fl_D} : ∀ (x1 : Int32) (x2 : Int32) (s : fl_I) (l : fl_L), p_X12_tellLaw_143 x1 x2 s l → ab_C G (d + 5) 0 0 M_X12_tellLaw 143 [some (.ref 60), some (.int x1), some (.int x2), none] [] (hp D s l) (rt none (hp D (f_X12_tellLaw_143 x1 x2 s l).1 (f_X12_tellLaw_143 x1 x2 s l).2)) := by
  intro x1 x2 s l hk
  generalize he : f_X12_tellLaw_143 x1 x2 s l = res
  unfold f_X12_tellLaw_143 at he
  unfold p_X12_tellLaw_143 at hk
  refine r_aload_n rfl rfl ?_
  refine r_iconst_ (a := 4) rfl (by decide) ?_
  obtain ⟨hb3, hk⟩ := hk
  refine q_callV0 [_] _ rfl kY_X12_must kT_X12_must rfl rfl (Nat.le_of_ble_eq_true rfl) (Nat.le_of_ble_eq_true rfl) (cc_60 _) (s_X12_must hb3) (fun r h q => ?_)
  obtain ⟨rfl, rfl⟩ := q
  simp only [Option.toList, List.cons_append, List.nil_append]
  subst he
  exact r_weak (L1 := [some (.ref 60), some (.int x1), some (.int x2), none]) ⟨rfl, rfl, rfl, trivial⟩ (lp_X12_tellLaw_148 _ _ _ _ hk)

def f_X12_tellLaw_129 (x1 : Int32) (x2 : Int32) (s : fl_I) (l : fl_L) : fl_I × fl_L :=
    f_X12_tellLaw_143 x1 x2 (f_X12_term (wi s 84 (s 60 36).toNatClampNeg (vp_nar .boolean (0 : Int32))) l).1 (f_X12_term (wi s 84 (s 60 36).toNatClampNeg (vp_nar .boolean (0 : Int32))) l).2

def p_X12_tellLaw_129 (x1 : Int32) (x2 : Int32) (s : fl_I) (l : fl_L) : Prop :=
    (vp_in (s 60 36) 260) ∧ (p_X12_term (wi s 84 (s 60 36).toNatClampNeg (vp_nar .boolean (0 : Int32))) l) ∧ p_X12_tellLaw_143 x1 x2 (f_X12_term (wi s 84 (s 60 36).toNatClampNeg (vp_nar .boolean (0 : Int32))) l).1 (f_X12_term (wi s 84 (s 60 36).toNatClampNeg (vp_nar .boolean (0 : Int32))) l).2

set_option maxRecDepth 100000 in
set_option maxHeartbeats 4000000 in
theorem lp_X12_tellLaw_129 {G : ab_G} {d : Nat} {D : fl_D} : ∀ (x1 : Int32) (x2 : Int32) (s : fl_I) (l : fl_L), p_X12_tellLaw_129 x1 x2 s l → ab_C G (d + 5) 0 0 M_X12_tellLaw 129 [some (.ref 60), some (.int x1), some (.int x2), none] [] (hp D s l) (rt none (hp D (f_X12_tellLaw_129 x1 x2 s l).1 (f_X12_tellLaw_129 x1 x2 s l).2)) := by
  intro x1 x2 s l hk
  generalize he : f_X12_tellLaw_129 x1 x2 s l = res
  unfold f_X12_tellLaw_129 at he
  unfold p_X12_tellLaw_129 at hk
  refine r_aload_n rfl rfl ?_
  refine q_getfield rfl (cc_60 _) rfl ?_
  refine r_aload_n rfl rfl ?_
  refine q_getfield rfl (cc_60 _) rfl ?_
  refine r_iconst_ (a := 0) rfl (by decide) ?_
  obtain ⟨hb1, hk⟩ := hk
  refine w_zast rfl (cc_84 _) hb1 ?_
  refine r_aload_n rfl rfl ?_
  obtain ⟨hb2, hk⟩ := hk
  refine q_callV0 [] _ rfl kY_X12_term kT_X12_term rfl rfl (Nat.le_of_ble_eq_true rfl) (Nat.le_of_ble_eq_true rfl) (cc_60 _) (s_X12_term hb2) (fun r h q => ?_)
  obtain ⟨rfl, rfl⟩ := q
  simp only [Option.toList, List.cons_append, List.nil_append]
  subst he
  exact r_weak (L1 := [some (.ref 60), some (.int x1), some (.int x2), none]) ⟨rfl, rfl, rfl, trivial⟩ (lp_X12_tellLaw_143 _ _ _ _ hk)

def f_X12_tellLaw_126 (K12 : Int32 → Int32 → Int32 → fl_I → fl_L → fl_I × fl_L) (x1 : Int32) (x2 : Int32) (x3 : Int32) (s : fl_I) (l : fl_L) : fl_I × fl_L :=
    K12 x1 x2 x3 s l

def p_X12_tellLaw_126 (P12 : Int32 → Int32 → Int32 → fl_I → fl_L → Prop) (x1 : Int32) (x2 : Int32) (x3 : Int32) (s : fl_I) (l : fl_L) : Prop :=
    P12 x1 x2 x3 s l

set_option maxRecDepth 100000 in
set_option maxHeartbeats 4000000 in
theorem lp_X12_tellLaw_126 {G : ab_G} {d : Nat} {D : fl_D} (K12 : Int32 → Int32 → Int32 → fl_I → fl_L → fl_I × fl_L) (P12 : Int32 → Int32 → Int32 → fl_I → fl_L → Prop) (hK12 : ∀ (x1 : Int32) (x2 : Int32) (x3 : Int32) (s : fl_I) (l : fl_L), P12 x1 x2 x3 s l → ab_C G (d + 5) 0 0 M_X12_tellLaw 12 [some (.ref 60), some (.int x1), some (.int x2), some (.int x3)] [] (hp D s l) (rt none (hp D (K12 x1 x2 x3 s l).1 (K12 x1 x2 x3 s l).2))) : ∀ (x1 : Int32) (x2 : Int32) (x3 : Int32) (s : fl_I) (l : fl_L), p_X12_tellLaw_126 P12 x1 x2 x3 s l → ab_C G (d + 5) 0 0 M_X12_tellLaw 126 [some (.ref 60), some (.int x1), some (.int x2), some (.int x3)] [] (hp D s l) (rt none (hp D (f_X12_tellLaw_126 K12 x1 x2 x3 s l).1 (f_X12_tellLaw_126 K12 x1 x2 x3 s l).2)) := by
  intro x1 x2 x3 s l hk
  generalize he : f_X12_tellLaw_126 K12 x1 x2 x3 s l = res
  unfold f_X12_tellLaw_126 at he
  unfold p_X12_tellLaw_126 at hk
  refine r_goto rfl ?_
  subst he
  exact r_weak (L1 := [some (.ref 60), some (.int x1), some (.int x2), some (.int x3)]) ⟨rfl, rfl, rfl, rfl, trivial⟩ (hK12 _ _ _ _ _ hk)

def f_X12_tellLaw_120 (K12 : Int32 → Int32 → Int32 → fl_I → fl_L → fl_I × fl_L) (x1 : Int32) (x2 : Int32) (x3 : Int32) (s : fl_I) (l : fl_L) : fl_I × fl_L :=
    f_X12_tellLaw_126 K12 x1 x2 x3 (f_X12_must (31 : Int32) s l).1 (f_X12_must (31 : Int32) s l).2

def p_X12_tellLaw_120 (P12 : Int32 → Int32 → Int32 → fl_I → fl_L → Prop) (x1 : Int32) (x2 : Int32) (x3 : Int32) (s : fl_I) (l : fl_L) : Prop :=
    (p_X12_must (31 : Int32) s l) ∧ p_X12_tellLaw_126 P12 x1 x2 x3 (f_X12_must (31 : Int32) s l).1 (f_X12_must (31 : Int32) s l).2

set_option maxRecDepth 100000 in
set_option maxHeartbeats 4000000 in
theorem lp_X12_tellLaw_120 {G : ab_G} {d : Nat} {D : fl_D} (K12 : Int32 → Int32 → Int32 → fl_I → fl_L → fl_I × fl_L) (P12 : Int32 → Int32 → Int32 → fl_I → fl_L → Prop) (hK12 : ∀ (x1 : Int32) (x2 : Int32) (x3 : Int32) (s : fl_I) (l : fl_L), P12 x1 x2 x3 s l → ab_C G (d + 5) 0 0 M_X12_tellLaw 12 [some (.ref 60), some (.int x1), some (.int x2), some (.int x3)] [] (hp D s l) (rt none (hp D (K12 x1 x2 x3 s l).1 (K12 x1 x2 x3 s l).2))) : ∀ (x1 : Int32) (x2 : Int32) (x3 : Int32) (s : fl_I) (l : fl_L), p_X12_tellLaw_120 P12 x1 x2 x3 s l → ab_C G (d + 5) 0 0 M_X12_tellLaw 120 [some (.ref 60), some (.int x1), some (.int x2), some (.int x3)] [] (hp D s l) (rt none (hp D (f_X12_tellLaw_120 K12 x1 x2 x3 s l).1 (f_X12_tellLaw_120 K12 x1 x2 x3 s l).2)) := by
  intro x1 x2 x3 s l hk
  generalize he : f_X12_tellLaw_120 K12 x1 x2 x3 s l = res
  unfold f_X12_tellLaw_120 at he
  unfold p_X12_tellLaw_120 at hk
  refine r_aload_n rfl rfl ?_
  refine r_bipush_ (a := 31) rfl (by decide) ?_
  obtain ⟨hb15, hk⟩ := hk
  refine q_callV0 [_] _ rfl kY_X12_must kT_X12_must rfl rfl (Nat.le_of_ble_eq_true rfl) (Nat.le_of_ble_eq_true rfl) (cc_60 _) (s_X12_must hb15) (fun r h q => ?_)
  obtain ⟨rfl, rfl⟩ := q
  simp only [Option.toList, List.cons_append, List.nil_append]
  subst he
  exact r_weak (L1 := [some (.ref 60), some (.int x1), some (.int x2), some (.int x3)]) ⟨rfl, rfl, rfl, rfl, trivial⟩ (lp_X12_tellLaw_126 _ _ hK12 _ _ _ _ _ hk)

def f_X12_tellLaw_116 (K12 : Int32 → Int32 → Int32 → fl_I → fl_L → fl_I × fl_L) (x1 : Int32) (x2 : Int32) (x3 : Int32) (s : fl_I) (l : fl_L) : fl_I × fl_L :=
    f_X12_tellLaw_120 K12 x1 x2 x3 (f_X12_term s l).1 (f_X12_term s l).2

def p_X12_tellLaw_116 (P12 : Int32 → Int32 → Int32 → fl_I → fl_L → Prop) (x1 : Int32) (x2 : Int32) (x3 : Int32) (s : fl_I) (l : fl_L) : Prop :=
    (p_X12_term s l) ∧ p_X12_tellLaw_120 P12 x1 x2 x3 (f_X12_term s l).1 (f_X12_term s l).2

set_option maxRecDepth 100000 in
set_option maxHeartbeats 4000000 in
theorem lp_X12_tellLaw_116 {G : ab_G} {d : Nat} {D : fl_D} (K12 : Int32 → Int32 → Int32 → fl_I → fl_L → fl_I × fl_L) (P12 : Int32 → Int32 → Int32 → fl_I → fl_L → Prop) (hK12 : ∀ (x1 : Int32) (x2 : Int32) (x3 : Int32) (s : fl_I) (l : fl_L), P12 x1 x2 x3 s l → ab_C G (d + 5) 0 0 M_X12_tellLaw 12 [some (.ref 60), some (.int x1), some (.int x2), some (.int x3)] [] (hp D s l) (rt none (hp D (K12 x1 x2 x3 s l).1 (K12 x1 x2 x3 s l).2))) : ∀ (x1 : Int32) (x2 : Int32) (x3 : Int32) (s : fl_I) (l : fl_L), p_X12_tellLaw_116 P12 x1 x2 x3 s l → ab_C G (d + 5) 0 0 M_X12_tellLaw 116 [some (.ref 60), some (.int x1), some (.int x2), some (.int x3)] [] (hp D s l) (rt none (hp D (f_X12_tellLaw_116 K12 x1 x2 x3 s l).1 (f_X12_tellLaw_116 K12 x1 x2 x3 s l).2)) := by
  intro x1 x2 x3 s l hk
  generalize he : f_X12_tellLaw_116 K12 x1 x2 x3 s l = res
  unfold f_X12_tellLaw_116 at he
  unfold p_X12_tellLaw_116 at hk
  refine r_aload_n rfl rfl ?_
  obtain ⟨hb14, hk⟩ := hk
  refine q_callV0 [] _ rfl kY_X12_term kT_X12_term rfl rfl (Nat.le_of_ble_eq_true rfl) (Nat.le_of_ble_eq_true rfl) (cc_60 _) (s_X12_term hb14) (fun r h q => ?_)
  obtain ⟨rfl, rfl⟩ := q
  simp only [Option.toList, List.cons_append, List.nil_append]
  subst he
  exact r_weak (L1 := [some (.ref 60), some (.int x1), some (.int x2), some (.int x3)]) ⟨rfl, rfl, rfl, rfl, trivial⟩ (lp_X12_tellLaw_120 _ _ hK12 _ _ _ _ _ hk)

def f_X12_tellLaw_110 (K12 : Int32 → Int32 → Int32 → fl_I → fl_L → fl_I × fl_L) (x1 : Int32) (x2 : Int32) (x3 : Int32) (s : fl_I) (l : fl_L) : fl_I × fl_L :=
    f_X12_tellLaw_116 K12 x1 x2 x3 (f_X12_must (30 : Int32) s l).1 (f_X12_must (30 : Int32) s l).2

def p_X12_tellLaw_110 (P12 : Int32 → Int32 → Int32 → fl_I → fl_L → Prop) (x1 : Int32) (x2 : Int32) (x3 : Int32) (s : fl_I) (l : fl_L) : Prop :=
    (p_X12_must (30 : Int32) s l) ∧ p_X12_tellLaw_116 P12 x1 x2 x3 (f_X12_must (30 : Int32) s l).1 (f_X12_must (30 : Int32) s l).2

set_option maxRecDepth 100000 in
set_option maxHeartbeats 4000000 in
theorem lp_X12_tellLaw_110 {G : ab_G} {d : Nat} {D : fl_D} (K12 : Int32 → Int32 → Int32 → fl_I → fl_L → fl_I × fl_L) (P12 : Int32 → Int32 → Int32 → fl_I → fl_L → Prop) (hK12 : ∀ (x1 : Int32) (x2 : Int32) (x3 : Int32) (s : fl_I) (l : fl_L), P12 x1 x2 x3 s l → ab_C G (d + 5) 0 0 M_X12_tellLaw 12 [some (.ref 60), some (.int x1), some (.int x2), some (.int x3)] [] (hp D s l) (rt none (hp D (K12 x1 x2 x3 s l).1 (K12 x1 x2 x3 s l).2))) : ∀ (x1 : Int32) (x2 : Int32) (x3 : Int32) (s : fl_I) (l : fl_L), p_X12_tellLaw_110 P12 x1 x2 x3 s l → ab_C G (d + 5) 0 0 M_X12_tellLaw 110 [some (.ref 60), some (.int x1), some (.int x2), some (.int x3)] [] (hp D s l) (rt none (hp D (f_X12_tellLaw_110 K12 x1 x2 x3 s l).1 (f_X12_tellLaw_110 K12 x1 x2 x3 s l).2)) := by
  intro x1 x2 x3 s l hk
  generalize he : f_X12_tellLaw_110 K12 x1 x2 x3 s l = res
  unfold f_X12_tellLaw_110 at he
  unfold p_X12_tellLaw_110 at hk
  refine r_aload_n rfl rfl ?_
  refine r_bipush_ (a := 30) rfl (by decide) ?_
  obtain ⟨hb13, hk⟩ := hk
  refine q_callV0 [_] _ rfl kY_X12_must kT_X12_must rfl rfl (Nat.le_of_ble_eq_true rfl) (Nat.le_of_ble_eq_true rfl) (cc_60 _) (s_X12_must hb13) (fun r h q => ?_)
  obtain ⟨rfl, rfl⟩ := q
  simp only [Option.toList, List.cons_append, List.nil_append]
  subst he
  exact r_weak (L1 := [some (.ref 60), some (.int x1), some (.int x2), some (.int x3)]) ⟨rfl, rfl, rfl, rfl, trivial⟩ (lp_X12_tellLaw_116 _ _ hK12 _ _ _ _ _ hk)

def f_X12_tellLaw_86 (K12 : Int32 → Int32 → Int32 → fl_I → fl_L → fl_I × fl_L) (x1 : Int32) (x2 : Int32) (x3 : Int32) (s : fl_I) (l : fl_L) : fl_I × fl_L :=
    if (((wi s 86 (s 60 36).toNatClampNeg (s 60 42)) 60 13) = 0) then f_X12_tellLaw_110 K12 x1 x2 x3 (f_X12_expression (wi s 86 (s 60 36).toNatClampNeg (s 60 42)) l).1 (f_X12_expression (wi s 86 (s 60 36).toNatClampNeg (s 60 42)) l).2 else f_X12_tellLaw_110 K12 x1 x2 x3 (wi s 86 (s 60 36).toNatClampNeg (s 60 42)) l

def p_X12_tellLaw_86 (P12 : Int32 → Int32 → Int32 → fl_I → fl_L → Prop) (x1 : Int32) (x2 : Int32) (x3 : Int32) (s : fl_I) (l : fl_L) : Prop :=
    (vp_in (s 60 36) 260) ∧ (((((wi s 86 (s 60 36).toNatClampNeg (s 60 42)) 60 13) = 0) → (p_X12_expression (wi s 86 (s 60 36).toNatClampNeg (s 60 42)) l) ∧ p_X12_tellLaw_110 P12 x1 x2 x3 (f_X12_expression (wi s 86 (s 60 36).toNatClampNeg (s 60 42)) l).1 (f_X12_expression (wi s 86 (s 60 36).toNatClampNeg (s 60 42)) l).2) ∧ (¬ (((wi s 86 (s 60 36).toNatClampNeg (s 60 42)) 60 13) = 0) → p_X12_tellLaw_110 P12 x1 x2 x3 (wi s 86 (s 60 36).toNatClampNeg (s 60 42)) l))

set_option maxRecDepth 100000 in
set_option maxHeartbeats 4000000 in
theorem lp_X12_tellLaw_86 {G : ab_G} {d : Nat} {D : fl_D} (K12 : Int32 → Int32 → Int32 → fl_I → fl_L → fl_I × fl_L) (P12 : Int32 → Int32 → Int32 → fl_I → fl_L → Prop) (hK12 : ∀ (x1 : Int32) (x2 : Int32) (x3 : Int32) (s : fl_I) (l : fl_L), P12 x1 x2 x3 s l → ab_C G (d + 5) 0 0 M_X12_tellLaw 12 [some (.ref 60), some (.int x1), some (.int x2), some (.int x3)] [] (hp D s l) (rt none (hp D (K12 x1 x2 x3 s l).1 (K12 x1 x2 x3 s l).2))) : ∀ (x1 : Int32) (x2 : Int32) (x3 : Int32) (s : fl_I) (l : fl_L), p_X12_tellLaw_86 P12 x1 x2 x3 s l → ab_C G (d + 5) 0 0 M_X12_tellLaw 86 [some (.ref 60), some (.int x1), some (.int x2), some (.int x3)] [] (hp D s l) (rt none (hp D (f_X12_tellLaw_86 K12 x1 x2 x3 s l).1 (f_X12_tellLaw_86 K12 x1 x2 x3 s l).2)) := by
  intro x1 x2 x3 s l hk
  generalize he : f_X12_tellLaw_86 K12 x1 x2 x3 s l = res
  unfold f_X12_tellLaw_86 at he
  unfold p_X12_tellLaw_86 at hk
  refine r_aload_n rfl rfl ?_
  refine q_getfield rfl (cc_60 _) rfl ?_
  refine r_aload_n rfl rfl ?_
  refine q_getfield rfl (cc_60 _) rfl ?_
  refine r_aload_n rfl rfl ?_
  refine q_getfield rfl (cc_60 _) rfl ?_
  obtain ⟨hb12, hk⟩ := hk
  refine w_iast rfl (cc_86 _) hb12 ?_
  refine r_aload_n rfl rfl ?_
  refine q_getfield rfl (cc_60 _) rfl ?_
  refine r_if_ne rfl (fun c_103 => ?_) (fun c_103 => ?_)
  · rw [if_neg c_103] at he
    replace hk := hk.2 c_103
    subst he
    exact r_weak (L1 := [some (.ref 60), some (.int x1), some (.int x2), some (.int x3)]) ⟨rfl, rfl, rfl, rfl, trivial⟩ (lp_X12_tellLaw_110 _ _ hK12 _ _ _ _ _ hk)
  · rw [if_pos c_103] at he
    replace hk := hk.1 c_103
    refine r_aload_n rfl rfl ?_
    obtain ⟨hb16, hk⟩ := hk
    refine q_callV0 [] _ rfl kY_X12_expression kT_X12_expression rfl rfl (Nat.le_of_ble_eq_true rfl) (Nat.le_of_ble_eq_true rfl) (cc_60 _) (s_X12_expression hb16) (fun r h q => ?_)
    obtain ⟨rfl, rfl⟩ := q
    simp only [Option.toList, List.cons_append, List.nil_append]
    subst he
    exact r_weak (L1 := [some (.ref 60), some (.int x1), some (.int x2), some (.int x3)]) ⟨rfl, rfl, rfl, rfl, trivial⟩ (lp_X12_tellLaw_110 _ _ hK12 _ _ _ _ _ hk)

def f_X12_tellLaw_80 (K12 : Int32 → Int32 → Int32 → fl_I → fl_L → fl_I × fl_L) (x1 : Int32) (x2 : Int32) (x3 : Int32) (s : fl_I) (l : fl_L) : fl_I × fl_L :=
    f_X12_tellLaw_86 K12 x1 x2 x3 (f_X12_must (13 : Int32) s l).1 (f_X12_must (13 : Int32) s l).2

def p_X12_tellLaw_80 (P12 : Int32 → Int32 → Int32 → fl_I → fl_L → Prop) (x1 : Int32) (x2 : Int32) (x3 : Int32) (s : fl_I) (l : fl_L) : Prop :=
    (p_X12_must (13 : Int32) s l) ∧ p_X12_tellLaw_86 P12 x1 x2 x3 (f_X12_must (13 : Int32) s l).1 (f_X12_must (13 : Int32) s l).2

set_option maxRecDepth 100000 in
set_option maxHeartbeats 4000000 in
theorem lp_X12_tellLaw_80 {G : ab_G} {d : Nat} {D : fl_D} (K12 : Int32 → Int32 → Int32 → fl_I → fl_L → fl_I × fl_L) (P12 : Int32 → Int32 → Int32 → fl_I → fl_L → Prop) (hK12 : ∀ (x1 : Int32) (x2 : Int32) (x3 : Int32) (s : fl_I) (l : fl_L), P12 x1 x2 x3 s l → ab_C G (d + 5) 0 0 M_X12_tellLaw 12 [some (.ref 60), some (.int x1), some (.int x2), some (.int x3)] [] (hp D s l) (rt none (hp D (K12 x1 x2 x3 s l).1 (K12 x1 x2 x3 s l).2))) : ∀ (x1 : Int32) (x2 : Int32) (x3 : Int32) (s : fl_I) (l : fl_L), p_X12_tellLaw_80 P12 x1 x2 x3 s l → ab_C G (d + 5) 0 0 M_X12_tellLaw 80 [some (.ref 60), some (.int x1), some (.int x2), some (.int x3)] [] (hp D s l) (rt none (hp D (f_X12_tellLaw_80 K12 x1 x2 x3 s l).1 (f_X12_tellLaw_80 K12 x1 x2 x3 s l).2)) := by
  intro x1 x2 x3 s l hk
  generalize he : f_X12_tellLaw_80 K12 x1 x2 x3 s l = res
  unfold f_X12_tellLaw_80 at he
  unfold p_X12_tellLaw_80 at hk
  refine r_aload_n rfl rfl ?_
  refine r_bipush_ (a := 13) rfl (by decide) ?_
  obtain ⟨hb11, hk⟩ := hk
  refine q_callV0 [_] _ rfl kY_X12_must kT_X12_must rfl rfl (Nat.le_of_ble_eq_true rfl) (Nat.le_of_ble_eq_true rfl) (cc_60 _) (s_X12_must hb11) (fun r h q => ?_)
  obtain ⟨rfl, rfl⟩ := q
  simp only [Option.toList, List.cons_append, List.nil_append]
  subst he
  exact r_weak (L1 := [some (.ref 60), some (.int x1), some (.int x2), some (.int x3)]) ⟨rfl, rfl, rfl, rfl, trivial⟩ (lp_X12_tellLaw_86 _ _ hK12 _ _ _ _ _ hk)

def f_X12_tellLaw_53 (K12 : Int32 → Int32 → Int32 → fl_I → fl_L → fl_I × fl_L) (x1 : Int32) (x2 : Int32) (x3 : Int32) (s : fl_I) (l : fl_L) : fl_I × fl_L :=
    f_X12_tellLaw_80 K12 x1 x2 x3 (f_X12_expression (wi (wi s 84 (s 60 36).toNatClampNeg (vp_nar .boolean (1 : Int32))) 85 ((wi s 84 (s 60 36).toNatClampNeg (vp_nar .boolean (1 : Int32))) 60 36).toNatClampNeg ((wi s 84 (s 60 36).toNatClampNeg (vp_nar .boolean (1 : Int32))) 60 42)) l).1 (f_X12_expression (wi (wi s 84 (s 60 36).toNatClampNeg (vp_nar .boolean (1 : Int32))) 85 ((wi s 84 (s 60 36).toNatClampNeg (vp_nar .boolean (1 : Int32))) 60 36).toNatClampNeg ((wi s 84 (s 60 36).toNatClampNeg (vp_nar .boolean (1 : Int32))) 60 42)) l).2

def p_X12_tellLaw_53 (P12 : Int32 → Int32 → Int32 → fl_I → fl_L → Prop) (x1 : Int32) (x2 : Int32) (x3 : Int32) (s : fl_I) (l : fl_L) : Prop :=
    (vp_in (s 60 36) 260) ∧ (vp_in ((wi s 84 (s 60 36).toNatClampNeg (vp_nar .boolean (1 : Int32))) 60 36) 260) ∧ (p_X12_expression (wi (wi s 84 (s 60 36).toNatClampNeg (vp_nar .boolean (1 : Int32))) 85 ((wi s 84 (s 60 36).toNatClampNeg (vp_nar .boolean (1 : Int32))) 60 36).toNatClampNeg ((wi s 84 (s 60 36).toNatClampNeg (vp_nar .boolean (1 : Int32))) 60 42)) l) ∧ p_X12_tellLaw_80 P12 x1 x2 x3 (f_X12_expression (wi (wi s 84 (s 60 36).toNatClampNeg (vp_nar .boolean (1 : Int32))) 85 ((wi s 84 (s 60 36).toNatClampNeg (vp_nar .boolean (1 : Int32))) 60 36).toNatClampNeg ((wi s 84 (s 60 36).toNatClampNeg (vp_nar .boolean (1 : Int32))) 60 42)) l).1 (f_X12_expression (wi (wi s 84 (s 60 36).toNatClampNeg (vp_nar .boolean (1 : Int32))) 85 ((wi s 84 (s 60 36).toNatClampNeg (vp_nar .boolean (1 : Int32))) 60 36).toNatClampNeg ((wi s 84 (s 60 36).toNatClampNeg (vp_nar .boolean (1 : Int32))) 60 42)) l).2

set_option maxRecDepth 100000 in
set_option maxHeartbeats 4000000 in
theorem lp_X12_tellLaw_53 {G : ab_G} {d : Nat} {D : fl_D} (K12 : Int32 → Int32 → Int32 → fl_I → fl_L → fl_I × fl_L) (P12 : Int32 → Int32 → Int32 → fl_I → fl_L → Prop) (hK12 : ∀ (x1 : Int32) (x2 : Int32) (x3 : Int32) (s : fl_I) (l : fl_L), P12 x1 x2 x3 s l → ab_C G (d + 5) 0 0 M_X12_tellLaw 12 [some (.ref 60), some (.int x1), some (.int x2), some (.int x3)] [] (hp D s l) (rt none (hp D (K12 x1 x2 x3 s l).1 (K12 x1 x2 x3 s l).2))) : ∀ (x1 : Int32) (x2 : Int32) (x3 : Int32) (s : fl_I) (l : fl_L), p_X12_tellLaw_53 P12 x1 x2 x3 s l → ab_C G (d + 5) 0 0 M_X12_tellLaw 53 [some (.ref 60), some (.int x1), some (.int x2), some (.int x3)] [] (hp D s l) (rt none (hp D (f_X12_tellLaw_53 K12 x1 x2 x3 s l).1 (f_X12_tellLaw_53 K12 x1 x2 x3 s l).2)) := by
  intro x1 x2 x3 s l hk
  generalize he : f_X12_tellLaw_53 K12 x1 x2 x3 s l = res
  unfold f_X12_tellLaw_53 at he
  unfold p_X12_tellLaw_53 at hk
  refine r_aload_n rfl rfl ?_
  refine q_getfield rfl (cc_60 _) rfl ?_
  refine r_aload_n rfl rfl ?_
  refine q_getfield rfl (cc_60 _) rfl ?_
  refine r_iconst_ (a := 1) rfl (by decide) ?_
  obtain ⟨hb8, hk⟩ := hk
  refine w_zast rfl (cc_84 _) hb8 ?_
  refine r_aload_n rfl rfl ?_
  refine q_getfield rfl (cc_60 _) rfl ?_
  refine r_aload_n rfl rfl ?_
  refine q_getfield rfl (cc_60 _) rfl ?_
  refine r_aload_n rfl rfl ?_
  refine q_getfield rfl (cc_60 _) rfl ?_
  obtain ⟨hb9, hk⟩ := hk
  refine w_iast rfl (cc_85 _) hb9 ?_
  refine r_aload_n rfl rfl ?_
  obtain ⟨hb10, hk⟩ := hk
  refine q_callV0 [] _ rfl kY_X12_expression kT_X12_expression rfl rfl (Nat.le_of_ble_eq_true rfl) (Nat.le_of_ble_eq_true rfl) (cc_60 _) (s_X12_expression hb10) (fun r h q => ?_)
  obtain ⟨rfl, rfl⟩ := q
  simp only [Option.toList, List.cons_append, List.nil_append]
  subst he
  exact r_weak (L1 := [some (.ref 60), some (.int x1), some (.int x2), some (.int x3)]) ⟨rfl, rfl, rfl, rfl, trivial⟩ (lp_X12_tellLaw_80 _ _ hK12 _ _ _ _ _ hk)

def f_X12_tellLaw_38 (K12 : Int32 → Int32 → Int32 → fl_I → fl_L → fl_I × fl_L) (x1 : Int32) (x2 : Int32) (x3 : Int32) (s : fl_I) (l : fl_L) : fl_I × fl_L :=
    if ((s 60 13) ≤ 0) then f_X12_tellLaw_53 K12 x1 x2 (x3 + 1) (f_X12_goesOn s l).1 (f_X12_goesOn s l).2 else (s, l)

def p_X12_tellLaw_38 (P12 : Int32 → Int32 → Int32 → fl_I → fl_L → Prop) (x1 : Int32) (x2 : Int32) (x3 : Int32) (s : fl_I) (l : fl_L) : Prop :=
    ((((s 60 13) ≤ 0) → (p_X12_goesOn s l) ∧ p_X12_tellLaw_53 P12 x1 x2 (x3 + 1) (f_X12_goesOn s l).1 (f_X12_goesOn s l).2) ∧ (¬ ((s 60 13) ≤ 0) → True))

set_option maxRecDepth 100000 in
set_option maxHeartbeats 4000000 in
theorem lp_X12_tellLaw_38 {G : ab_G} {d : Nat} {D : fl_D} (K12 : Int32 → Int32 → Int32 → fl_I → fl_L → fl_I × fl_L) (P12 : Int32 → Int32 → Int32 → fl_I → fl_L → Prop) (hK12 : ∀ (x1 : Int32) (x2 : Int32) (x3 : Int32) (s : fl_I) (l : fl_L), P12 x1 x2 x3 s l → ab_C G (d + 5) 0 0 M_X12_tellLaw 12 [some (.ref 60), some (.int x1), some (.int x2), some (.int x3)] [] (hp D s l) (rt none (hp D (K12 x1 x2 x3 s l).1 (K12 x1 x2 x3 s l).2))) : ∀ (x1 : Int32) (x2 : Int32) (x3 : Int32) (s : fl_I) (l : fl_L), p_X12_tellLaw_38 P12 x1 x2 x3 s l → ab_C G (d + 5) 0 0 M_X12_tellLaw 38 [some (.ref 60), some (.int x1), some (.int x2), some (.int x3)] [] (hp D s l) (rt none (hp D (f_X12_tellLaw_38 K12 x1 x2 x3 s l).1 (f_X12_tellLaw_38 K12 x1 x2 x3 s l).2)) := by
  intro x1 x2 x3 s l hk
  generalize he : f_X12_tellLaw_38 K12 x1 x2 x3 s l = res
  unfold f_X12_tellLaw_38 at he
  unfold p_X12_tellLaw_38 at hk
  refine r_aload_n rfl rfl ?_
  refine q_getfield rfl (cc_60 _) rfl ?_
  refine r_if_le rfl (fun c_42 => ?_) (fun c_42 => ?_)
  · rw [if_pos c_42] at he
    replace hk := hk.1 c_42
    refine r_iinc (b := x3 + 1) rfl rfl rfl (Nat.le_of_ble_eq_true rfl) rfl ?_
    refine r_aload_n rfl rfl ?_
    obtain ⟨hb7, hk⟩ := hk
    refine q_callV0 [] _ rfl kY_X12_goesOn kT_X12_goesOn rfl rfl (Nat.le_of_ble_eq_true rfl) (Nat.le_of_ble_eq_true rfl) (cc_60 _) (s_X12_goesOn hb7) (fun r h q => ?_)
    obtain ⟨rfl, rfl⟩ := q
    simp only [Option.toList, List.cons_append, List.nil_append]
    subst he
    exact r_weak (L1 := [some (.ref 60), some (.int x1), some (.int x2), some (.int (x3 + 1))]) ⟨rfl, rfl, rfl, rfl, trivial⟩ (lp_X12_tellLaw_53 _ _ hK12 _ _ _ _ _ hk)
  · rw [if_neg c_42] at he
    replace hk := hk.2 c_42
    refine r_ret rfl rfl ?_
    subst he
    exact ⟨rfl, rfl⟩

def f_X12_tellLaw_12 : Nat → Int32 → Int32 → Int32 → fl_I → fl_L → fl_I × fl_L
  | 0, x1, x2, x3, s, l => (s, l)
  | n + 1, x1, x2, x3, s, l =>
    if ((s 60 13) = 0) then if ((f_X12_is (29 : Int32) s l) = 0) then f_X12_tellLaw_129 x1 x2 s l else if (x3 = (4 : Int32)) then f_X12_tellLaw_38 (fun x1 x2 x3 s l => f_X12_tellLaw_12 n x1 x2 x3 s l) x1 x2 x3 (f_X12_fail (2 : Int32) s l).1 (f_X12_fail (2 : Int32) s l).2 else f_X12_tellLaw_38 (fun x1 x2 x3 s l => f_X12_tellLaw_12 n x1 x2 x3 s l) x1 x2 x3 s l else f_X12_tellLaw_129 x1 x2 s l

def p_X12_tellLaw_12 : Nat → Int32 → Int32 → Int32 → fl_I → fl_L → Prop
  | 0, _, _, _, _, _ => False
  | n + 1, x1, x2, x3, s, l =>
    ((((s 60 13) = 0) → (p_X12_is (29 : Int32) s l) ∧ ((((f_X12_is (29 : Int32) s l) = 0) → p_X12_tellLaw_129 x1 x2 s l) ∧ (¬ ((f_X12_is (29 : Int32) s l) = 0) → (((x3 = (4 : Int32)) → (p_X12_fail (2 : Int32) s l) ∧ p_X12_tellLaw_38 (fun x1 x2 x3 s l => p_X12_tellLaw_12 n x1 x2 x3 s l) x1 x2 x3 (f_X12_fail (2 : Int32) s l).1 (f_X12_fail (2 : Int32) s l).2) ∧ (¬ (x3 = (4 : Int32)) → p_X12_tellLaw_38 (fun x1 x2 x3 s l => p_X12_tellLaw_12 n x1 x2 x3 s l) x1 x2 x3 s l))))) ∧ (¬ ((s 60 13) = 0) → p_X12_tellLaw_129 x1 x2 s l))

set_option maxRecDepth 100000 in
set_option maxHeartbeats 4000000 in
theorem lp_X12_tellLaw_12 {G : ab_G} {d : Nat} {D : fl_D} : ∀ (n : Nat) (x1 : Int32) (x2 : Int32) (x3 : Int32) (s : fl_I) (l : fl_L), p_X12_tellLaw_12 n x1 x2 x3 s l → ab_C G (d + 5) 0 0 M_X12_tellLaw 12 [some (.ref 60), some (.int x1), some (.int x2), some (.int x3)] [] (hp D s l) (rt none (hp D (f_X12_tellLaw_12 n x1 x2 x3 s l).1 (f_X12_tellLaw_12 n x1 x2 x3 s l).2)) := by
  intro n
  induction n with
  | zero => intro x1 x2 x3 s l hk; exact hk.elim
  | succ n ih =>
    intro x1 x2 x3 s l hk
    generalize he : f_X12_tellLaw_12 (n + 1) x1 x2 x3 s l = res
    unfold f_X12_tellLaw_12 at he
    unfold p_X12_tellLaw_12 at hk
    refine r_aload_n rfl rfl ?_
    refine q_getfield rfl (cc_60 _) rfl ?_
    refine r_if_ne rfl (fun c_16 => ?_) (fun c_16 => ?_)
    · rw [if_neg c_16] at he
      replace hk := hk.2 c_16
      subst he
      exact r_weak (L1 := [some (.ref 60), some (.int x1), some (.int x2), none]) ⟨rfl, rfl, rfl, trivial⟩ (lp_X12_tellLaw_129 _ _ _ _ hk)
    · rw [if_pos c_16] at he
      replace hk := hk.1 c_16
      refine r_aload_n rfl rfl ?_
      refine r_bipush_ (a := 29) rfl (by decide) ?_
      obtain ⟨hb6, hk⟩ := hk
      refine q_callV0 [_] _ rfl kY_X12_is kT_X12_is rfl rfl (Nat.le_of_ble_eq_true rfl) (Nat.le_of_ble_eq_true rfl) (cc_60 _) (s_X12_is hb6) (fun r h q => ?_)
      obtain ⟨rfl, rfl⟩ := q
      simp only [Option.toList, List.cons_append, List.nil_append]
      refine r_if_eq rfl (fun c_25 => ?_) (fun c_25 => ?_)
      · rw [if_pos c_25] at he
        replace hk := hk.1 c_25
        subst he
        exact r_weak (L1 := [some (.ref 60), some (.int x1), some (.int x2), none]) ⟨rfl, rfl, rfl, trivial⟩ (lp_X12_tellLaw_129 _ _ _ _ hk)
      · rw [if_neg c_25] at he
        replace hk := hk.2 c_25
        refine r_iload_n rfl rfl ?_
        refine r_iconst_ (a := 4) rfl (by decide) ?_
        refine r_icmp_ne rfl (fun c_30 => ?_) (fun c_30 => ?_)
        · rw [if_neg c_30] at he
          replace hk := hk.2 c_30
          subst he
          exact r_weak (L1 := [some (.ref 60), some (.int x1), some (.int x2), some (.int x3)]) ⟨rfl, rfl, rfl, rfl, trivial⟩ (lp_X12_tellLaw_38 _ _ (fun _ _ _ _ _ h9 => ih _ _ _ _ _ h9) _ _ _ _ _ hk)
        · rw [if_pos c_30] at he
          replace hk := hk.1 c_30
          refine r_aload_n rfl rfl ?_
          refine r_iconst_ (a := 2) rfl (by decide) ?_
          obtain ⟨hb17, hk⟩ := hk
          refine q_callV0 [_] _ rfl kY_X12_fail kT_X12_fail rfl rfl (Nat.le_of_ble_eq_true rfl) (Nat.le_of_ble_eq_true rfl) (cc_60 _) (s_X12_fail hb17) (fun r h q => ?_)
          obtain ⟨rfl, rfl⟩ := q
          simp only [Option.toList, List.cons_append, List.nil_append]
          subst he
          exact r_weak (L1 := [some (.ref 60), some (.int x1), some (.int x2), some (.int x3)]) ⟨rfl, rfl, rfl, rfl, trivial⟩ (lp_X12_tellLaw_38 _ _ (fun _ _ _ _ _ h9 => ih _ _ _ _ _ h9) _ _ _ _ _ hk)

def f_X12_tellLaw_5 (x1 : Int32) (s : fl_I) (l : fl_L) : fl_I × fl_L :=
    f_X12_tellLaw_12 fu x1 (s 60 36) (0 : Int32) s l

def p_X12_tellLaw_5 (x1 : Int32) (s : fl_I) (l : fl_L) : Prop :=
    p_X12_tellLaw_12 fu x1 (s 60 36) (0 : Int32) s l

set_option maxRecDepth 100000 in
set_option maxHeartbeats 4000000 in
theorem lp_X12_tellLaw_5 {G : ab_G} {d : Nat} {D : fl_D} : ∀ (x1 : Int32) (s : fl_I) (l : fl_L), p_X12_tellLaw_5 x1 s l → ab_C G (d + 5) 0 0 M_X12_tellLaw 5 [some (.ref 60), some (.int x1), none, none] [] (hp D s l) (rt none (hp D (f_X12_tellLaw_5 x1 s l).1 (f_X12_tellLaw_5 x1 s l).2)) := by
  intro x1 s l hk
  generalize he : f_X12_tellLaw_5 x1 s l = res
  unfold f_X12_tellLaw_5 at he
  unfold p_X12_tellLaw_5 at hk
  refine r_aload_n rfl rfl ?_
  refine q_getfield rfl (cc_60 _) rfl ?_
  refine r_istore_n rfl (Nat.le_of_ble_eq_true rfl) rfl ?_
  refine r_iconst_ (a := 0) rfl (by decide) ?_
  refine r_istore_n rfl (Nat.le_of_ble_eq_true rfl) rfl ?_
  subst he
  exact r_weak (L1 := [some (.ref 60), some (.int x1), some (.int (s 60 36)), some (.int (0 : Int32))]) ⟨rfl, rfl, rfl, rfl, trivial⟩ (lp_X12_tellLaw_12 fu _ _ _ _ _ hk)

def f_X12_tellLaw (v0 : Int32) (s : fl_I) (l : fl_L) : fl_I × fl_L :=
  f_X12_tellLaw_5 v0 (f_X12_must (5 : Int32) s l).1 (f_X12_must (5 : Int32) s l).2

def p_X12_tellLaw (v0 : Int32) (s : fl_I) (l : fl_L) : Prop :=
  (p_X12_must (5 : Int32) s l) ∧ p_X12_tellLaw_5 v0 (f_X12_must (5 : Int32) s l).1 (f_X12_must (5 : Int32) s l).2

set_option maxRecDepth 100000 in
set_option maxHeartbeats 4000000 in
theorem s_X12_tellLaw {G : ab_G} {d : Nat} {D : fl_D} {s : fl_I} {l : fl_L} {v0 : Int32} (hk : p_X12_tellLaw v0 s l) : ab_C G (d + 5) 0 0 M_X12_tellLaw 0 (ab_ent [.ref 60, .int v0]) [] (hp D s l) (rt none (hp D (f_X12_tellLaw v0 s l).1 (f_X12_tellLaw v0 s l).2)) := by
  generalize he : (f_X12_tellLaw v0 s l) = res
  unfold f_X12_tellLaw at he
  unfold p_X12_tellLaw at hk
  refine r_weak (L1 := [some (.ref 60), some (.int v0), none, none]) ⟨rfl, rfl, trivial⟩ ?_
  refine r_aload_n rfl rfl ?_
  refine r_iconst_ (a := 5) rfl (by decide) ?_
  obtain ⟨hb0, hk⟩ := hk
  refine q_callV0 [_] _ rfl kY_X12_must kT_X12_must rfl rfl (Nat.le_of_ble_eq_true rfl) (Nat.le_of_ble_eq_true rfl) (cc_60 _) (s_X12_must hb0) (fun r h q => ?_)
  obtain ⟨rfl, rfl⟩ := q
  simp only [Option.toList, List.cons_append, List.nil_append]
  subst he
  exact r_weak (L1 := [some (.ref 60), some (.int v0), none, none]) ⟨rfl, rfl, trivial⟩ (lp_X12_tellLaw_5 _ _ _ hk)

def f_X12_tellOne_349 (s : fl_I) (l : fl_L) : fl_I × fl_L :=
    (s, l)

def p_X12_tellOne_349 (s : fl_I) (l : fl_L) : Prop :=
    True

set_option maxRecDepth 100000 in
set_option maxHeartbeats 4000000 in
theorem lp_X12_tellOne_349 {G : ab_G} {d : Nat} {D : fl_D} : ∀ (s : fl_I) (l : fl_L), p_X12_tellOne_349  s l → ab_C G (d + 6) 0 0 M_X12_tellOne 349 [none, none] [] (hp D s l) (rt none (hp D (f_X12_tellOne_349  s l).1 (f_X12_tellOne_349  s l).2)) := by
  intro  s l hk
  generalize he : f_X12_tellOne_349  s l = res
  unfold f_X12_tellOne_349 at he
  unfold p_X12_tellOne_349 at hk
  refine r_ret rfl rfl ?_
  subst he
  exact ⟨rfl, rfl⟩

def f_X12_tellOne_85 (s : fl_I) (l : fl_L) : fl_I × fl_L :=
    f_X12_tellOne_349  s l

def p_X12_tellOne_85 (s : fl_I) (l : fl_L) : Prop :=
    p_X12_tellOne_349  s l

set_option maxRecDepth 100000 in
set_option maxHeartbeats 4000000 in
theorem lp_X12_tellOne_85 {G : ab_G} {d : Nat} {D : fl_D} : ∀ (s : fl_I) (l : fl_L), p_X12_tellOne_85  s l → ab_C G (d + 6) 0 0 M_X12_tellOne 85 [none, none] [] (hp D s l) (rt none (hp D (f_X12_tellOne_85  s l).1 (f_X12_tellOne_85  s l).2)) := by
  intro  s l hk
  generalize he : f_X12_tellOne_85  s l = res
  unfold f_X12_tellOne_85 at he
  unfold p_X12_tellOne_85 at hk
  refine r_goto rfl ?_
  subst he
  exact r_weak (L1 := [none, none]) trivial (lp_X12_tellOne_349 _ _ hk)

def f_X12_tellOne_74 (s : fl_I) (l : fl_L) : fl_I × fl_L :=
    if ((s 60 13) = 0) then f_X12_tellOne_85  (f_X12_tellLetter s l).1 (f_X12_tellLetter s l).2 else f_X12_tellOne_349  s l

def p_X12_tellOne_74 (s : fl_I) (l : fl_L) : Prop :=
    ((((s 60 13) = 0) → (p_X12_tellLetter s l) ∧ p_X12_tellOne_85  (f_X12_tellLetter s l).1 (f_X12_tellLetter s l).2) ∧ (¬ ((s 60 13) = 0) → p_X12_tellOne_349  s l))

set_option maxRecDepth 100000 in
set_option maxHeartbeats 4000000 in
theorem lp_X12_tellOne_74 {G : ab_G} {d : Nat} {D : fl_D} : ∀ (s : fl_I) (l : fl_L), p_X12_tellOne_74  s l → ab_C G (d + 6) 0 0 M_X12_tellOne 74 [some (.ref 60), none] [] (hp D s l) (rt none (hp D (f_X12_tellOne_74  s l).1 (f_X12_tellOne_74  s l).2)) := by
  intro  s l hk
  generalize he : f_X12_tellOne_74  s l = res
  unfold f_X12_tellOne_74 at he
  unfold p_X12_tellOne_74 at hk
  refine r_aload_n rfl rfl ?_
  refine q_getfield rfl (cc_60 _) rfl ?_
  refine r_if_ne rfl (fun c_78 => ?_) (fun c_78 => ?_)
  · rw [if_neg c_78] at he
    replace hk := hk.2 c_78
    subst he
    exact r_weak (L1 := [none, none]) trivial (lp_X12_tellOne_349 _ _ hk)
  · rw [if_pos c_78] at he
    replace hk := hk.1 c_78
    refine r_aload_n rfl rfl ?_
    obtain ⟨hb3, hk⟩ := hk
    refine q_callV0 [] _ rfl kY_X12_tellLetter kT_X12_tellLetter rfl rfl (Nat.le_of_ble_eq_true rfl) (Nat.le_of_ble_eq_true rfl) (cc_60 _) (s_X12_tellLetter hb3) (fun r h q => ?_)
    obtain ⟨rfl, rfl⟩ := q
    simp only [Option.toList, List.cons_append, List.nil_append]
    subst he
    exact r_weak (L1 := [none, none]) trivial (lp_X12_tellOne_85 _ _ hk)

def f_X12_tellOne_162 (s : fl_I) (l : fl_L) : fl_I × fl_L :=
    if ((s 60 13) = 0) then f_X12_tellOne_349  (wi s 72 (s 60 19).toNatClampNeg ((s 72 (s 60 19).toNatClampNeg) + (1 : Int32))) l else f_X12_tellOne_349  s l

def p_X12_tellOne_162 (s : fl_I) (l : fl_L) : Prop :=
    ((((s 60 13) = 0) → (vp_in (s 60 19) 2) ∧ (vp_in (s 60 19) 2) ∧ p_X12_tellOne_349  (wi s 72 (s 60 19).toNatClampNeg ((s 72 (s 60 19).toNatClampNeg) + (1 : Int32))) l) ∧ (¬ ((s 60 13) = 0) → p_X12_tellOne_349  s l))

set_option maxRecDepth 100000 in
set_option maxHeartbeats 4000000 in
theorem lp_X12_tellOne_162 {G : ab_G} {d : Nat} {D : fl_D} : ∀ (s : fl_I) (l : fl_L), p_X12_tellOne_162  s l → ab_C G (d + 6) 0 0 M_X12_tellOne 162 [some (.ref 60), none] [] (hp D s l) (rt none (hp D (f_X12_tellOne_162  s l).1 (f_X12_tellOne_162  s l).2)) := by
  intro  s l hk
  generalize he : f_X12_tellOne_162  s l = res
  unfold f_X12_tellOne_162 at he
  unfold p_X12_tellOne_162 at hk
  refine r_aload_n rfl rfl ?_
  refine q_getfield rfl (cc_60 _) rfl ?_
  refine r_if_ne rfl (fun c_166 => ?_) (fun c_166 => ?_)
  · rw [if_neg c_166] at he
    replace hk := hk.2 c_166
    subst he
    exact r_weak (L1 := [none, none]) trivial (lp_X12_tellOne_349 _ _ hk)
  · rw [if_pos c_166] at he
    replace hk := hk.1 c_166
    refine r_aload_n rfl rfl ?_
    refine q_getfield rfl (cc_60 _) rfl ?_
    refine r_aload_n rfl rfl ?_
    refine q_getfield rfl (cc_60 _) rfl ?_
    refine r_dup2 rfl rfl rfl ?_
    obtain ⟨hb11, hk⟩ := hk
    refine q_iald rfl (cc_72 _) hb11 ?_
    refine r_iconst_ (a := 1) rfl (by decide) ?_
    refine r_iadd rfl ?_
    obtain ⟨hb12, hk⟩ := hk
    refine w_iast rfl (cc_72 _) hb12 ?_
    refine r_goto rfl ?_
    subst he
    exact r_weak (L1 := [none, none]) trivial (lp_X12_tellOne_349 _ _ hk)

def f_X12_tellOne_156 (y1 : Int32) (y2 : Int64) (s : fl_I) (l : fl_L) : fl_I × fl_L :=
    f_X12_tellOne_162  (f_X12_must (4 : Int32) s (wl l 73 y1.toNatClampNeg y2)).1 (f_X12_must (4 : Int32) s (wl l 73 y1.toNatClampNeg y2)).2

def p_X12_tellOne_156 (y1 : Int32) (y2 : Int64) (s : fl_I) (l : fl_L) : Prop :=
    (vp_in y1 16) ∧ (p_X12_must (4 : Int32) s (wl l 73 y1.toNatClampNeg y2)) ∧ p_X12_tellOne_162  (f_X12_must (4 : Int32) s (wl l 73 y1.toNatClampNeg y2)).1 (f_X12_must (4 : Int32) s (wl l 73 y1.toNatClampNeg y2)).2

set_option maxRecDepth 100000 in
set_option maxHeartbeats 4000000 in
theorem lp_X12_tellOne_156 {G : ab_G} {d : Nat} {D : fl_D} : ∀ (y1 : Int32) (y2 : Int64) (s : fl_I) (l : fl_L), p_X12_tellOne_156 y1 y2 s l → ab_C G (d + 6) 0 0 M_X12_tellOne 156 [some (.ref 60), none] [.long y2, .int y1, .ref 73] (hp D s l) (rt none (hp D (f_X12_tellOne_156 y1 y2 s l).1 (f_X12_tellOne_156 y1 y2 s l).2)) := by
  intro y1 y2 s l hk
  generalize he : f_X12_tellOne_156 y1 y2 s l = res
  unfold f_X12_tellOne_156 at he
  unfold p_X12_tellOne_156 at hk
  obtain ⟨hb9, hk⟩ := hk
  refine w_last rfl (cc_73 _) hb9 ?_
  refine r_aload_n rfl rfl ?_
  refine r_iconst_ (a := 4) rfl (by decide) ?_
  obtain ⟨hb10, hk⟩ := hk
  refine q_callV0 [_] _ rfl kY_X12_must kT_X12_must rfl rfl (Nat.le_of_ble_eq_true rfl) (Nat.le_of_ble_eq_true rfl) (cc_60 _) (s_X12_must hb10) (fun r h q => ?_)
  obtain ⟨rfl, rfl⟩ := q
  simp only [Option.toList, List.cons_append, List.nil_append]
  subst he
  exact r_weak (L1 := [some (.ref 60), none]) ⟨rfl, trivial⟩ (lp_X12_tellOne_162 _ _ hk)

def f_X12_tellOne_103 (s : fl_I) (l : fl_L) : fl_I × fl_L :=
    if ((s 60 13) ≤ 0) then f_X12_tellOne_156 (((8 : Int32) * (s 60 19)) + (s 72 (s 60 19).toNatClampNeg)) (f_X12_named ((8 : Int32) * (s 60 19)) (s 72 (s 60 19).toNatClampNeg) 73 16 s l).1 (f_X12_named ((8 : Int32) * (s 60 19)) (s 72 (s 60 19).toNatClampNeg) 73 16 s l).2.1 (f_X12_named ((8 : Int32) * (s 60 19)) (s 72 (s 60 19).toNatClampNeg) 73 16 s l).2.2 else (s, l)

def p_X12_tellOne_103 (s : fl_I) (l : fl_L) : Prop :=
    ((((s 60 13) ≤ 0) → (vp_in (s 60 19) 2) ∧ (vp_in (s 60 19) 2) ∧ (p_X12_named ((8 : Int32) * (s 60 19)) (s 72 (s 60 19).toNatClampNeg) 73 16 s l) ∧ p_X12_tellOne_156 (((8 : Int32) * (s 60 19)) + (s 72 (s 60 19).toNatClampNeg)) (f_X12_named ((8 : Int32) * (s 60 19)) (s 72 (s 60 19).toNatClampNeg) 73 16 s l).1 (f_X12_named ((8 : Int32) * (s 60 19)) (s 72 (s 60 19).toNatClampNeg) 73 16 s l).2.1 (f_X12_named ((8 : Int32) * (s 60 19)) (s 72 (s 60 19).toNatClampNeg) 73 16 s l).2.2) ∧ (¬ ((s 60 13) ≤ 0) → True))

set_option maxRecDepth 100000 in
set_option maxHeartbeats 4000000 in
theorem lp_X12_tellOne_103 {G : ab_G} {d : Nat} {D : fl_D} : ∀ (s : fl_I) (l : fl_L), p_X12_tellOne_103  s l → ab_C G (d + 6) 0 0 M_X12_tellOne 103 [some (.ref 60), none] [] (hp D s l) (rt none (hp D (f_X12_tellOne_103  s l).1 (f_X12_tellOne_103  s l).2)) := by
  intro  s l hk
  generalize he : f_X12_tellOne_103  s l = res
  unfold f_X12_tellOne_103 at he
  unfold p_X12_tellOne_103 at hk
  refine r_aload_n rfl rfl ?_
  refine q_getfield rfl (cc_60 _) rfl ?_
  refine r_if_le rfl (fun c_107 => ?_) (fun c_107 => ?_)
  · rw [if_pos c_107] at he
    replace hk := hk.1 c_107
    refine r_aload_n rfl rfl ?_
    refine q_getfield rfl (cc_60 _) rfl ?_
    refine r_bipush_ (a := 8) rfl (by decide) ?_
    refine r_aload_n rfl rfl ?_
    refine q_getfield rfl (cc_60 _) rfl ?_
    refine r_imul rfl ?_
    refine r_aload_n rfl rfl ?_
    refine q_getfield rfl (cc_60 _) rfl ?_
    refine r_aload_n rfl rfl ?_
    refine q_getfield rfl (cc_60 _) rfl ?_
    obtain ⟨hb6, hk⟩ := hk
    refine q_iald rfl (cc_72 _) hb6 ?_
    refine r_iadd rfl ?_
    refine r_aload_n rfl rfl ?_
    refine r_aload_n rfl rfl ?_
    refine q_getfield rfl (cc_60 _) rfl ?_
    refine r_bipush_ (a := 8) rfl (by decide) ?_
    refine r_aload_n rfl rfl ?_
    refine q_getfield rfl (cc_60 _) rfl ?_
    refine r_imul rfl ?_
    refine r_aload_n rfl rfl ?_
    refine q_getfield rfl (cc_60 _) rfl ?_
    refine r_aload_n rfl rfl ?_
    refine q_getfield rfl (cc_60 _) rfl ?_
    obtain ⟨hb7, hk⟩ := hk
    refine q_iald rfl (cc_72 _) hb7 ?_
    obtain ⟨hb8, hk⟩ := hk
    refine q_callV0 [_, _, _] _ rfl kY_X12_named kT_X12_named rfl rfl (Nat.le_of_ble_eq_true rfl) (Nat.le_of_ble_eq_true rfl) (cc_60 _) (s_X12_named (cc_73 _) hb8) (fun r h q => ?_)
    obtain ⟨rfl, rfl⟩ := q
    simp only [Option.toList, List.cons_append, List.nil_append]
    subst he
    exact r_weak (L1 := [some (.ref 60), none]) ⟨rfl, trivial⟩ (lp_X12_tellOne_156 _ _ _ _ hk)
  · rw [if_neg c_107] at he
    replace hk := hk.2 c_107
    refine r_ret rfl rfl ?_
    subst he
    exact ⟨rfl, rfl⟩

def f_X12_tellOne_210 (s : fl_I) (l : fl_L) : fl_I × fl_L :=
    f_X12_tellOne_349  s l

def p_X12_tellOne_210 (s : fl_I) (l : fl_L) : Prop :=
    p_X12_tellOne_349  s l

set_option maxRecDepth 100000 in
set_option maxHeartbeats 4000000 in
theorem lp_X12_tellOne_210 {G : ab_G} {d : Nat} {D : fl_D} : ∀ (s : fl_I) (l : fl_L), p_X12_tellOne_210  s l → ab_C G (d + 6) 0 0 M_X12_tellOne 210 [none, none] [] (hp D s l) (rt none (hp D (f_X12_tellOne_210  s l).1 (f_X12_tellOne_210  s l).2)) := by
  intro  s l hk
  generalize he : f_X12_tellOne_210  s l = res
  unfold f_X12_tellOne_210 at he
  unfold p_X12_tellOne_210 at hk
  refine r_goto rfl ?_
  subst he
  exact r_weak (L1 := [none, none]) trivial (lp_X12_tellOne_349 _ _ hk)

def f_X12_tellOne_199 (s : fl_I) (l : fl_L) : fl_I × fl_L :=
    if ((s 60 13) = 0) then f_X12_tellOne_210  (f_X12_tellPicker s l).1 (f_X12_tellPicker s l).2 else f_X12_tellOne_349  s l

def p_X12_tellOne_199 (s : fl_I) (l : fl_L) : Prop :=
    ((((s 60 13) = 0) → (p_X12_tellPicker s l) ∧ p_X12_tellOne_210  (f_X12_tellPicker s l).1 (f_X12_tellPicker s l).2) ∧ (¬ ((s 60 13) = 0) → p_X12_tellOne_349  s l))

set_option maxRecDepth 100000 in
set_option maxHeartbeats 4000000 in
theorem lp_X12_tellOne_199 {G : ab_G} {d : Nat} {D : fl_D} : ∀ (s : fl_I) (l : fl_L), p_X12_tellOne_199  s l → ab_C G (d + 6) 0 0 M_X12_tellOne 199 [some (.ref 60), none] [] (hp D s l) (rt none (hp D (f_X12_tellOne_199  s l).1 (f_X12_tellOne_199  s l).2)) := by
  intro  s l hk
  generalize he : f_X12_tellOne_199  s l = res
  unfold f_X12_tellOne_199 at he
  unfold p_X12_tellOne_199 at hk
  refine r_aload_n rfl rfl ?_
  refine q_getfield rfl (cc_60 _) rfl ?_
  refine r_if_ne rfl (fun c_203 => ?_) (fun c_203 => ?_)
  · rw [if_neg c_203] at he
    replace hk := hk.2 c_203
    subst he
    exact r_weak (L1 := [none, none]) trivial (lp_X12_tellOne_349 _ _ hk)
  · rw [if_pos c_203] at he
    replace hk := hk.1 c_203
    refine r_aload_n rfl rfl ?_
    obtain ⟨hb15, hk⟩ := hk
    refine q_callV0 [] _ rfl kY_X12_tellPicker kT_X12_tellPicker rfl rfl (Nat.le_of_ble_eq_true rfl) (Nat.le_of_ble_eq_true rfl) (cc_60 _) (s_X12_tellPicker hb15) (fun r h q => ?_)
    obtain ⟨rfl, rfl⟩ := q
    simp only [Option.toList, List.cons_append, List.nil_append]
    subst he
    exact r_weak (L1 := [none, none]) trivial (lp_X12_tellOne_210 _ _ hk)

def f_X12_tellOne_344 (x1 : Int32) (s : fl_I) (l : fl_L) : fl_I × fl_L :=
    f_X12_tellOne_349  (f_X12_tellLaw x1 s l).1 (f_X12_tellLaw x1 s l).2

def p_X12_tellOne_344 (x1 : Int32) (s : fl_I) (l : fl_L) : Prop :=
    (p_X12_tellLaw x1 s l) ∧ p_X12_tellOne_349  (f_X12_tellLaw x1 s l).1 (f_X12_tellLaw x1 s l).2

set_option maxRecDepth 100000 in
set_option maxHeartbeats 4000000 in
theorem lp_X12_tellOne_344 {G : ab_G} {d : Nat} {D : fl_D} : ∀ (x1 : Int32) (s : fl_I) (l : fl_L), p_X12_tellOne_344 x1 s l → ab_C G (d + 6) 0 0 M_X12_tellOne 344 [some (.ref 60), some (.int x1)] [] (hp D s l) (rt none (hp D (f_X12_tellOne_344 x1 s l).1 (f_X12_tellOne_344 x1 s l).2)) := by
  intro x1 s l hk
  generalize he : f_X12_tellOne_344 x1 s l = res
  unfold f_X12_tellOne_344 at he
  unfold p_X12_tellOne_344 at hk
  refine r_aload_n rfl rfl ?_
  refine r_iload_n rfl rfl ?_
  obtain ⟨hb19, hk⟩ := hk
  refine q_callV0 [_] _ rfl kY_X12_tellLaw kT_X12_tellLaw rfl rfl (Nat.le_of_ble_eq_true rfl) (Nat.le_of_ble_eq_true rfl) (cc_60 _) (s_X12_tellLaw hb19) (fun r h q => ?_)
  obtain ⟨rfl, rfl⟩ := q
  simp only [Option.toList, List.cons_append, List.nil_append]
  subst he
  exact r_weak (L1 := [none, none]) trivial (lp_X12_tellOne_349 _ _ hk)

def f_X12_tellOne_332 (x1 : Int32) (s : fl_I) (l : fl_L) : fl_I × fl_L :=
    if ((s 60 13) ≤ 0) then f_X12_tellOne_344 x1 (f_X12_goesOn s l).1 (f_X12_goesOn s l).2 else (s, l)

def p_X12_tellOne_332 (x1 : Int32) (s : fl_I) (l : fl_L) : Prop :=
    ((((s 60 13) ≤ 0) → (p_X12_goesOn s l) ∧ p_X12_tellOne_344 x1 (f_X12_goesOn s l).1 (f_X12_goesOn s l).2) ∧ (¬ ((s 60 13) ≤ 0) → True))

set_option maxRecDepth 100000 in
set_option maxHeartbeats 4000000 in
theorem lp_X12_tellOne_332 {G : ab_G} {d : Nat} {D : fl_D} : ∀ (x1 : Int32) (s : fl_I) (l : fl_L), p_X12_tellOne_332 x1 s l → ab_C G (d + 6) 0 0 M_X12_tellOne 332 [some (.ref 60), some (.int x1)] [] (hp D s l) (rt none (hp D (f_X12_tellOne_332 x1 s l).1 (f_X12_tellOne_332 x1 s l).2)) := by
  intro x1 s l hk
  generalize he : f_X12_tellOne_332 x1 s l = res
  unfold f_X12_tellOne_332 at he
  unfold p_X12_tellOne_332 at hk
  refine r_aload_n rfl rfl ?_
  refine q_getfield rfl (cc_60 _) rfl ?_
  refine r_if_le rfl (fun c_336 => ?_) (fun c_336 => ?_)
  · rw [if_pos c_336] at he
    replace hk := hk.1 c_336
    refine r_aload_n rfl rfl ?_
    obtain ⟨hb18, hk⟩ := hk
    refine q_callV0 [] _ rfl kY_X12_goesOn kT_X12_goesOn rfl rfl (Nat.le_of_ble_eq_true rfl) (Nat.le_of_ble_eq_true rfl) (cc_60 _) (s_X12_goesOn hb18) (fun r h q => ?_)
    obtain ⟨rfl, rfl⟩ := q
    simp only [Option.toList, List.cons_append, List.nil_append]
    subst he
    exact r_weak (L1 := [some (.ref 60), some (.int x1)]) ⟨rfl, rfl, trivial⟩ (lp_X12_tellOne_344 _ _ _ hk)
  · rw [if_neg c_336] at he
    replace hk := hk.2 c_336
    refine r_ret rfl rfl ?_
    subst he
    exact ⟨rfl, rfl⟩

def f_X12_tellOne_327 (x1 : Int32) (s : fl_I) (l : fl_L) : fl_I × fl_L :=
    f_X12_tellOne_332 x1 (f_X12_fail (1 : Int32) s l).1 (f_X12_fail (1 : Int32) s l).2

def p_X12_tellOne_327 (x1 : Int32) (s : fl_I) (l : fl_L) : Prop :=
    (p_X12_fail (1 : Int32) s l) ∧ p_X12_tellOne_332 x1 (f_X12_fail (1 : Int32) s l).1 (f_X12_fail (1 : Int32) s l).2

set_option maxRecDepth 100000 in
set_option maxHeartbeats 4000000 in
theorem lp_X12_tellOne_327 {G : ab_G} {d : Nat} {D : fl_D} : ∀ (x1 : Int32) (s : fl_I) (l : fl_L), p_X12_tellOne_327 x1 s l → ab_C G (d + 6) 0 0 M_X12_tellOne 327 [some (.ref 60), some (.int x1)] [] (hp D s l) (rt none (hp D (f_X12_tellOne_327 x1 s l).1 (f_X12_tellOne_327 x1 s l).2)) := by
  intro x1 s l hk
  generalize he : f_X12_tellOne_327 x1 s l = res
  unfold f_X12_tellOne_327 at he
  unfold p_X12_tellOne_327 at hk
  refine r_aload_n rfl rfl ?_
  refine r_iconst_ (a := 1) rfl (by decide) ?_
  obtain ⟨hb17, hk⟩ := hk
  refine q_callV0 [_] _ rfl kY_X12_fail kT_X12_fail rfl rfl (Nat.le_of_ble_eq_true rfl) (Nat.le_of_ble_eq_true rfl) (cc_60 _) (s_X12_fail hb17) (fun r h q => ?_)
  obtain ⟨rfl, rfl⟩ := q
  simp only [Option.toList, List.cons_append, List.nil_append]
  subst he
  exact r_weak (L1 := [some (.ref 60), some (.int x1)]) ⟨rfl, rfl, trivial⟩ (lp_X12_tellOne_332 _ _ _ hk)

def f_X12_tellOne_254 (s : fl_I) (l : fl_L) : fl_I × fl_L :=
    f_X12_tellOne_349  s l

def p_X12_tellOne_254 (s : fl_I) (l : fl_L) : Prop :=
    p_X12_tellOne_349  s l

set_option maxRecDepth 100000 in
set_option maxHeartbeats 4000000 in
theorem lp_X12_tellOne_254 {G : ab_G} {d : Nat} {D : fl_D} : ∀ (s : fl_I) (l : fl_L), p_X12_tellOne_254  s l → ab_C G (d + 6) 0 0 M_X12_tellOne 254 [none, none] [] (hp D s l) (rt none (hp D (f_X12_tellOne_254  s l).1 (f_X12_tellOne_254  s l).2)) := by
  intro  s l hk
  generalize he : f_X12_tellOne_254  s l = res
  unfold f_X12_tellOne_254 at he
  unfold p_X12_tellOne_254 at hk
  refine r_goto rfl ?_
  subst he
  exact r_weak (L1 := [none, none]) trivial (lp_X12_tellOne_349 _ _ hk)

def f_X12_tellOne_248 (y1 : Int32) (y2 : Int32) (s : fl_I) (l : fl_L) : fl_I × fl_L :=
    f_X12_tellOne_254  (f_X12_must (4 : Int32) (wi s 79 y1.toNatClampNeg y2) l).1 (f_X12_must (4 : Int32) (wi s 79 y1.toNatClampNeg y2) l).2

def p_X12_tellOne_248 (y1 : Int32) (y2 : Int32) (s : fl_I) (l : fl_L) : Prop :=
    (vp_in y1 4) ∧ (p_X12_must (4 : Int32) (wi s 79 y1.toNatClampNeg y2) l) ∧ p_X12_tellOne_254  (f_X12_must (4 : Int32) (wi s 79 y1.toNatClampNeg y2) l).1 (f_X12_must (4 : Int32) (wi s 79 y1.toNatClampNeg y2) l).2

set_option maxRecDepth 100000 in
set_option maxHeartbeats 4000000 in
theorem lp_X12_tellOne_248 {G : ab_G} {d : Nat} {D : fl_D} : ∀ (y1 : Int32) (y2 : Int32) (s : fl_I) (l : fl_L), p_X12_tellOne_248 y1 y2 s l → ab_C G (d + 6) 0 0 M_X12_tellOne 248 [some (.ref 60), none] [.int y2, .int y1, .ref 79] (hp D s l) (rt none (hp D (f_X12_tellOne_248 y1 y2 s l).1 (f_X12_tellOne_248 y1 y2 s l).2)) := by
  intro y1 y2 s l hk
  generalize he : f_X12_tellOne_248 y1 y2 s l = res
  unfold f_X12_tellOne_248 at he
  unfold p_X12_tellOne_248 at hk
  obtain ⟨hb29, hk⟩ := hk
  refine w_iast rfl (cc_79 _) hb29 ?_
  refine r_aload_n rfl rfl ?_
  refine r_iconst_ (a := 4) rfl (by decide) ?_
  obtain ⟨hb30, hk⟩ := hk
  refine q_callV0 [_] _ rfl kY_X12_must kT_X12_must rfl rfl (Nat.le_of_ble_eq_true rfl) (Nat.le_of_ble_eq_true rfl) (cc_60 _) (s_X12_must hb30) (fun r h q => ?_)
  obtain ⟨rfl, rfl⟩ := q
  simp only [Option.toList, List.cons_append, List.nil_append]
  subst he
  exact r_weak (L1 := [none, none]) trivial (lp_X12_tellOne_254 _ _ hk)

def f_X12_tellOne_231 (y1 : Int32) (y2 : Int32) (s : fl_I) (l : fl_L) : fl_I × fl_L :=
    f_X12_tellOne_248 (((2 : Int32) * ((wi s 79 y1.toNatClampNeg y2) 60 19)) + (1 : Int32)) (f_X12_toldStep (wi s 79 y1.toNatClampNeg y2) l).1 (f_X12_toldStep (wi s 79 y1.toNatClampNeg y2) l).2.1 (f_X12_toldStep (wi s 79 y1.toNatClampNeg y2) l).2.2

def p_X12_tellOne_231 (y1 : Int32) (y2 : Int32) (s : fl_I) (l : fl_L) : Prop :=
    (vp_in y1 4) ∧ (p_X12_toldStep (wi s 79 y1.toNatClampNeg y2) l) ∧ p_X12_tellOne_248 (((2 : Int32) * ((wi s 79 y1.toNatClampNeg y2) 60 19)) + (1 : Int32)) (f_X12_toldStep (wi s 79 y1.toNatClampNeg y2) l).1 (f_X12_toldStep (wi s 79 y1.toNatClampNeg y2) l).2.1 (f_X12_toldStep (wi s 79 y1.toNatClampNeg y2) l).2.2

set_option maxRecDepth 100000 in
set_option maxHeartbeats 4000000 in
theorem lp_X12_tellOne_231 {G : ab_G} {d : Nat} {D : fl_D} : ∀ (y1 : Int32) (y2 : Int32) (s : fl_I) (l : fl_L), p_X12_tellOne_231 y1 y2 s l → ab_C G (d + 6) 0 0 M_X12_tellOne 231 [some (.ref 60), none] [.int y2, .int y1, .ref 79] (hp D s l) (rt none (hp D (f_X12_tellOne_231 y1 y2 s l).1 (f_X12_tellOne_231 y1 y2 s l).2)) := by
  intro y1 y2 s l hk
  generalize he : f_X12_tellOne_231 y1 y2 s l = res
  unfold f_X12_tellOne_231 at he
  unfold p_X12_tellOne_231 at hk
  obtain ⟨hb27, hk⟩ := hk
  refine w_iast rfl (cc_79 _) hb27 ?_
  refine r_aload_n rfl rfl ?_
  refine q_getfield rfl (cc_60 _) rfl ?_
  refine r_iconst_ (a := 2) rfl (by decide) ?_
  refine r_aload_n rfl rfl ?_
  refine q_getfield rfl (cc_60 _) rfl ?_
  refine r_imul rfl ?_
  refine r_iconst_ (a := 1) rfl (by decide) ?_
  refine r_iadd rfl ?_
  refine r_aload_n rfl rfl ?_
  obtain ⟨hb28, hk⟩ := hk
  refine q_callV0 [] _ rfl kY_X12_toldStep kT_X12_toldStep rfl rfl (Nat.le_of_ble_eq_true rfl) (Nat.le_of_ble_eq_true rfl) (cc_60 _) (s_X12_toldStep hb28) (fun r h q => ?_)
  obtain ⟨rfl, rfl⟩ := q
  simp only [Option.toList, List.cons_append, List.nil_append]
  subst he
  exact r_weak (L1 := [some (.ref 60), none]) ⟨rfl, trivial⟩ (lp_X12_tellOne_248 _ _ _ _ hk)

def f_X12_tellOne_217 (s : fl_I) (l : fl_L) : fl_I × fl_L :=
    f_X12_tellOne_231 ((2 : Int32) * (s 60 19)) (f_X12_toldStep s l).1 (f_X12_toldStep s l).2.1 (f_X12_toldStep s l).2.2

def p_X12_tellOne_217 (s : fl_I) (l : fl_L) : Prop :=
    (p_X12_toldStep s l) ∧ p_X12_tellOne_231 ((2 : Int32) * (s 60 19)) (f_X12_toldStep s l).1 (f_X12_toldStep s l).2.1 (f_X12_toldStep s l).2.2

set_option maxRecDepth 100000 in
set_option maxHeartbeats 4000000 in
theorem lp_X12_tellOne_217 {G : ab_G} {d : Nat} {D : fl_D} : ∀ (s : fl_I) (l : fl_L), p_X12_tellOne_217  s l → ab_C G (d + 6) 0 0 M_X12_tellOne 217 [some (.ref 60), none] [] (hp D s l) (rt none (hp D (f_X12_tellOne_217  s l).1 (f_X12_tellOne_217  s l).2)) := by
  intro  s l hk
  generalize he : f_X12_tellOne_217  s l = res
  unfold f_X12_tellOne_217 at he
  unfold p_X12_tellOne_217 at hk
  refine r_aload_n rfl rfl ?_
  refine q_getfield rfl (cc_60 _) rfl ?_
  refine r_iconst_ (a := 2) rfl (by decide) ?_
  refine r_aload_n rfl rfl ?_
  refine q_getfield rfl (cc_60 _) rfl ?_
  refine r_imul rfl ?_
  refine r_aload_n rfl rfl ?_
  obtain ⟨hb26, hk⟩ := hk
  refine q_callV0 [] _ rfl kY_X12_toldStep kT_X12_toldStep rfl rfl (Nat.le_of_ble_eq_true rfl) (Nat.le_of_ble_eq_true rfl) (cc_60 _) (s_X12_toldStep hb26) (fun r h q => ?_)
  obtain ⟨rfl, rfl⟩ := q
  simp only [Option.toList, List.cons_append, List.nil_append]
  subst he
  exact r_weak (L1 := [some (.ref 60), none]) ⟨rfl, trivial⟩ (lp_X12_tellOne_231 _ _ _ _ hk)

def f_X12_tellOne_272 (y1 : Int32) (y2 : Int32) (s : fl_I) (l : fl_L) : fl_I × fl_L :=
    f_X12_tellOne_349  (wi s 80 y1.toNatClampNeg y2) l

def p_X12_tellOne_272 (y1 : Int32) (y2 : Int32) (s : fl_I) (l : fl_L) : Prop :=
    (vp_in y1 2) ∧ p_X12_tellOne_349  (wi s 80 y1.toNatClampNeg y2) l

set_option maxRecDepth 100000 in
set_option maxHeartbeats 4000000 in
theorem lp_X12_tellOne_272 {G : ab_G} {d : Nat} {D : fl_D} : ∀ (y1 : Int32) (y2 : Int32) (s : fl_I) (l : fl_L), p_X12_tellOne_272 y1 y2 s l → ab_C G (d + 6) 0 0 M_X12_tellOne 272 [none, none] [.int y2, .int y1, .ref 80] (hp D s l) (rt none (hp D (f_X12_tellOne_272 y1 y2 s l).1 (f_X12_tellOne_272 y1 y2 s l).2)) := by
  intro y1 y2 s l hk
  generalize he : f_X12_tellOne_272 y1 y2 s l = res
  unfold f_X12_tellOne_272 at he
  unfold p_X12_tellOne_272 at hk
  obtain ⟨hb32, hk⟩ := hk
  refine w_iast rfl (cc_80 _) hb32 ?_
  refine r_goto rfl ?_
  subst he
  exact r_weak (L1 := [none, none]) trivial (lp_X12_tellOne_349 _ _ hk)

def f_X12_tellOne_292 (y1 : Int32) (y2 : Int32) (s : fl_I) (l : fl_L) : fl_I × fl_L :=
    f_X12_tellOne_349  (wi s 81 y1.toNatClampNeg y2) l

def p_X12_tellOne_292 (y1 : Int32) (y2 : Int32) (s : fl_I) (l : fl_L) : Prop :=
    (vp_in y1 2) ∧ p_X12_tellOne_349  (wi s 81 y1.toNatClampNeg y2) l

set_option maxRecDepth 100000 in
set_option maxHeartbeats 4000000 in
theorem lp_X12_tellOne_292 {G : ab_G} {d : Nat} {D : fl_D} : ∀ (y1 : Int32) (y2 : Int32) (s : fl_I) (l : fl_L), p_X12_tellOne_292 y1 y2 s l → ab_C G (d + 6) 0 0 M_X12_tellOne 292 [none, none] [.int y2, .int y1, .ref 81] (hp D s l) (rt none (hp D (f_X12_tellOne_292 y1 y2 s l).1 (f_X12_tellOne_292 y1 y2 s l).2)) := by
  intro y1 y2 s l hk
  generalize he : f_X12_tellOne_292 y1 y2 s l = res
  unfold f_X12_tellOne_292 at he
  unfold p_X12_tellOne_292 at hk
  obtain ⟨hb34, hk⟩ := hk
  refine w_iast rfl (cc_81 _) hb34 ?_
  refine r_goto rfl ?_
  subst he
  exact r_weak (L1 := [none, none]) trivial (lp_X12_tellOne_349 _ _ hk)

def f_X12_tellOne (s : fl_I) (l : fl_L) : fl_I × fl_L :=
  if ((s 63 (s 60 11).toNatClampNeg) = 20) then f_X12_tellOne_74  (f_X12_roomFor (s 68 (s 60 19).toNatClampNeg) (4 : Int32) s l).1 (f_X12_roomFor (s 68 (s 60 19).toNatClampNeg) (4 : Int32) s l).2 else if ((s 63 (s 60 11).toNatClampNeg) = 21) then f_X12_tellOne_103  (f_X12_roomFor (s 72 (s 60 19).toNatClampNeg) (8 : Int32) s l).1 (f_X12_roomFor (s 72 (s 60 19).toNatClampNeg) (8 : Int32) s l).2 else if ((s 63 (s 60 11).toNatClampNeg) = 22) then f_X12_tellOne_199  (f_X12_roomFor (s 74 (s 60 19).toNatClampNeg) (4 : Int32) s l).1 (f_X12_roomFor (s 74 (s 60 19).toNatClampNeg) (4 : Int32) s l).2 else if ((s 63 (s 60 11).toNatClampNeg) = 23) then if (((s 63 (s 60 11).toNatClampNeg) - (23 : Int32)) < 0) then f_X12_tellOne_327 ((s 63 (s 60 11).toNatClampNeg) - (23 : Int32)) s l else if ((s 63 (s 60 11).toNatClampNeg) ≤ (25 : Int32)) then f_X12_tellOne_332 ((s 63 (s 60 11).toNatClampNeg) - (23 : Int32)) s l else f_X12_tellOne_327 ((s 63 (s 60 11).toNatClampNeg) - (23 : Int32)) s l else if ((s 63 (s 60 11).toNatClampNeg) = 24) then if (((s 63 (s 60 11).toNatClampNeg) - (23 : Int32)) < 0) then f_X12_tellOne_327 ((s 63 (s 60 11).toNatClampNeg) - (23 : Int32)) s l else if ((s 63 (s 60 11).toNatClampNeg) ≤ (25 : Int32)) then f_X12_tellOne_332 ((s 63 (s 60 11).toNatClampNeg) - (23 : Int32)) s l else f_X12_tellOne_327 ((s 63 (s 60 11).toNatClampNeg) - (23 : Int32)) s l else if ((s 63 (s 60 11).toNatClampNeg) = 25) then if (((s 63 (s 60 11).toNatClampNeg) - (23 : Int32)) < 0) then f_X12_tellOne_327 ((s 63 (s 60 11).toNatClampNeg) - (23 : Int32)) s l else if ((s 63 (s 60 11).toNatClampNeg) ≤ (25 : Int32)) then f_X12_tellOne_332 ((s 63 (s 60 11).toNatClampNeg) - (23 : Int32)) s l else f_X12_tellOne_327 ((s 63 (s 60 11).toNatClampNeg) - (23 : Int32)) s l else if ((s 63 (s 60 11).toNatClampNeg) = 26) then f_X12_tellOne_217  (f_X12_goesOn s l).1 (f_X12_goesOn s l).2 else if ((s 63 (s 60 11).toNatClampNeg) = 27) then f_X12_tellOne_272 (s 60 19) (f_X12_toldInt (0 : Int32) (100 : Int32) s l).1 (f_X12_toldInt (0 : Int32) (100 : Int32) s l).2.1 (f_X12_toldInt (0 : Int32) (100 : Int32) s l).2.2 else if ((s 63 (s 60 11).toNatClampNeg) = 28) then f_X12_tellOne_292 (s 60 19) (f_X12_toldInt (0 : Int32) (9999 : Int32) s l).1 (f_X12_toldInt (0 : Int32) (9999 : Int32) s l).2.1 (f_X12_toldInt (0 : Int32) (9999 : Int32) s l).2.2 else if (((s 63 (s 60 11).toNatClampNeg) - (23 : Int32)) < 0) then f_X12_tellOne_327 ((s 63 (s 60 11).toNatClampNeg) - (23 : Int32)) s l else if ((s 63 (s 60 11).toNatClampNeg) ≤ (25 : Int32)) then f_X12_tellOne_332 ((s 63 (s 60 11).toNatClampNeg) - (23 : Int32)) s l else f_X12_tellOne_327 ((s 63 (s 60 11).toNatClampNeg) - (23 : Int32)) s l

def p_X12_tellOne (s : fl_I) (l : fl_L) : Prop :=
  (vp_in (s 60 11) 403) ∧ ((((s 63 (s 60 11).toNatClampNeg) = 20) → (vp_in (s 60 19) 2) ∧ (p_X12_roomFor (s 68 (s 60 19).toNatClampNeg) (4 : Int32) s l) ∧ p_X12_tellOne_74  (f_X12_roomFor (s 68 (s 60 19).toNatClampNeg) (4 : Int32) s l).1 (f_X12_roomFor (s 68 (s 60 19).toNatClampNeg) (4 : Int32) s l).2) ∧ (¬ ((s 63 (s 60 11).toNatClampNeg) = 20) → ((((s 63 (s 60 11).toNatClampNeg) = 21) → (vp_in (s 60 19) 2) ∧ (p_X12_roomFor (s 72 (s 60 19).toNatClampNeg) (8 : Int32) s l) ∧ p_X12_tellOne_103  (f_X12_roomFor (s 72 (s 60 19).toNatClampNeg) (8 : Int32) s l).1 (f_X12_roomFor (s 72 (s 60 19).toNatClampNeg) (8 : Int32) s l).2) ∧ (¬ ((s 63 (s 60 11).toNatClampNeg) = 21) → ((((s 63 (s 60 11).toNatClampNeg) = 22) → (vp_in (s 60 19) 2) ∧ (p_X12_roomFor (s 74 (s 60 19).toNatClampNeg) (4 : Int32) s l) ∧ p_X12_tellOne_199  (f_X12_roomFor (s 74 (s 60 19).toNatClampNeg) (4 : Int32) s l).1 (f_X12_roomFor (s 74 (s 60 19).toNatClampNeg) (4 : Int32) s l).2) ∧ (¬ ((s 63 (s 60 11).toNatClampNeg) = 22) → ((((s 63 (s 60 11).toNatClampNeg) = 23) → (vp_in (s 60 11) 403) ∧ (((((s 63 (s 60 11).toNatClampNeg) - (23 : Int32)) < 0) → p_X12_tellOne_327 ((s 63 (s 60 11).toNatClampNeg) - (23 : Int32)) s l) ∧ (¬ (((s 63 (s 60 11).toNatClampNeg) - (23 : Int32)) < 0) → (vp_in (s 60 11) 403) ∧ ((((s 63 (s 60 11).toNatClampNeg) ≤ (25 : Int32)) → p_X12_tellOne_332 ((s 63 (s 60 11).toNatClampNeg) - (23 : Int32)) s l) ∧ (¬ ((s 63 (s 60 11).toNatClampNeg) ≤ (25 : Int32)) → p_X12_tellOne_327 ((s 63 (s 60 11).toNatClampNeg) - (23 : Int32)) s l))))) ∧ (¬ ((s 63 (s 60 11).toNatClampNeg) = 23) → ((((s 63 (s 60 11).toNatClampNeg) = 24) → (vp_in (s 60 11) 403) ∧ (((((s 63 (s 60 11).toNatClampNeg) - (23 : Int32)) < 0) → p_X12_tellOne_327 ((s 63 (s 60 11).toNatClampNeg) - (23 : Int32)) s l) ∧ (¬ (((s 63 (s 60 11).toNatClampNeg) - (23 : Int32)) < 0) → (vp_in (s 60 11) 403) ∧ ((((s 63 (s 60 11).toNatClampNeg) ≤ (25 : Int32)) → p_X12_tellOne_332 ((s 63 (s 60 11).toNatClampNeg) - (23 : Int32)) s l) ∧ (¬ ((s 63 (s 60 11).toNatClampNeg) ≤ (25 : Int32)) → p_X12_tellOne_327 ((s 63 (s 60 11).toNatClampNeg) - (23 : Int32)) s l))))) ∧ (¬ ((s 63 (s 60 11).toNatClampNeg) = 24) → ((((s 63 (s 60 11).toNatClampNeg) = 25) → (vp_in (s 60 11) 403) ∧ (((((s 63 (s 60 11).toNatClampNeg) - (23 : Int32)) < 0) → p_X12_tellOne_327 ((s 63 (s 60 11).toNatClampNeg) - (23 : Int32)) s l) ∧ (¬ (((s 63 (s 60 11).toNatClampNeg) - (23 : Int32)) < 0) → (vp_in (s 60 11) 403) ∧ ((((s 63 (s 60 11).toNatClampNeg) ≤ (25 : Int32)) → p_X12_tellOne_332 ((s 63 (s 60 11).toNatClampNeg) - (23 : Int32)) s l) ∧ (¬ ((s 63 (s 60 11).toNatClampNeg) ≤ (25 : Int32)) → p_X12_tellOne_327 ((s 63 (s 60 11).toNatClampNeg) - (23 : Int32)) s l))))) ∧ (¬ ((s 63 (s 60 11).toNatClampNeg) = 25) → ((((s 63 (s 60 11).toNatClampNeg) = 26) → (p_X12_goesOn s l) ∧ p_X12_tellOne_217  (f_X12_goesOn s l).1 (f_X12_goesOn s l).2) ∧ (¬ ((s 63 (s 60 11).toNatClampNeg) = 26) → ((((s 63 (s 60 11).toNatClampNeg) = 27) → (p_X12_toldInt (0 : Int32) (100 : Int32) s l) ∧ p_X12_tellOne_272 (s 60 19) (f_X12_toldInt (0 : Int32) (100 : Int32) s l).1 (f_X12_toldInt (0 : Int32) (100 : Int32) s l).2.1 (f_X12_toldInt (0 : Int32) (100 : Int32) s l).2.2) ∧ (¬ ((s 63 (s 60 11).toNatClampNeg) = 27) → ((((s 63 (s 60 11).toNatClampNeg) = 28) → (p_X12_toldInt (0 : Int32) (9999 : Int32) s l) ∧ p_X12_tellOne_292 (s 60 19) (f_X12_toldInt (0 : Int32) (9999 : Int32) s l).1 (f_X12_toldInt (0 : Int32) (9999 : Int32) s l).2.1 (f_X12_toldInt (0 : Int32) (9999 : Int32) s l).2.2) ∧ (¬ ((s 63 (s 60 11).toNatClampNeg) = 28) → (vp_in (s 60 11) 403) ∧ (((((s 63 (s 60 11).toNatClampNeg) - (23 : Int32)) < 0) → p_X12_tellOne_327 ((s 63 (s 60 11).toNatClampNeg) - (23 : Int32)) s l) ∧ (¬ (((s 63 (s 60 11).toNatClampNeg) - (23 : Int32)) < 0) → (vp_in (s 60 11) 403) ∧ ((((s 63 (s 60 11).toNatClampNeg) ≤ (25 : Int32)) → p_X12_tellOne_332 ((s 63 (s 60 11).toNatClampNeg) - (23 : Int32)) s l) ∧ (¬ ((s 63 (s 60 11).toNatClampNeg) ≤ (25 : Int32)) → p_X12_tellOne_327 ((s 63 (s 60 11).toNatClampNeg) - (23 : Int32)) s l))))))))))))))))))))))

set_option maxRecDepth 100000 in
set_option maxHeartbeats 4000000 in
theorem s_X12_tellOne {G : ab_G} {d : Nat} {D : fl_D} {s : fl_I} {l : fl_L}  (hk : p_X12_tellOne s l) : ab_C G (d + 6) 0 0 M_X12_tellOne 0 (ab_ent [.ref 60]) [] (hp D s l) (rt none (hp D (f_X12_tellOne s l).1 (f_X12_tellOne s l).2)) := by
  generalize he : (f_X12_tellOne s l) = res
  unfold f_X12_tellOne at he
  unfold p_X12_tellOne at hk
  refine r_weak (L1 := [some (.ref 60), none]) ⟨rfl, trivial⟩ ?_
  refine r_aload_n rfl rfl ?_
  refine q_getfield rfl (cc_60 _) rfl ?_
  refine r_aload_n rfl rfl ?_
  refine q_getfield rfl (cc_60 _) rfl ?_
  obtain ⟨hb0, hk⟩ := hk
  refine q_iald rfl (cc_63 _) hb0 ?_
  by_cases c_9_20 : ((s 63 (s 60 11).toNatClampNeg) = 20)
  · rw [if_pos c_9_20] at he
    replace hk := hk.1 c_9_20
    refine r_tableIn (tgt := 60) rfl (by rw [c_9_20]; decide) (by rw [c_9_20]; decide) (by rw [c_9_20]; rfl) (by decide) ?_
    refine r_aload_n rfl rfl ?_
    refine r_aload_n rfl rfl ?_
    refine q_getfield rfl (cc_60 _) rfl ?_
    refine r_aload_n rfl rfl ?_
    refine q_getfield rfl (cc_60 _) rfl ?_
    obtain ⟨hb1, hk⟩ := hk
    refine q_iald rfl (cc_68 _) hb1 ?_
    refine r_iconst_ (a := 4) rfl (by decide) ?_
    obtain ⟨hb2, hk⟩ := hk
    refine q_callV0 [_, _] _ rfl kY_X12_roomFor kT_X12_roomFor rfl rfl (Nat.le_of_ble_eq_true rfl) (Nat.le_of_ble_eq_true rfl) (cc_60 _) (s_X12_roomFor hb2) (fun r h q => ?_)
    obtain ⟨rfl, rfl⟩ := q
    simp only [Option.toList, List.cons_append, List.nil_append]
    subst he
    exact r_weak (L1 := [some (.ref 60), none]) ⟨rfl, trivial⟩ (lp_X12_tellOne_74 _ _ hk)
  · rw [if_neg c_9_20] at he
    replace hk := hk.2 c_9_20
    by_cases c_9_21 : ((s 63 (s 60 11).toNatClampNeg) = 21)
    · rw [if_pos c_9_21] at he
      replace hk := hk.1 c_9_21
      refine r_tableIn (tgt := 88) rfl (by rw [c_9_21]; decide) (by rw [c_9_21]; decide) (by rw [c_9_21]; rfl) (by decide) ?_
      refine r_aload_n rfl rfl ?_
      refine r_aload_n rfl rfl ?_
      refine q_getfield rfl (cc_60 _) rfl ?_
      refine r_aload_n rfl rfl ?_
      refine q_getfield rfl (cc_60 _) rfl ?_
      obtain ⟨hb4, hk⟩ := hk
      refine q_iald rfl (cc_72 _) hb4 ?_
      refine r_bipush_ (a := 8) rfl (by decide) ?_
      obtain ⟨hb5, hk⟩ := hk
      refine q_callV0 [_, _] _ rfl kY_X12_roomFor kT_X12_roomFor rfl rfl (Nat.le_of_ble_eq_true rfl) (Nat.le_of_ble_eq_true rfl) (cc_60 _) (s_X12_roomFor hb5) (fun r h q => ?_)
      obtain ⟨rfl, rfl⟩ := q
      simp only [Option.toList, List.cons_append, List.nil_append]
      subst he
      exact r_weak (L1 := [some (.ref 60), none]) ⟨rfl, trivial⟩ (lp_X12_tellOne_103 _ _ hk)
    · rw [if_neg c_9_21] at he
      replace hk := hk.2 c_9_21
      by_cases c_9_22 : ((s 63 (s 60 11).toNatClampNeg) = 22)
      · rw [if_pos c_9_22] at he
        replace hk := hk.1 c_9_22
        refine r_tableIn (tgt := 185) rfl (by rw [c_9_22]; decide) (by rw [c_9_22]; decide) (by rw [c_9_22]; rfl) (by decide) ?_
        refine r_aload_n rfl rfl ?_
        refine r_aload_n rfl rfl ?_
        refine q_getfield rfl (cc_60 _) rfl ?_
        refine r_aload_n rfl rfl ?_
        refine q_getfield rfl (cc_60 _) rfl ?_
        obtain ⟨hb13, hk⟩ := hk
        refine q_iald rfl (cc_74 _) hb13 ?_
        refine r_iconst_ (a := 4) rfl (by decide) ?_
        obtain ⟨hb14, hk⟩ := hk
        refine q_callV0 [_, _] _ rfl kY_X12_roomFor kT_X12_roomFor rfl rfl (Nat.le_of_ble_eq_true rfl) (Nat.le_of_ble_eq_true rfl) (cc_60 _) (s_X12_roomFor hb14) (fun r h q => ?_)
        obtain ⟨rfl, rfl⟩ := q
        simp only [Option.toList, List.cons_append, List.nil_append]
        subst he
        exact r_weak (L1 := [some (.ref 60), none]) ⟨rfl, trivial⟩ (lp_X12_tellOne_199 _ _ hk)
      · rw [if_neg c_9_22] at he
        replace hk := hk.2 c_9_22
        by_cases c_9_23 : ((s 63 (s 60 11).toNatClampNeg) = 23)
        · rw [if_pos c_9_23] at he
          replace hk := hk.1 c_9_23
          refine r_tableIn (tgt := 296) rfl (by rw [c_9_23]; decide) (by rw [c_9_23]; decide) (by rw [c_9_23]; rfl) (by decide) ?_
          refine r_aload_n rfl rfl ?_
          refine q_getfield rfl (cc_60 _) rfl ?_
          refine r_aload_n rfl rfl ?_
          refine q_getfield rfl (cc_60 _) rfl ?_
          obtain ⟨hb16, hk⟩ := hk
          refine q_iald rfl (cc_63 _) hb16 ?_
          refine r_bipush_ (a := 23) rfl (by decide) ?_
          refine r_isub rfl ?_
          refine r_istore_n rfl (Nat.le_of_ble_eq_true rfl) rfl ?_
          refine r_iload_n rfl rfl ?_
          refine r_if_lt rfl (fun c_310 => ?_) (fun c_310 => ?_)
          · rw [if_pos c_310] at he
            replace hk := hk.1 c_310
            subst he
            exact r_weak (L1 := [some (.ref 60), some (.int ((s 63 (s 60 11).toNatClampNeg) - (23 : Int32)))]) ⟨rfl, rfl, trivial⟩ (lp_X12_tellOne_327 _ _ _ hk)
          · rw [if_neg c_310] at he
            replace hk := hk.2 c_310
            refine r_aload_n rfl rfl ?_
            refine q_getfield rfl (cc_60 _) rfl ?_
            refine r_aload_n rfl rfl ?_
            refine q_getfield rfl (cc_60 _) rfl ?_
            obtain ⟨hb20, hk⟩ := hk
            refine q_iald rfl (cc_63 _) hb20 ?_
            refine r_bipush_ (a := 25) rfl (by decide) ?_
            refine r_icmp_le rfl (fun c_324 => ?_) (fun c_324 => ?_)
            · rw [if_pos c_324] at he
              replace hk := hk.1 c_324
              subst he
              exact r_weak (L1 := [some (.ref 60), some (.int ((s 63 (s 60 11).toNatClampNeg) - (23 : Int32)))]) ⟨rfl, rfl, trivial⟩ (lp_X12_tellOne_332 _ _ _ hk)
            · rw [if_neg c_324] at he
              replace hk := hk.2 c_324
              subst he
              exact r_weak (L1 := [some (.ref 60), some (.int ((s 63 (s 60 11).toNatClampNeg) - (23 : Int32)))]) ⟨rfl, rfl, trivial⟩ (lp_X12_tellOne_327 _ _ _ hk)
        · rw [if_neg c_9_23] at he
          replace hk := hk.2 c_9_23
          by_cases c_9_24 : ((s 63 (s 60 11).toNatClampNeg) = 24)
          · rw [if_pos c_9_24] at he
            replace hk := hk.1 c_9_24
            refine r_tableIn (tgt := 296) rfl (by rw [c_9_24]; decide) (by rw [c_9_24]; decide) (by rw [c_9_24]; rfl) (by decide) ?_
            refine r_aload_n rfl rfl ?_
            refine q_getfield rfl (cc_60 _) rfl ?_
            refine r_aload_n rfl rfl ?_
            refine q_getfield rfl (cc_60 _) rfl ?_
            obtain ⟨hb21, hk⟩ := hk
            refine q_iald rfl (cc_63 _) hb21 ?_
            refine r_bipush_ (a := 23) rfl (by decide) ?_
            refine r_isub rfl ?_
            refine r_istore_n rfl (Nat.le_of_ble_eq_true rfl) rfl ?_
            refine r_iload_n rfl rfl ?_
            refine r_if_lt rfl (fun c_310 => ?_) (fun c_310 => ?_)
            · rw [if_pos c_310] at he
              replace hk := hk.1 c_310
              subst he
              exact r_weak (L1 := [some (.ref 60), some (.int ((s 63 (s 60 11).toNatClampNeg) - (23 : Int32)))]) ⟨rfl, rfl, trivial⟩ (lp_X12_tellOne_327 _ _ _ hk)
            · rw [if_neg c_310] at he
              replace hk := hk.2 c_310
              refine r_aload_n rfl rfl ?_
              refine q_getfield rfl (cc_60 _) rfl ?_
              refine r_aload_n rfl rfl ?_
              refine q_getfield rfl (cc_60 _) rfl ?_
              obtain ⟨hb22, hk⟩ := hk
              refine q_iald rfl (cc_63 _) hb22 ?_
              refine r_bipush_ (a := 25) rfl (by decide) ?_
              refine r_icmp_le rfl (fun c_324 => ?_) (fun c_324 => ?_)
              · rw [if_pos c_324] at he
                replace hk := hk.1 c_324
                subst he
                exact r_weak (L1 := [some (.ref 60), some (.int ((s 63 (s 60 11).toNatClampNeg) - (23 : Int32)))]) ⟨rfl, rfl, trivial⟩ (lp_X12_tellOne_332 _ _ _ hk)
              · rw [if_neg c_324] at he
                replace hk := hk.2 c_324
                subst he
                exact r_weak (L1 := [some (.ref 60), some (.int ((s 63 (s 60 11).toNatClampNeg) - (23 : Int32)))]) ⟨rfl, rfl, trivial⟩ (lp_X12_tellOne_327 _ _ _ hk)
          · rw [if_neg c_9_24] at he
            replace hk := hk.2 c_9_24
            by_cases c_9_25 : ((s 63 (s 60 11).toNatClampNeg) = 25)
            · rw [if_pos c_9_25] at he
              replace hk := hk.1 c_9_25
              refine r_tableIn (tgt := 296) rfl (by rw [c_9_25]; decide) (by rw [c_9_25]; decide) (by rw [c_9_25]; rfl) (by decide) ?_
              refine r_aload_n rfl rfl ?_
              refine q_getfield rfl (cc_60 _) rfl ?_
              refine r_aload_n rfl rfl ?_
              refine q_getfield rfl (cc_60 _) rfl ?_
              obtain ⟨hb23, hk⟩ := hk
              refine q_iald rfl (cc_63 _) hb23 ?_
              refine r_bipush_ (a := 23) rfl (by decide) ?_
              refine r_isub rfl ?_
              refine r_istore_n rfl (Nat.le_of_ble_eq_true rfl) rfl ?_
              refine r_iload_n rfl rfl ?_
              refine r_if_lt rfl (fun c_310 => ?_) (fun c_310 => ?_)
              · rw [if_pos c_310] at he
                replace hk := hk.1 c_310
                subst he
                exact r_weak (L1 := [some (.ref 60), some (.int ((s 63 (s 60 11).toNatClampNeg) - (23 : Int32)))]) ⟨rfl, rfl, trivial⟩ (lp_X12_tellOne_327 _ _ _ hk)
              · rw [if_neg c_310] at he
                replace hk := hk.2 c_310
                refine r_aload_n rfl rfl ?_
                refine q_getfield rfl (cc_60 _) rfl ?_
                refine r_aload_n rfl rfl ?_
                refine q_getfield rfl (cc_60 _) rfl ?_
                obtain ⟨hb24, hk⟩ := hk
                refine q_iald rfl (cc_63 _) hb24 ?_
                refine r_bipush_ (a := 25) rfl (by decide) ?_
                refine r_icmp_le rfl (fun c_324 => ?_) (fun c_324 => ?_)
                · rw [if_pos c_324] at he
                  replace hk := hk.1 c_324
                  subst he
                  exact r_weak (L1 := [some (.ref 60), some (.int ((s 63 (s 60 11).toNatClampNeg) - (23 : Int32)))]) ⟨rfl, rfl, trivial⟩ (lp_X12_tellOne_332 _ _ _ hk)
                · rw [if_neg c_324] at he
                  replace hk := hk.2 c_324
                  subst he
                  exact r_weak (L1 := [some (.ref 60), some (.int ((s 63 (s 60 11).toNatClampNeg) - (23 : Int32)))]) ⟨rfl, rfl, trivial⟩ (lp_X12_tellOne_327 _ _ _ hk)
            · rw [if_neg c_9_25] at he
              replace hk := hk.2 c_9_25
              by_cases c_9_26 : ((s 63 (s 60 11).toNatClampNeg) = 26)
              · rw [if_pos c_9_26] at he
                replace hk := hk.1 c_9_26
                refine r_tableIn (tgt := 213) rfl (by rw [c_9_26]; decide) (by rw [c_9_26]; decide) (by rw [c_9_26]; rfl) (by decide) ?_
                refine r_aload_n rfl rfl ?_
                obtain ⟨hb25, hk⟩ := hk
                refine q_callV0 [] _ rfl kY_X12_goesOn kT_X12_goesOn rfl rfl (Nat.le_of_ble_eq_true rfl) (Nat.le_of_ble_eq_true rfl) (cc_60 _) (s_X12_goesOn hb25) (fun r h q => ?_)
                obtain ⟨rfl, rfl⟩ := q
                simp only [Option.toList, List.cons_append, List.nil_append]
                subst he
                exact r_weak (L1 := [some (.ref 60), none]) ⟨rfl, trivial⟩ (lp_X12_tellOne_217 _ _ hk)
              · rw [if_neg c_9_26] at he
                replace hk := hk.2 c_9_26
                by_cases c_9_27 : ((s 63 (s 60 11).toNatClampNeg) = 27)
                · rw [if_pos c_9_27] at he
                  replace hk := hk.1 c_9_27
                  refine r_tableIn (tgt := 257) rfl (by rw [c_9_27]; decide) (by rw [c_9_27]; decide) (by rw [c_9_27]; rfl) (by decide) ?_
                  refine r_aload_n rfl rfl ?_
                  refine q_getfield rfl (cc_60 _) rfl ?_
                  refine r_aload_n rfl rfl ?_
                  refine q_getfield rfl (cc_60 _) rfl ?_
                  refine r_aload_n rfl rfl ?_
                  refine r_iconst_ (a := 0) rfl (by decide) ?_
                  refine r_bipush_ (a := 100) rfl (by decide) ?_
                  obtain ⟨hb31, hk⟩ := hk
                  refine q_callV0 [_, _] _ rfl kY_X12_toldInt kT_X12_toldInt rfl rfl (Nat.le_of_ble_eq_true rfl) (Nat.le_of_ble_eq_true rfl) (cc_60 _) (s_X12_toldInt hb31) (fun r h q => ?_)
                  obtain ⟨rfl, rfl⟩ := q
                  simp only [Option.toList, List.cons_append, List.nil_append]
                  subst he
                  exact r_weak (L1 := [none, none]) trivial (lp_X12_tellOne_272 _ _ _ _ hk)
                · rw [if_neg c_9_27] at he
                  replace hk := hk.2 c_9_27
                  by_cases c_9_28 : ((s 63 (s 60 11).toNatClampNeg) = 28)
                  · rw [if_pos c_9_28] at he
                    replace hk := hk.1 c_9_28
                    refine r_tableIn (tgt := 276) rfl (by rw [c_9_28]; decide) (by rw [c_9_28]; decide) (by rw [c_9_28]; rfl) (by decide) ?_
                    refine r_aload_n rfl rfl ?_
                    refine q_getfield rfl (cc_60 _) rfl ?_
                    refine r_aload_n rfl rfl ?_
                    refine q_getfield rfl (cc_60 _) rfl ?_
                    refine r_aload_n rfl rfl ?_
                    refine r_iconst_ (a := 0) rfl (by decide) ?_
                    refine r_sipush_ (a := 9999) rfl (by decide) ?_
                    obtain ⟨hb33, hk⟩ := hk
                    refine q_callV0 [_, _] _ rfl kY_X12_toldInt kT_X12_toldInt rfl rfl (Nat.le_of_ble_eq_true rfl) (Nat.le_of_ble_eq_true rfl) (cc_60 _) (s_X12_toldInt hb33) (fun r h q => ?_)
                    obtain ⟨rfl, rfl⟩ := q
                    simp only [Option.toList, List.cons_append, List.nil_append]
                    subst he
                    exact r_weak (L1 := [none, none]) trivial (lp_X12_tellOne_292 _ _ _ _ hk)
                  · rw [if_neg c_9_28] at he
                    replace hk := hk.2 c_9_28
                    refine r_tableOut (tgt := 296) rfl (by simp only [Int32.lt_iff_toInt_lt, Int32.le_iff_toInt_le, ← Int32.toInt_inj, ti_0, ti_1, ti_2, ti_3, ti_4, ti_5, ti_6, ti_7, ti_8, ti_9, ti_10, ti_11, ti_12, ti_13, ti_14, ti_15, ti_16, ti_17, ti_18, ti_19, ti_20, ti_21, ti_22, ti_23, ti_24, ti_25, ti_26, ti_27, ti_28, ti_29, ti_30, ti_31, ti_32, ti_33, ti_34, ti_35, ti_36, ti_37, ti_38, ti_39, ti_40, ti_41, ti_42, ti_43, ti_44, ti_45, ti_46, ti_47, ti_48, ti_49, ti_50, ti_51, ti_52, ti_53, ti_54, ti_55, ti_56, ti_57, ti_58, ti_59, ti_60, ti_61, ti_62, ti_63, ti_64, ti_79, ti_80, ti_90, ti_96, ti_97, ti_99, ti_100, ti_122, ti_128, ti_132, ti_136, ti_140, ti_141, ti_145, ti_255, ti_256, ti_257, ti_258, ti_259, ti_262, ti_263, ti_264, ti_265, ti_266, ti_267, ti_268, ti_276, ti_277, ti_400, ti_401, ti_408, ti_420, ti_840, ti_999, ti_1980, ti_2000, ti_9999, ti_10000, ti_10240, ti_1000000, ti_m1, ti_m2, ti_m3, ti_m4, ti_m5, ti_m6, ti_m7] at c_9_20 c_9_21 c_9_22 c_9_23 c_9_24 c_9_25 c_9_26 c_9_27 c_9_28; omega) (by decide) ?_
                    refine r_aload_n rfl rfl ?_
                    refine q_getfield rfl (cc_60 _) rfl ?_
                    refine r_aload_n rfl rfl ?_
                    refine q_getfield rfl (cc_60 _) rfl ?_
                    obtain ⟨hb35, hk⟩ := hk
                    refine q_iald rfl (cc_63 _) hb35 ?_
                    refine r_bipush_ (a := 23) rfl (by decide) ?_
                    refine r_isub rfl ?_
                    refine r_istore_n rfl (Nat.le_of_ble_eq_true rfl) rfl ?_
                    refine r_iload_n rfl rfl ?_
                    refine r_if_lt rfl (fun c_310 => ?_) (fun c_310 => ?_)
                    · rw [if_pos c_310] at he
                      replace hk := hk.1 c_310
                      subst he
                      exact r_weak (L1 := [some (.ref 60), some (.int ((s 63 (s 60 11).toNatClampNeg) - (23 : Int32)))]) ⟨rfl, rfl, trivial⟩ (lp_X12_tellOne_327 _ _ _ hk)
                    · rw [if_neg c_310] at he
                      replace hk := hk.2 c_310
                      refine r_aload_n rfl rfl ?_
                      refine q_getfield rfl (cc_60 _) rfl ?_
                      refine r_aload_n rfl rfl ?_
                      refine q_getfield rfl (cc_60 _) rfl ?_
                      obtain ⟨hb36, hk⟩ := hk
                      refine q_iald rfl (cc_63 _) hb36 ?_
                      refine r_bipush_ (a := 25) rfl (by decide) ?_
                      refine r_icmp_le rfl (fun c_324 => ?_) (fun c_324 => ?_)
                      · rw [if_pos c_324] at he
                        replace hk := hk.1 c_324
                        subst he
                        exact r_weak (L1 := [some (.ref 60), some (.int ((s 63 (s 60 11).toNatClampNeg) - (23 : Int32)))]) ⟨rfl, rfl, trivial⟩ (lp_X12_tellOne_332 _ _ _ hk)
                      · rw [if_neg c_324] at he
                        replace hk := hk.2 c_324
                        subst he
                        exact r_weak (L1 := [some (.ref 60), some (.int ((s 63 (s 60 11).toNatClampNeg) - (23 : Int32)))]) ⟨rfl, rfl, trivial⟩ (lp_X12_tellOne_327 _ _ _ hk)

def f_X0_lacks (v0 : Int64) (s : fl_I) (l : fl_L) : Int32 × fl_I × fl_L :=
  ((f_X0_takeOut v0 s l).1, (f_X0_putBack v0 (f_X0_takeOut v0 s l).2.1 (f_X0_takeOut v0 s l).2.2).1, (f_X0_putBack v0 (f_X0_takeOut v0 s l).2.1 (f_X0_takeOut v0 s l).2.2).2)

def p_X0_lacks (v0 : Int64) (s : fl_I) (l : fl_L) : Prop :=
  (p_X0_takeOut v0 s l) ∧ (p_X0_putBack v0 (f_X0_takeOut v0 s l).2.1 (f_X0_takeOut v0 s l).2.2) ∧ True

set_option maxRecDepth 100000 in
set_option maxHeartbeats 4000000 in
theorem s_X0_lacks {G : ab_G} {d : Nat} {D : fl_D} {s : fl_I} {l : fl_L} {v0 : Int64} (hk : p_X0_lacks v0 s l) : ab_C G (d + 3) 0 0 M_X0_lacks 0 (ab_ent [.ref 55, .long v0]) [] (hp D s l) (rt (some (.int (f_X0_lacks v0 s l).1)) (hp D (f_X0_lacks v0 s l).2.1 (f_X0_lacks v0 s l).2.2)) := by
  generalize he : (f_X0_lacks v0 s l) = res
  unfold f_X0_lacks at he
  unfold p_X0_lacks at hk
  refine r_weak (L1 := [some (.ref 55), some (.long v0), none, none]) ⟨rfl, rfl, trivial⟩ ?_
  refine r_aload_n rfl rfl ?_
  refine r_lload_n rfl rfl ?_
  obtain ⟨hb0, hk⟩ := hk
  refine q_callV0 [_] _ rfl kY_X0_takeOut kT_X0_takeOut rfl rfl (Nat.le_of_ble_eq_true rfl) (Nat.le_of_ble_eq_true rfl) (cc_55 _) (s_X0_takeOut hb0) (fun r h q => ?_)
  obtain ⟨rfl, rfl⟩ := q
  simp only [Option.toList, List.cons_append, List.nil_append]
  refine r_istore_n rfl (Nat.le_of_ble_eq_true rfl) rfl ?_
  refine r_aload_n rfl rfl ?_
  refine r_lload_n rfl rfl ?_
  obtain ⟨hb1, hk⟩ := hk
  refine q_callV0 [_] _ rfl kY_X0_putBack kT_X0_putBack rfl rfl (Nat.le_of_ble_eq_true rfl) (Nat.le_of_ble_eq_true rfl) (cc_55 _) (s_X0_putBack hb1) (fun r h q => ?_)
  obtain ⟨rfl, rfl⟩ := q
  simp only [Option.toList, List.cons_append, List.nil_append]
  refine r_iload_n rfl rfl ?_
  refine r_iret rfl rfl rfl ?_
  subst he
  exact ⟨rfl, rfl⟩

def f_X12_takesOf (v0 : Int32) (s : fl_I) (l : fl_L) : Int32 × fl_I × fl_L :=
  ((f_X12_within (f_X12_lawTells (1 : Int32) (1 : Int32) (f_X12_looksAt v0 s l).1 (f_X12_looksAt v0 s l).2).1 (0 : Int32) (99 : Int32)), (f_X12_lawTells (1 : Int32) (1 : Int32) (f_X12_looksAt v0 s l).1 (f_X12_looksAt v0 s l).2).2.1, (f_X12_lawTells (1 : Int32) (1 : Int32) (f_X12_looksAt v0 s l).1 (f_X12_looksAt v0 s l).2).2.2)

def p_X12_takesOf (v0 : Int32) (s : fl_I) (l : fl_L) : Prop :=
  (p_X12_looksAt v0 s l) ∧ (p_X12_lawTells (1 : Int32) (1 : Int32) (f_X12_looksAt v0 s l).1 (f_X12_looksAt v0 s l).2) ∧ (p_X12_within (f_X12_lawTells (1 : Int32) (1 : Int32) (f_X12_looksAt v0 s l).1 (f_X12_looksAt v0 s l).2).1 (0 : Int32) (99 : Int32)) ∧ True

set_option maxRecDepth 100000 in
set_option maxHeartbeats 4000000 in
theorem s_X12_takesOf {G : ab_G} {d : Nat} {D : fl_D} {s : fl_I} {l : fl_L} {v0 : Int32} (hk : p_X12_takesOf v0 s l) : ab_C G (d + 3) 0 0 M_X12_takesOf 0 (ab_ent [.ref 60, .int v0]) [] (hp D s l) (rt (some (.int (f_X12_takesOf v0 s l).1)) (hp D (f_X12_takesOf v0 s l).2.1 (f_X12_takesOf v0 s l).2.2)) := by
  generalize he : (f_X12_takesOf v0 s l) = res
  unfold f_X12_takesOf at he
  unfold p_X12_takesOf at hk
  refine r_weak (L1 := [some (.ref 60), some (.int v0)]) ⟨rfl, rfl, trivial⟩ ?_
  refine r_aload_n rfl rfl ?_
  refine r_iload_n rfl rfl ?_
  obtain ⟨hb0, hk⟩ := hk
  refine q_callV0 [_] _ rfl kY_X12_looksAt kT_X12_looksAt rfl rfl (Nat.le_of_ble_eq_true rfl) (Nat.le_of_ble_eq_true rfl) (cc_60 _) (s_X12_looksAt hb0) (fun r h q => ?_)
  obtain ⟨rfl, rfl⟩ := q
  simp only [Option.toList, List.cons_append, List.nil_append]
  refine r_aload_n rfl rfl ?_
  refine r_iconst_ (a := 1) rfl (by decide) ?_
  refine r_iconst_ (a := 1) rfl (by decide) ?_
  obtain ⟨hb1, hk⟩ := hk
  refine q_callV0 [_, _] _ rfl kY_X12_lawTells kT_X12_lawTells rfl rfl (Nat.le_of_ble_eq_true rfl) (Nat.le_of_ble_eq_true rfl) (cc_60 _) (s_X12_lawTells hb1) (fun r h q => ?_)
  obtain ⟨rfl, rfl⟩ := q
  simp only [Option.toList, List.cons_append, List.nil_append]
  refine r_iconst_ (a := 0) rfl (by decide) ?_
  refine r_bipush_ (a := 99) rfl (by decide) ?_
  obtain ⟨hb2, hk⟩ := hk
  refine r_callS0 [_, _, _] _ rfl kY_X12_within kT_X12_within rfl rfl (Nat.le_of_ble_eq_true rfl) (Nat.le_of_ble_eq_true rfl) (s_X12_within hb2) (fun r h q => ?_)
  obtain ⟨rfl, rfl⟩ := q
  simp only [Option.toList, List.cons_append, List.nil_append]
  refine r_iret rfl rfl rfl ?_
  subst he
  exact ⟨rfl, rfl⟩

def f_X12_isBlown (v0 : Int32) (s : fl_I) (l : fl_L) : Int32 × fl_I × fl_L :=
  if ((f_X12_lawTells (0 : Int32) (0 : Int32) (f_X12_looksAt v0 s l).1 (f_X12_looksAt v0 s l).2).1 ≤ 0) then ((0 : Int32), (f_X12_lawTells (0 : Int32) (0 : Int32) (f_X12_looksAt v0 s l).1 (f_X12_looksAt v0 s l).2).2.1, (f_X12_lawTells (0 : Int32) (0 : Int32) (f_X12_looksAt v0 s l).1 (f_X12_looksAt v0 s l).2).2.2) else ((1 : Int32), (f_X12_lawTells (0 : Int32) (0 : Int32) (f_X12_looksAt v0 s l).1 (f_X12_looksAt v0 s l).2).2.1, (f_X12_lawTells (0 : Int32) (0 : Int32) (f_X12_looksAt v0 s l).1 (f_X12_looksAt v0 s l).2).2.2)

def p_X12_isBlown (v0 : Int32) (s : fl_I) (l : fl_L) : Prop :=
  (p_X12_looksAt v0 s l) ∧ (p_X12_lawTells (0 : Int32) (0 : Int32) (f_X12_looksAt v0 s l).1 (f_X12_looksAt v0 s l).2) ∧ ((((f_X12_lawTells (0 : Int32) (0 : Int32) (f_X12_looksAt v0 s l).1 (f_X12_looksAt v0 s l).2).1 ≤ 0) → True) ∧ (¬ ((f_X12_lawTells (0 : Int32) (0 : Int32) (f_X12_looksAt v0 s l).1 (f_X12_looksAt v0 s l).2).1 ≤ 0) → True))

set_option maxRecDepth 100000 in
set_option maxHeartbeats 4000000 in
theorem s_X12_isBlown {G : ab_G} {d : Nat} {D : fl_D} {s : fl_I} {l : fl_L} {v0 : Int32} (hk : p_X12_isBlown v0 s l) : ab_C G (d + 3) 0 0 M_X12_isBlown 0 (ab_ent [.ref 60, .int v0]) [] (hp D s l) (rt (some (.int (f_X12_isBlown v0 s l).1)) (hp D (f_X12_isBlown v0 s l).2.1 (f_X12_isBlown v0 s l).2.2)) := by
  generalize he : (f_X12_isBlown v0 s l) = res
  unfold f_X12_isBlown at he
  unfold p_X12_isBlown at hk
  refine r_weak (L1 := [some (.ref 60), some (.int v0)]) ⟨rfl, rfl, trivial⟩ ?_
  refine r_aload_n rfl rfl ?_
  refine r_iload_n rfl rfl ?_
  obtain ⟨hb0, hk⟩ := hk
  refine q_callV0 [_] _ rfl kY_X12_looksAt kT_X12_looksAt rfl rfl (Nat.le_of_ble_eq_true rfl) (Nat.le_of_ble_eq_true rfl) (cc_60 _) (s_X12_looksAt hb0) (fun r h q => ?_)
  obtain ⟨rfl, rfl⟩ := q
  simp only [Option.toList, List.cons_append, List.nil_append]
  refine r_aload_n rfl rfl ?_
  refine r_iconst_ (a := 0) rfl (by decide) ?_
  refine r_iconst_ (a := 0) rfl (by decide) ?_
  obtain ⟨hb1, hk⟩ := hk
  refine q_callV0 [_, _] _ rfl kY_X12_lawTells kT_X12_lawTells rfl rfl (Nat.le_of_ble_eq_true rfl) (Nat.le_of_ble_eq_true rfl) (cc_60 _) (s_X12_lawTells hb1) (fun r h q => ?_)
  obtain ⟨rfl, rfl⟩ := q
  simp only [Option.toList, List.cons_append, List.nil_append]
  refine r_if_le rfl (fun c_11 => ?_) (fun c_11 => ?_)
  · rw [if_pos c_11] at he
    replace hk := hk.1 c_11
    refine r_iconst_ (a := 0) rfl (by decide) ?_
    refine r_iret rfl rfl rfl ?_
    subst he
    exact ⟨rfl, rfl⟩
  · rw [if_neg c_11] at he
    replace hk := hk.2 c_11
    refine r_iconst_ (a := 1) rfl (by decide) ?_
    refine r_goto rfl ?_
    refine r_iret rfl rfl rfl ?_
    subst he
    exact ⟨rfl, rfl⟩

def f_X9_lawOfPiece (v0 : Int32) (v3 : Int32) (t : Nat) (a : Nat) (s : fl_I) (l : fl_L) : Int32 × fl_I × fl_L :=
  ((f_X1_ofPiece v0 v3 (f_X10_countAt (s (a + 1) v3.toNatClampNeg) a s l) t a s l).1, (f_X1_ofPiece v0 v3 (f_X10_countAt (s (a + 1) v3.toNatClampNeg) a s l) t a s l).2.1, (f_X1_ofPiece v0 v3 (f_X10_countAt (s (a + 1) v3.toNatClampNeg) a s l) t a s l).2.2)

def p_X9_lawOfPiece (v0 : Int32) (v3 : Int32) (t : Nat) (a : Nat) (s : fl_I) (l : fl_L) : Prop :=
  (vp_in v3 32) ∧ (p_X10_countAt (s (a + 1) v3.toNatClampNeg) a s l) ∧ (p_X1_ofPiece v0 v3 (f_X10_countAt (s (a + 1) v3.toNatClampNeg) a s l) t a s l) ∧ True

set_option maxRecDepth 100000 in
set_option maxHeartbeats 4000000 in
theorem s_X9_lawOfPiece {G : ab_G} {d : Nat} {D : fl_D} {s : fl_I} {l : fl_L} {t : Nat} (htt : isT t) {a : Nat} (hya : isY D a) {v0 : Int32} {v3 : Int32} (hk : p_X9_lawOfPiece v0 v3 t a s l) : ab_C G (d + 3) 0 0 M_X9_lawOfPiece 0 (ab_ent [.ref 46, .int v0, .ref t, .ref a, .int v3]) [] (hp D s l) (rt (some (.int (f_X9_lawOfPiece v0 v3 t a s l).1)) (hp D (f_X9_lawOfPiece v0 v3 t a s l).2.1 (f_X9_lawOfPiece v0 v3 t a s l).2.2)) := by
  generalize he : (f_X9_lawOfPiece v0 v3 t a s l) = res
  unfold f_X9_lawOfPiece at he
  unfold p_X9_lawOfPiece at hk
  refine r_weak (L1 := [some (.ref 46), some (.int v0), some (.ref t), some (.ref a), some (.int v3)]) ⟨rfl, rfl, rfl, rfl, rfl, trivial⟩ ?_
  refine r_aload_n rfl rfl ?_
  refine q_getfield rfl (cc_46 _) rfl ?_
  refine r_iload_n rfl rfl ?_
  refine r_aload_n rfl rfl ?_
  refine r_aload_n rfl rfl ?_
  refine r_iload rfl rfl ?_
  refine r_aload_n rfl rfl ?_
  refine r_aload_n rfl rfl ?_
  refine q_getfield rfl (cY_0 hya) rfl ?_
  refine r_iload rfl rfl ?_
  obtain ⟨hb0, hk⟩ := hk
  refine q_iald rfl (cY_1 hya) hb0 ?_
  obtain ⟨hb1, hk⟩ := hk
  refine q_callV0 [_] _ rfl kY_X10_countAt kT_X10_countAt rfl rfl (Nat.le_of_ble_eq_true rfl) (Nat.le_of_ble_eq_true rfl) (cY_0 hya) (s_X10_countAt hya hb1) (fun r h q => ?_)
  obtain ⟨rfl, rfl⟩ := q
  simp only [Option.toList, List.cons_append, List.nil_append]
  obtain ⟨hb2, hk⟩ := hk
  refine q_callV0 [_, _, _, _, _] _ rfl kY_X1_ofPiece kT_X1_ofPiece rfl rfl (Nat.le_of_ble_eq_true rfl) (Nat.le_of_ble_eq_true rfl) (cc_47 _) (s_X1_ofPiece htt hya hb2) (fun r h q => ?_)
  obtain ⟨rfl, rfl⟩ := q
  simp only [Option.toList, List.cons_append, List.nil_append]
  refine r_iret rfl rfl rfl ?_
  subst he
  exact ⟨rfl, rfl⟩

def f_X12_lossNow_4 : Nat → Int32 → Int32 → fl_I → fl_L → Int32 × fl_I × fl_L
  | 0, x1, x2, s, l => (0, s, l)
  | n + 1, x1, x2, s, l =>
    if ((s 60 54) ≤ x2) then (x1, s, l) else if ((f_X12_doesLie x2 s l) = 0) then f_X12_lossNow_4 n x1 (x2 + 1) s l else f_X12_lossNow_4 n (x1 + (f_X12_takesOf x2 s l).1) (x2 + 1) (f_X12_takesOf x2 s l).2.1 (f_X12_takesOf x2 s l).2.2

def p_X12_lossNow_4 : Nat → Int32 → Int32 → fl_I → fl_L → Prop
  | 0, _, _, _, _ => False
  | n + 1, x1, x2, s, l =>
    ((((s 60 54) ≤ x2) → True) ∧ (¬ ((s 60 54) ≤ x2) → (p_X12_doesLie x2 s l) ∧ ((((f_X12_doesLie x2 s l) = 0) → p_X12_lossNow_4 n x1 (x2 + 1) s l) ∧ (¬ ((f_X12_doesLie x2 s l) = 0) → (p_X12_takesOf x2 s l) ∧ p_X12_lossNow_4 n (x1 + (f_X12_takesOf x2 s l).1) (x2 + 1) (f_X12_takesOf x2 s l).2.1 (f_X12_takesOf x2 s l).2.2))))

set_option maxRecDepth 100000 in
set_option maxHeartbeats 4000000 in
theorem lp_X12_lossNow_4 {G : ab_G} {d : Nat} {D : fl_D} : ∀ (n : Nat) (x1 : Int32) (x2 : Int32) (s : fl_I) (l : fl_L), p_X12_lossNow_4 n x1 x2 s l → ab_C G (d + 4) 0 0 M_X12_lossNow 4 [some (.ref 60), some (.int x1), some (.int x2)] [] (hp D s l) (rt (some (.int (f_X12_lossNow_4 n x1 x2 s l).1)) (hp D (f_X12_lossNow_4 n x1 x2 s l).2.1 (f_X12_lossNow_4 n x1 x2 s l).2.2)) := by
  intro n
  induction n with
  | zero => intro x1 x2 s l hk; exact hk.elim
  | succ n ih =>
    intro x1 x2 s l hk
    generalize he : f_X12_lossNow_4 (n + 1) x1 x2 s l = res
    unfold f_X12_lossNow_4 at he
    unfold p_X12_lossNow_4 at hk
    refine r_iload_n rfl rfl ?_
    refine r_aload_n rfl rfl ?_
    refine q_getfield rfl (cc_60 _) rfl ?_
    refine r_icmp_ge rfl (fun c_9 => ?_) (fun c_9 => ?_)
    · rw [if_pos c_9] at he
      replace hk := hk.1 c_9
      refine r_iload_n rfl rfl ?_
      refine r_iret rfl rfl rfl ?_
      subst he
      exact ⟨rfl, rfl⟩
    · rw [if_neg c_9] at he
      replace hk := hk.2 c_9
      refine r_aload_n rfl rfl ?_
      refine r_iload_n rfl rfl ?_
      obtain ⟨hb0, hk⟩ := hk
      refine q_callV0 [_] _ rfl kY_X12_doesLie kT_X12_doesLie rfl rfl (Nat.le_of_ble_eq_true rfl) (Nat.le_of_ble_eq_true rfl) (cc_60 _) (s_X12_doesLie hb0) (fun r h q => ?_)
      obtain ⟨rfl, rfl⟩ := q
      simp only [Option.toList, List.cons_append, List.nil_append]
      refine r_if_eq rfl (fun c_17 => ?_) (fun c_17 => ?_)
      · rw [if_pos c_17] at he
        replace hk := hk.1 c_17
        refine r_iinc (b := x2 + 1) rfl rfl rfl (Nat.le_of_ble_eq_true rfl) rfl ?_
        refine r_goto rfl ?_
        subst he
        exact r_weak (L1 := [some (.ref 60), some (.int x1), some (.int (x2 + 1))]) ⟨rfl, rfl, rfl, trivial⟩ (ih _ _ _ _ hk)
      · rw [if_neg c_17] at he
        replace hk := hk.2 c_17
        refine r_iload_n rfl rfl ?_
        refine r_aload_n rfl rfl ?_
        refine r_iload_n rfl rfl ?_
        obtain ⟨hb1, hk⟩ := hk
        refine q_callV0 [_] _ rfl kY_X12_takesOf kT_X12_takesOf rfl rfl (Nat.le_of_ble_eq_true rfl) (Nat.le_of_ble_eq_true rfl) (cc_60 _) (s_X12_takesOf hb1) (fun r h q => ?_)
        obtain ⟨rfl, rfl⟩ := q
        simp only [Option.toList, List.cons_append, List.nil_append]
        refine r_iadd rfl ?_
        refine r_istore_n rfl (Nat.le_of_ble_eq_true rfl) rfl ?_
        refine r_iinc (b := x2 + 1) rfl rfl rfl (Nat.le_of_ble_eq_true rfl) rfl ?_
        refine r_goto rfl ?_
        subst he
        exact r_weak (L1 := [some (.ref 60), some (.int (x1 + (f_X12_takesOf x2 s l).1)), some (.int (x2 + 1))]) ⟨rfl, rfl, rfl, trivial⟩ (ih _ _ _ _ hk)

def f_X12_lossNow (s : fl_I) (l : fl_L) : Int32 × fl_I × fl_L :=
  f_X12_lossNow_4 fu (0 : Int32) (0 : Int32) s l

def p_X12_lossNow (s : fl_I) (l : fl_L) : Prop :=
  p_X12_lossNow_4 fu (0 : Int32) (0 : Int32) s l

set_option maxRecDepth 100000 in
set_option maxHeartbeats 4000000 in
theorem s_X12_lossNow {G : ab_G} {d : Nat} {D : fl_D} {s : fl_I} {l : fl_L}  (hk : p_X12_lossNow s l) : ab_C G (d + 4) 0 0 M_X12_lossNow 0 (ab_ent [.ref 60]) [] (hp D s l) (rt (some (.int (f_X12_lossNow s l).1)) (hp D (f_X12_lossNow s l).2.1 (f_X12_lossNow s l).2.2)) := by
  generalize he : (f_X12_lossNow s l) = res
  unfold f_X12_lossNow at he
  unfold p_X12_lossNow at hk
  refine r_weak (L1 := [some (.ref 60), none, none]) ⟨rfl, trivial⟩ ?_
  refine r_iconst_ (a := 0) rfl (by decide) ?_
  refine r_istore_n rfl (Nat.le_of_ble_eq_true rfl) rfl ?_
  refine r_iconst_ (a := 0) rfl (by decide) ?_
  refine r_istore_n rfl (Nat.le_of_ble_eq_true rfl) rfl ?_
  subst he
  exact r_weak (L1 := [some (.ref 60), some (.int (0 : Int32)), some (.int (0 : Int32))]) ⟨rfl, rfl, rfl, trivial⟩ (lp_X12_lossNow_4 fu _ _ _ _ hk)

