def f_X12_tellLetter_97 (fu : Nat) (s : fl_I) (l : fl_L) : fl_I × fl_L :=
    (s, l)

def p_X12_tellLetter_97 (fu : Nat) (s : fl_I) (l : fl_L) : Prop :=
    True

set_option maxRecDepth 100000 in
set_option maxHeartbeats 1000000 in
theorem lp_X12_tellLetter_97 {G : ab_G} {fu : Nat} {d : Nat} {D : fl_D} : ∀ (s : fl_I) (l : fl_L), p_X12_tellLetter_97 fu  s l → ab_C G (d + 4) 0 0 M_X12_tellLetter 97 [none, none] [] (hp D s l) (rt none (hp D (f_X12_tellLetter_97 fu  s l).1 (f_X12_tellLetter_97 fu  s l).2)) := by
  intro  s l hk
  generalize he : f_X12_tellLetter_97 fu  s l = res
  unfold f_X12_tellLetter_97 at he
  unfold p_X12_tellLetter_97 at hk
  refine r_ret rfl rfl ?_
  first | with_reducible exact fin_v he | exact fin_v he

def f_X12_tellLetter_77 (fu : Nat) (s : fl_I) (l : fl_L) : fl_I × fl_L :=
    if ((s 60 13) = 0) then f_X12_tellLetter_97 fu  (wi s 68 (s 60 19).toNatClampNeg ((s 68 (s 60 19).toNatClampNeg) + (1 : Int32))) l else f_X12_tellLetter_97 fu  s l

def p_X12_tellLetter_77 (fu : Nat) (s : fl_I) (l : fl_L) : Prop :=
    ((((s 60 13) = 0) → (vp_in (s 60 19) 2) ∧ (vp_in (s 60 19) 2) ∧ p_X12_tellLetter_97 fu  (wi s 68 (s 60 19).toNatClampNeg ((s 68 (s 60 19).toNatClampNeg) + (1 : Int32))) l) ∧ (¬ ((s 60 13) = 0) → p_X12_tellLetter_97 fu  s l))

set_option maxRecDepth 100000 in
set_option maxHeartbeats 1000000 in
theorem lp_X12_tellLetter_77 {G : ab_G} {fu : Nat} {d : Nat} {D : fl_D} : ∀ (s : fl_I) (l : fl_L), p_X12_tellLetter_77 fu  s l → ab_C G (d + 4) 0 0 M_X12_tellLetter 77 [some (.ref 60), none] [] (hp D s l) (rt none (hp D (f_X12_tellLetter_77 fu  s l).1 (f_X12_tellLetter_77 fu  s l).2)) := by
  intro  s l hk
  generalize he : f_X12_tellLetter_77 fu  s l = res
  unfold f_X12_tellLetter_77 at he
  unfold p_X12_tellLetter_77 at hk
  refine r_aload_n rfl rfl ?_
  refine q_getfield rfl (cc_60 _) rfl ?_
  refine r_if_ne rfl (fun c_81 => ?_) (fun c_81 => ?_)
  · rw [if_neg c_81] at he
    replace hk := hk.2 c_81
    subst he
    exact r_weak (L1 := [none, none]) trivial (lp_X12_tellLetter_97 _ _ hk)
  · rw [if_pos c_81] at he
    replace hk := hk.1 c_81
    refine r_aload_n rfl rfl ?_
    refine q_getfield rfl (cc_60 _) rfl ?_
    refine r_aload_n rfl rfl ?_
    refine q_getfield rfl (cc_60 _) rfl ?_
    refine r_dup2 rfl rfl rfl ?_
    obtain ⟨hb9, hk⟩ := hk
    refine q_iald rfl (cc_68 _) hb9 ?_
    refine r_iconst_ (a := 1) rfl (by decide) ?_
    refine r_iadd rfl ?_
    obtain ⟨hb10, hk⟩ := hk
    refine w_iast rfl (cc_68 _) hb10 ?_
    subst he
    exact r_weak (L1 := [none, none]) trivial (lp_X12_tellLetter_97 _ _ hk)

def f_X12_tellLetter_71 (fu : Nat) (y1 : Int32) (y2 : Int32) (s : fl_I) (l : fl_L) : fl_I × fl_L :=
    f_X12_tellLetter_77 fu  (f_X12_must fu (4 : Int32) (wi s 71 y1.toNatClampNeg y2) l).1 (f_X12_must fu (4 : Int32) (wi s 71 y1.toNatClampNeg y2) l).2

def p_X12_tellLetter_71 (fu : Nat) (y1 : Int32) (y2 : Int32) (s : fl_I) (l : fl_L) : Prop :=
    (vp_in y1 8) ∧ (p_X12_must fu (4 : Int32) (wi s 71 y1.toNatClampNeg y2) l) ∧ p_X12_tellLetter_77 fu  (f_X12_must fu (4 : Int32) (wi s 71 y1.toNatClampNeg y2) l).1 (f_X12_must fu (4 : Int32) (wi s 71 y1.toNatClampNeg y2) l).2

set_option maxRecDepth 100000 in
set_option maxHeartbeats 1000000 in
theorem lp_X12_tellLetter_71 {G : ab_G} {fu : Nat} {d : Nat} {D : fl_D} : ∀ (y1 : Int32) (y2 : Int32) (s : fl_I) (l : fl_L), p_X12_tellLetter_71 fu y1 y2 s l → ab_C G (d + 4) 0 0 M_X12_tellLetter 71 [some (.ref 60), none] [.int y2, .int y1, .ref 71] (hp D s l) (rt none (hp D (f_X12_tellLetter_71 fu y1 y2 s l).1 (f_X12_tellLetter_71 fu y1 y2 s l).2)) := by
  intro y1 y2 s l hk
  generalize he : f_X12_tellLetter_71 fu y1 y2 s l = res
  unfold f_X12_tellLetter_71 at he
  unfold p_X12_tellLetter_71 at hk
  obtain ⟨hb7, hk⟩ := hk
  refine w_iast rfl (cc_71 _) hb7 ?_
  refine r_aload_n rfl rfl ?_
  refine r_iconst_ (a := 4) rfl (by decide) ?_
  obtain ⟨hb8, hk⟩ := hk
  refine q_callV0 [_] _ rfl kY_X12_must kT_X12_must rfl rfl (Nat.le_of_ble_eq_true rfl) (Nat.le_of_ble_eq_true rfl) (cc_60 _) (s_X12_must hb8) (fun r h q => ?_)
  obtain ⟨rfl, rfl⟩ := q
  simp only [Option.toList, List.cons_append, List.nil_append]
  subst he
  exact r_weak (L1 := [some (.ref 60), none]) ⟨rfl, trivial⟩ (lp_X12_tellLetter_77 _ _ hk)

def f_X12_tellLetter_58 (fu : Nat) (x1 : Int32) (y1 : Int32) (y2 : Int32) (s : fl_I) (l : fl_L) : fl_I × fl_L :=
    f_X12_tellLetter_71 fu x1 (f_X12_bounded fu (0 : Int32) (7 : Int32) (wi s 70 y1.toNatClampNeg y2) l).1 (f_X12_bounded fu (0 : Int32) (7 : Int32) (wi s 70 y1.toNatClampNeg y2) l).2.1 (f_X12_bounded fu (0 : Int32) (7 : Int32) (wi s 70 y1.toNatClampNeg y2) l).2.2

def p_X12_tellLetter_58 (fu : Nat) (x1 : Int32) (y1 : Int32) (y2 : Int32) (s : fl_I) (l : fl_L) : Prop :=
    (vp_in y1 8) ∧ (p_X12_bounded fu (0 : Int32) (7 : Int32) (wi s 70 y1.toNatClampNeg y2) l) ∧ p_X12_tellLetter_71 fu x1 (f_X12_bounded fu (0 : Int32) (7 : Int32) (wi s 70 y1.toNatClampNeg y2) l).1 (f_X12_bounded fu (0 : Int32) (7 : Int32) (wi s 70 y1.toNatClampNeg y2) l).2.1 (f_X12_bounded fu (0 : Int32) (7 : Int32) (wi s 70 y1.toNatClampNeg y2) l).2.2

set_option maxRecDepth 100000 in
set_option maxHeartbeats 1000000 in
theorem lp_X12_tellLetter_58 {G : ab_G} {fu : Nat} {d : Nat} {D : fl_D} : ∀ (x1 : Int32) (y1 : Int32) (y2 : Int32) (s : fl_I) (l : fl_L), p_X12_tellLetter_58 fu x1 y1 y2 s l → ab_C G (d + 4) 0 0 M_X12_tellLetter 58 [some (.ref 60), some (.int x1)] [.int y2, .int y1, .ref 70] (hp D s l) (rt none (hp D (f_X12_tellLetter_58 fu x1 y1 y2 s l).1 (f_X12_tellLetter_58 fu x1 y1 y2 s l).2)) := by
  intro x1 y1 y2 s l hk
  generalize he : f_X12_tellLetter_58 fu x1 y1 y2 s l = res
  unfold f_X12_tellLetter_58 at he
  unfold p_X12_tellLetter_58 at hk
  obtain ⟨hb5, hk⟩ := hk
  refine w_iast rfl (cc_70 _) hb5 ?_
  refine r_aload_n rfl rfl ?_
  refine q_getfield rfl (cc_60 _) rfl ?_
  refine r_iload_n rfl rfl ?_
  refine r_aload_n rfl rfl ?_
  refine r_iconst_ (a := 0) rfl (by decide) ?_
  refine r_bipush_ (a := 7) rfl (by decide) ?_
  obtain ⟨hb6, hk⟩ := hk
  refine q_callV0 [_, _] _ rfl kY_X12_bounded kT_X12_bounded rfl rfl (Nat.le_of_ble_eq_true rfl) (Nat.le_of_ble_eq_true rfl) (cc_60 _) (s_X12_bounded hb6) (fun r h q => ?_)
  obtain ⟨rfl, rfl⟩ := q
  simp only [Option.toList, List.cons_append, List.nil_append]
  subst he
  exact r_weak (L1 := [some (.ref 60), none]) ⟨rfl, trivial⟩ (lp_X12_tellLetter_71 _ _ _ _ hk)

def f_X12_tellLetter_45 (fu : Nat) (x1 : Int32) (y1 : Int32) (y2 : Int64) (s : fl_I) (l : fl_L) : fl_I × fl_L :=
    f_X12_tellLetter_58 fu x1 x1 (f_X12_bounded fu (0 : Int32) (9 : Int32) s (wl l 69 y1.toNatClampNeg y2)).1 (f_X12_bounded fu (0 : Int32) (9 : Int32) s (wl l 69 y1.toNatClampNeg y2)).2.1 (f_X12_bounded fu (0 : Int32) (9 : Int32) s (wl l 69 y1.toNatClampNeg y2)).2.2

def p_X12_tellLetter_45 (fu : Nat) (x1 : Int32) (y1 : Int32) (y2 : Int64) (s : fl_I) (l : fl_L) : Prop :=
    (vp_in y1 8) ∧ (p_X12_bounded fu (0 : Int32) (9 : Int32) s (wl l 69 y1.toNatClampNeg y2)) ∧ p_X12_tellLetter_58 fu x1 x1 (f_X12_bounded fu (0 : Int32) (9 : Int32) s (wl l 69 y1.toNatClampNeg y2)).1 (f_X12_bounded fu (0 : Int32) (9 : Int32) s (wl l 69 y1.toNatClampNeg y2)).2.1 (f_X12_bounded fu (0 : Int32) (9 : Int32) s (wl l 69 y1.toNatClampNeg y2)).2.2

set_option maxRecDepth 100000 in
set_option maxHeartbeats 1000000 in
theorem lp_X12_tellLetter_45 {G : ab_G} {fu : Nat} {d : Nat} {D : fl_D} : ∀ (x1 : Int32) (y1 : Int32) (y2 : Int64) (s : fl_I) (l : fl_L), p_X12_tellLetter_45 fu x1 y1 y2 s l → ab_C G (d + 4) 0 0 M_X12_tellLetter 45 [some (.ref 60), some (.int x1)] [.long y2, .int y1, .ref 69] (hp D s l) (rt none (hp D (f_X12_tellLetter_45 fu x1 y1 y2 s l).1 (f_X12_tellLetter_45 fu x1 y1 y2 s l).2)) := by
  intro x1 y1 y2 s l hk
  generalize he : f_X12_tellLetter_45 fu x1 y1 y2 s l = res
  unfold f_X12_tellLetter_45 at he
  unfold p_X12_tellLetter_45 at hk
  obtain ⟨hb3, hk⟩ := hk
  refine w_last rfl (cc_69 _) hb3 ?_
  refine r_aload_n rfl rfl ?_
  refine q_getfield rfl (cc_60 _) rfl ?_
  refine r_iload_n rfl rfl ?_
  refine r_aload_n rfl rfl ?_
  refine r_iconst_ (a := 0) rfl (by decide) ?_
  refine r_bipush_ (a := 9) rfl (by decide) ?_
  obtain ⟨hb4, hk⟩ := hk
  refine q_callV0 [_, _] _ rfl kY_X12_bounded kT_X12_bounded rfl rfl (Nat.le_of_ble_eq_true rfl) (Nat.le_of_ble_eq_true rfl) (cc_60 _) (s_X12_bounded hb4) (fun r h q => ?_)
  obtain ⟨rfl, rfl⟩ := q
  simp only [Option.toList, List.cons_append, List.nil_append]
  subst he
  exact r_weak (L1 := [some (.ref 60), some (.int x1)]) ⟨rfl, rfl, trivial⟩ (lp_X12_tellLetter_58 _ _ _ _ _ hk)

def f_X12_tellLetter (fu : Nat) (s : fl_I) (l : fl_L) : fl_I × fl_L :=
  f_X12_tellLetter_45 fu (((4 : Int32) * (s 60 19)) + (s 68 (s 60 19).toNatClampNeg)) (((4 : Int32) * (s 60 19)) + (s 68 (s 60 19).toNatClampNeg)) (f_X12_named fu ((4 : Int32) * (s 60 19)) (s 68 (s 60 19).toNatClampNeg) 69 8 s l).1 (f_X12_named fu ((4 : Int32) * (s 60 19)) (s 68 (s 60 19).toNatClampNeg) 69 8 s l).2.1 (f_X12_named fu ((4 : Int32) * (s 60 19)) (s 68 (s 60 19).toNatClampNeg) 69 8 s l).2.2

def p_X12_tellLetter (fu : Nat) (s : fl_I) (l : fl_L) : Prop :=
  (vp_in (s 60 19) 2) ∧ (vp_in (s 60 19) 2) ∧ (p_X12_named fu ((4 : Int32) * (s 60 19)) (s 68 (s 60 19).toNatClampNeg) 69 8 s l) ∧ p_X12_tellLetter_45 fu (((4 : Int32) * (s 60 19)) + (s 68 (s 60 19).toNatClampNeg)) (((4 : Int32) * (s 60 19)) + (s 68 (s 60 19).toNatClampNeg)) (f_X12_named fu ((4 : Int32) * (s 60 19)) (s 68 (s 60 19).toNatClampNeg) 69 8 s l).1 (f_X12_named fu ((4 : Int32) * (s 60 19)) (s 68 (s 60 19).toNatClampNeg) 69 8 s l).2.1 (f_X12_named fu ((4 : Int32) * (s 60 19)) (s 68 (s 60 19).toNatClampNeg) 69 8 s l).2.2

set_option maxRecDepth 100000 in
set_option maxHeartbeats 1000000 in
theorem s_X12_tellLetter {G : ab_G} {fu : Nat} {d : Nat} {D : fl_D} {s : fl_I} {l : fl_L}  (hk : p_X12_tellLetter fu s l) : ab_C G (d + 4) 0 0 M_X12_tellLetter 0 (ab_ent [.ref 60]) [] (hp D s l) (rt none (hp D (f_X12_tellLetter fu s l).1 (f_X12_tellLetter fu s l).2)) := by
  generalize he : (f_X12_tellLetter fu s l) = res
  unfold f_X12_tellLetter at he
  unfold p_X12_tellLetter at hk
  refine r_weak (L1 := [some (.ref 60), none]) ⟨rfl, trivial⟩ ?_
  refine r_iconst_ (a := 4) rfl (by decide) ?_
  refine r_aload_n rfl rfl ?_
  refine q_getfield rfl (cc_60 _) rfl ?_
  refine r_imul rfl ?_
  refine r_aload_n rfl rfl ?_
  refine q_getfield rfl (cc_60 _) rfl ?_
  refine r_aload_n rfl rfl ?_
  refine q_getfield rfl (cc_60 _) rfl ?_
  obtain ⟨hb0, hk⟩ := hk
  refine q_iald rfl (cc_68 _) hb0 ?_
  refine r_iadd rfl ?_
  refine r_istore_n rfl (Nat.le_of_ble_eq_true rfl) rfl ?_
  refine r_aload_n rfl rfl ?_
  refine q_getfield rfl (cc_60 _) rfl ?_
  refine r_iload_n rfl rfl ?_
  refine r_aload_n rfl rfl ?_
  refine r_aload_n rfl rfl ?_
  refine q_getfield rfl (cc_60 _) rfl ?_
  refine r_iconst_ (a := 4) rfl (by decide) ?_
  refine r_aload_n rfl rfl ?_
  refine q_getfield rfl (cc_60 _) rfl ?_
  refine r_imul rfl ?_
  refine r_aload_n rfl rfl ?_
  refine q_getfield rfl (cc_60 _) rfl ?_
  refine r_aload_n rfl rfl ?_
  refine q_getfield rfl (cc_60 _) rfl ?_
  obtain ⟨hb1, hk⟩ := hk
  refine q_iald rfl (cc_68 _) hb1 ?_
  obtain ⟨hb2, hk⟩ := hk
  refine q_callV0 [_, _, _] _ rfl kY_X12_named kT_X12_named rfl rfl (Nat.le_of_ble_eq_true rfl) (Nat.le_of_ble_eq_true rfl) (cc_60 _) (s_X12_named (cc_69 _) hb2) (fun r h q => ?_)
  obtain ⟨rfl, rfl⟩ := q
  simp only [Option.toList, List.cons_append, List.nil_append]
  subst he
  exact r_weak (L1 := [some (.ref 60), some (.int (((4 : Int32) * (s 60 19)) + (s 68 (s 60 19).toNatClampNeg)))]) ⟨rfl, rfl, trivial⟩ (lp_X12_tellLetter_45 _ _ _ _ _ hk)

def f_X3_pickerTold_49 (fu : Nat) (t : Nat) (s : fl_I) (l : fl_L) : Int32 × fl_I × fl_L :=
    ((0 : Int32), s, l)

def p_X3_pickerTold_49 (fu : Nat) (t : Nat) (s : fl_I) (l : fl_L) : Prop :=
    True

set_option maxRecDepth 100000 in
set_option maxHeartbeats 1000000 in
theorem lp_X3_pickerTold_49 {G : ab_G} {fu : Nat} {d : Nat} {D : fl_D} {t : Nat} (htt : isT t) : ∀ (s : fl_I) (l : fl_L), p_X3_pickerTold_49 fu  t s l → ab_C G (d + 3) 0 0 M_X3_pickerTold 49 [none, none, none, none] [] (hp D s l) (rt (some (.int (f_X3_pickerTold_49 fu  t s l).1)) (hp D (f_X3_pickerTold_49 fu  t s l).2.1 (f_X3_pickerTold_49 fu  t s l).2.2)) := by
  intro  s l hk
  generalize he : f_X3_pickerTold_49 fu  t s l = res
  unfold f_X3_pickerTold_49 at he
  unfold p_X3_pickerTold_49 at hk
  refine r_iconst_ (a := 0) rfl (by decide) ?_
  refine r_iret rfl rfl rfl ?_
  first | with_reducible exact fin_i he | exact fin_i he

def f_X3_pickerTold_92 (fu : Nat) (t : Nat) (s : fl_I) (l : fl_L) : Int32 × fl_I × fl_L :=
    ((0 : Int32), s, l)

def p_X3_pickerTold_92 (fu : Nat) (t : Nat) (s : fl_I) (l : fl_L) : Prop :=
    True

set_option maxRecDepth 100000 in
set_option maxHeartbeats 1000000 in
theorem lp_X3_pickerTold_92 {G : ab_G} {fu : Nat} {d : Nat} {D : fl_D} {t : Nat} (htt : isT t) : ∀ (s : fl_I) (l : fl_L), p_X3_pickerTold_92 fu  t s l → ab_C G (d + 3) 0 0 M_X3_pickerTold 92 [none, none, none, none] [] (hp D s l) (rt (some (.int (f_X3_pickerTold_92 fu  t s l).1)) (hp D (f_X3_pickerTold_92 fu  t s l).2.1 (f_X3_pickerTold_92 fu  t s l).2.2)) := by
  intro  s l hk
  generalize he : f_X3_pickerTold_92 fu  t s l = res
  unfold f_X3_pickerTold_92 at he
  unfold p_X3_pickerTold_92 at hk
  refine r_iconst_ (a := 0) rfl (by decide) ?_
  refine r_iret rfl rfl rfl ?_
  first | with_reducible exact fin_i he | exact fin_i he

def f_X3_pickerTold_112 (fu : Nat) (t : Nat) (s : fl_I) (l : fl_L) : Int32 × fl_I × fl_L :=
    ((1 : Int32), s, l)

def p_X3_pickerTold_112 (fu : Nat) (t : Nat) (s : fl_I) (l : fl_L) : Prop :=
    True

set_option maxRecDepth 100000 in
set_option maxHeartbeats 1000000 in
theorem lp_X3_pickerTold_112 {G : ab_G} {fu : Nat} {d : Nat} {D : fl_D} {t : Nat} (htt : isT t) : ∀ (s : fl_I) (l : fl_L), p_X3_pickerTold_112 fu  t s l → ab_C G (d + 3) 0 0 M_X3_pickerTold 112 [none, none, none, none] [] (hp D s l) (rt (some (.int (f_X3_pickerTold_112 fu  t s l).1)) (hp D (f_X3_pickerTold_112 fu  t s l).2.1 (f_X3_pickerTold_112 fu  t s l).2.2)) := by
  intro  s l hk
  generalize he : f_X3_pickerTold_112 fu  t s l = res
  unfold f_X3_pickerTold_112 at he
  unfold p_X3_pickerTold_112 at hk
  refine r_iconst_ (a := 1) rfl (by decide) ?_
  refine r_iret rfl rfl rfl ?_
  first | with_reducible exact fin_i he | exact fin_i he

def f_X3_pickerTold_89 (fu : Nat) (x2 : Int32) (x3 : Int32) (y0 : Int32) (t : Nat) (s : fl_I) (l : fl_L) : Int32 × fl_I × fl_L :=
    if (y0 = 0) then f_X3_pickerTold_92 fu  t s l else f_X3_pickerTold_112 fu  t (f_X5_addPicker fu (l 3 7) (((10 : Int32) * x3) + x2) (s 3 6) t s l).1 (f_X5_addPicker fu (l 3 7) (((10 : Int32) * x3) + x2) (s 3 6) t s l).2

def p_X3_pickerTold_89 (fu : Nat) (x2 : Int32) (x3 : Int32) (y0 : Int32) (t : Nat) (s : fl_I) (l : fl_L) : Prop :=
    (((y0 = 0) → p_X3_pickerTold_92 fu  t s l) ∧ (¬ (y0 = 0) → (p_X5_addPicker fu (l 3 7) (((10 : Int32) * x3) + x2) (s 3 6) t s l) ∧ p_X3_pickerTold_112 fu  t (f_X5_addPicker fu (l 3 7) (((10 : Int32) * x3) + x2) (s 3 6) t s l).1 (f_X5_addPicker fu (l 3 7) (((10 : Int32) * x3) + x2) (s 3 6) t s l).2))

set_option maxRecDepth 100000 in
set_option maxHeartbeats 1000000 in
theorem lp_X3_pickerTold_89 {G : ab_G} {fu : Nat} {d : Nat} {D : fl_D} {t : Nat} (htt : isT t) : ∀ (x2 : Int32) (x3 : Int32) (y0 : Int32) (s : fl_I) (l : fl_L), p_X3_pickerTold_89 fu x2 x3 y0 t s l → ab_C G (d + 3) 0 0 M_X3_pickerTold 89 [some (.ref 3), some (.ref t), some (.int x2), some (.int x3)] [.int y0] (hp D s l) (rt (some (.int (f_X3_pickerTold_89 fu x2 x3 y0 t s l).1)) (hp D (f_X3_pickerTold_89 fu x2 x3 y0 t s l).2.1 (f_X3_pickerTold_89 fu x2 x3 y0 t s l).2.2)) := by
  intro x2 x3 y0 s l hk
  generalize he : f_X3_pickerTold_89 fu x2 x3 y0 t s l = res
  unfold f_X3_pickerTold_89 at he
  unfold p_X3_pickerTold_89 at hk
  refine r_if_ne rfl (fun c_89 => ?_) (fun c_89 => ?_)
  · rw [if_neg c_89] at he
    replace hk := hk.2 c_89
    refine r_aload_n rfl rfl ?_
    refine r_aload_n rfl rfl ?_
    refine q_getfield rfl (cc_3 _) rfl ?_
    refine r_bipush_ (a := 10) rfl (by decide) ?_
    refine r_iload_n rfl rfl ?_
    refine r_imul rfl ?_
    refine r_iload_n rfl rfl ?_
    refine r_iadd rfl ?_
    refine r_aload_n rfl rfl ?_
    refine q_getfield rfl (cc_3 _) rfl ?_
    obtain ⟨hb6, hk⟩ := hk
    refine q_callV0 [_, _, _] _ rfl kY_X5_addPicker kT_X5_addPicker rfl rfl (Nat.le_of_ble_eq_true rfl) (Nat.le_of_ble_eq_true rfl) (cT_0 htt) (s_X5_addPicker htt hb6) (fun r h q => ?_)
    obtain ⟨rfl, rfl⟩ := q
    simp only [Option.toList, List.cons_append, List.nil_append]
    subst he
    exact r_weak (L1 := [none, none, none, none]) trivial (lp_X3_pickerTold_112 htt _ _ hk)
  · rw [if_pos c_89] at he
    replace hk := hk.1 c_89
    subst he
    exact r_weak (L1 := [none, none, none, none]) trivial (lp_X3_pickerTold_92 htt _ _ hk)

def f_X3_pickerTold_80 (fu : Nat) (x2 : Int32) (x3 : Int32) (y0 : Int32) (t : Nat) (s : fl_I) (l : fl_L) : Int32 × fl_I × fl_L :=
    if (y0 = 0) then f_X3_pickerTold_92 fu  t s l else f_X3_pickerTold_89 fu x2 x3 (f_X3_take fu (59 : Int32) s l).1 t (f_X3_take fu (59 : Int32) s l).2.1 (f_X3_take fu (59 : Int32) s l).2.2

def p_X3_pickerTold_80 (fu : Nat) (x2 : Int32) (x3 : Int32) (y0 : Int32) (t : Nat) (s : fl_I) (l : fl_L) : Prop :=
    (((y0 = 0) → p_X3_pickerTold_92 fu  t s l) ∧ (¬ (y0 = 0) → (p_X3_take fu (59 : Int32) s l) ∧ p_X3_pickerTold_89 fu x2 x3 (f_X3_take fu (59 : Int32) s l).1 t (f_X3_take fu (59 : Int32) s l).2.1 (f_X3_take fu (59 : Int32) s l).2.2))

set_option maxRecDepth 100000 in
set_option maxHeartbeats 1000000 in
theorem lp_X3_pickerTold_80 {G : ab_G} {fu : Nat} {d : Nat} {D : fl_D} {t : Nat} (htt : isT t) : ∀ (x2 : Int32) (x3 : Int32) (y0 : Int32) (s : fl_I) (l : fl_L), p_X3_pickerTold_80 fu x2 x3 y0 t s l → ab_C G (d + 3) 0 0 M_X3_pickerTold 80 [some (.ref 3), some (.ref t), some (.int x2), some (.int x3)] [.int y0] (hp D s l) (rt (some (.int (f_X3_pickerTold_80 fu x2 x3 y0 t s l).1)) (hp D (f_X3_pickerTold_80 fu x2 x3 y0 t s l).2.1 (f_X3_pickerTold_80 fu x2 x3 y0 t s l).2.2)) := by
  intro x2 x3 y0 s l hk
  generalize he : f_X3_pickerTold_80 fu x2 x3 y0 t s l = res
  unfold f_X3_pickerTold_80 at he
  unfold p_X3_pickerTold_80 at hk
  refine r_if_eq rfl (fun c_80 => ?_) (fun c_80 => ?_)
  · rw [if_pos c_80] at he
    replace hk := hk.1 c_80
    subst he
    exact r_weak (L1 := [none, none, none, none]) trivial (lp_X3_pickerTold_92 htt _ _ hk)
  · rw [if_neg c_80] at he
    replace hk := hk.2 c_80
    refine r_aload_n rfl rfl ?_
    refine r_bipush_ (a := 59) rfl (by decide) ?_
    obtain ⟨hb5, hk⟩ := hk
    refine q_callV0 [_] _ rfl kY_X3_take kT_X3_take rfl rfl (Nat.le_of_ble_eq_true rfl) (Nat.le_of_ble_eq_true rfl) (cc_3 _) (s_X3_take hb5) (fun r h q => ?_)
    obtain ⟨rfl, rfl⟩ := q
    simp only [Option.toList, List.cons_append, List.nil_append]
    subst he
    exact r_weak (L1 := [some (.ref 3), some (.ref t), some (.int x2), some (.int x3)]) ⟨rfl, rfl, rfl, rfl, trivial⟩ (lp_X3_pickerTold_89 htt _ _ _ _ _ hk)

def f_X3_pickerTold_63 (fu : Nat) (x2 : Int32) (y0 : Int32) (t : Nat) (s : fl_I) (l : fl_L) : Int32 × fl_I × fl_L :=
    if (y0 = 0) then ((0 : Int32), s, l) else f_X3_pickerTold_80 fu x2 (s 3 6) (f_X3_takeInt fu (1 : Int32) (32 : Int32) s l).1 t (f_X3_takeInt fu (1 : Int32) (32 : Int32) s l).2.1 (f_X3_takeInt fu (1 : Int32) (32 : Int32) s l).2.2

def p_X3_pickerTold_63 (fu : Nat) (x2 : Int32) (y0 : Int32) (t : Nat) (s : fl_I) (l : fl_L) : Prop :=
    (((y0 = 0) → True) ∧ (¬ (y0 = 0) → (p_X3_takeInt fu (1 : Int32) (32 : Int32) s l) ∧ p_X3_pickerTold_80 fu x2 (s 3 6) (f_X3_takeInt fu (1 : Int32) (32 : Int32) s l).1 t (f_X3_takeInt fu (1 : Int32) (32 : Int32) s l).2.1 (f_X3_takeInt fu (1 : Int32) (32 : Int32) s l).2.2))

set_option maxRecDepth 100000 in
set_option maxHeartbeats 1000000 in
theorem lp_X3_pickerTold_63 {G : ab_G} {fu : Nat} {d : Nat} {D : fl_D} {t : Nat} (htt : isT t) : ∀ (x2 : Int32) (y0 : Int32) (s : fl_I) (l : fl_L), p_X3_pickerTold_63 fu x2 y0 t s l → ab_C G (d + 3) 0 0 M_X3_pickerTold 63 [some (.ref 3), some (.ref t), some (.int x2), none] [.int y0] (hp D s l) (rt (some (.int (f_X3_pickerTold_63 fu x2 y0 t s l).1)) (hp D (f_X3_pickerTold_63 fu x2 y0 t s l).2.1 (f_X3_pickerTold_63 fu x2 y0 t s l).2.2)) := by
  intro x2 y0 s l hk
  generalize he : f_X3_pickerTold_63 fu x2 y0 t s l = res
  unfold f_X3_pickerTold_63 at he
  unfold p_X3_pickerTold_63 at hk
  refine r_if_ne rfl (fun c_63 => ?_) (fun c_63 => ?_)
  · rw [if_neg c_63] at he
    replace hk := hk.2 c_63
    refine r_aload_n rfl rfl ?_
    refine q_getfield rfl (cc_3 _) rfl ?_
    refine r_istore_n rfl (Nat.le_of_ble_eq_true rfl) rfl ?_
    refine r_aload_n rfl rfl ?_
    refine r_iconst_ (a := 1) rfl (by decide) ?_
    refine r_bipush_ (a := 32) rfl (by decide) ?_
    obtain ⟨hb4, hk⟩ := hk
    refine q_callV0 [_, _] _ rfl kY_X3_takeInt kT_X3_takeInt rfl rfl (Nat.le_of_ble_eq_true rfl) (Nat.le_of_ble_eq_true rfl) (cc_3 _) (s_X3_takeInt hb4) (fun r h q => ?_)
    obtain ⟨rfl, rfl⟩ := q
    simp only [Option.toList, List.cons_append, List.nil_append]
    subst he
    exact r_weak (L1 := [some (.ref 3), some (.ref t), some (.int x2), some (.int (s 3 6))]) ⟨rfl, rfl, rfl, rfl, trivial⟩ (lp_X3_pickerTold_80 htt _ _ _ _ _ hk)
  · rw [if_pos c_63] at he
    replace hk := hk.1 c_63
    refine r_iconst_ (a := 0) rfl (by decide) ?_
    refine r_iret rfl rfl rfl ?_
    first | with_reducible exact fin_i he | exact fin_i he

def f_X3_pickerTold_46 (fu : Nat) (y0 : Int32) (t : Nat) (s : fl_I) (l : fl_L) : Int32 × fl_I × fl_L :=
    if (y0 = 0) then f_X3_pickerTold_49 fu  t s l else f_X3_pickerTold_63 fu (s 3 6) (f_X3_takeInt fu (0 : Int32) (7 : Int32) s l).1 t (f_X3_takeInt fu (0 : Int32) (7 : Int32) s l).2.1 (f_X3_takeInt fu (0 : Int32) (7 : Int32) s l).2.2

def p_X3_pickerTold_46 (fu : Nat) (y0 : Int32) (t : Nat) (s : fl_I) (l : fl_L) : Prop :=
    (((y0 = 0) → p_X3_pickerTold_49 fu  t s l) ∧ (¬ (y0 = 0) → (p_X3_takeInt fu (0 : Int32) (7 : Int32) s l) ∧ p_X3_pickerTold_63 fu (s 3 6) (f_X3_takeInt fu (0 : Int32) (7 : Int32) s l).1 t (f_X3_takeInt fu (0 : Int32) (7 : Int32) s l).2.1 (f_X3_takeInt fu (0 : Int32) (7 : Int32) s l).2.2))

set_option maxRecDepth 100000 in
set_option maxHeartbeats 1000000 in
theorem lp_X3_pickerTold_46 {G : ab_G} {fu : Nat} {d : Nat} {D : fl_D} {t : Nat} (htt : isT t) : ∀ (y0 : Int32) (s : fl_I) (l : fl_L), p_X3_pickerTold_46 fu y0 t s l → ab_C G (d + 3) 0 0 M_X3_pickerTold 46 [some (.ref 3), some (.ref t), none, none] [.int y0] (hp D s l) (rt (some (.int (f_X3_pickerTold_46 fu y0 t s l).1)) (hp D (f_X3_pickerTold_46 fu y0 t s l).2.1 (f_X3_pickerTold_46 fu y0 t s l).2.2)) := by
  intro y0 s l hk
  generalize he : f_X3_pickerTold_46 fu y0 t s l = res
  unfold f_X3_pickerTold_46 at he
  unfold p_X3_pickerTold_46 at hk
  refine r_if_ne rfl (fun c_46 => ?_) (fun c_46 => ?_)
  · rw [if_neg c_46] at he
    replace hk := hk.2 c_46
    refine r_aload_n rfl rfl ?_
    refine q_getfield rfl (cc_3 _) rfl ?_
    refine r_istore_n rfl (Nat.le_of_ble_eq_true rfl) rfl ?_
    refine r_aload_n rfl rfl ?_
    refine r_iconst_ (a := 0) rfl (by decide) ?_
    refine r_bipush_ (a := 7) rfl (by decide) ?_
    obtain ⟨hb3, hk⟩ := hk
    refine q_callV0 [_, _] _ rfl kY_X3_takeInt kT_X3_takeInt rfl rfl (Nat.le_of_ble_eq_true rfl) (Nat.le_of_ble_eq_true rfl) (cc_3 _) (s_X3_takeInt hb3) (fun r h q => ?_)
    obtain ⟨rfl, rfl⟩ := q
    simp only [Option.toList, List.cons_append, List.nil_append]
    subst he
    exact r_weak (L1 := [some (.ref 3), some (.ref t), some (.int (s 3 6)), none]) ⟨rfl, rfl, rfl, trivial⟩ (lp_X3_pickerTold_63 htt _ _ _ _ hk)
  · rw [if_pos c_46] at he
    replace hk := hk.1 c_46
    subst he
    exact r_weak (L1 := [none, none, none, none]) trivial (lp_X3_pickerTold_49 htt _ _ hk)

def f_X3_pickerTold_36 (fu : Nat) (y0 : Int32) (t : Nat) (s : fl_I) (l : fl_L) : Int32 × fl_I × fl_L :=
    if (y0 = 0) then f_X3_pickerTold_49 fu  t s l else f_X3_pickerTold_46 fu (f_X3_takeInt fu (0 : Int32) (9 : Int32) s l).1 t (f_X3_takeInt fu (0 : Int32) (9 : Int32) s l).2.1 (f_X3_takeInt fu (0 : Int32) (9 : Int32) s l).2.2

def p_X3_pickerTold_36 (fu : Nat) (y0 : Int32) (t : Nat) (s : fl_I) (l : fl_L) : Prop :=
    (((y0 = 0) → p_X3_pickerTold_49 fu  t s l) ∧ (¬ (y0 = 0) → (p_X3_takeInt fu (0 : Int32) (9 : Int32) s l) ∧ p_X3_pickerTold_46 fu (f_X3_takeInt fu (0 : Int32) (9 : Int32) s l).1 t (f_X3_takeInt fu (0 : Int32) (9 : Int32) s l).2.1 (f_X3_takeInt fu (0 : Int32) (9 : Int32) s l).2.2))

set_option maxRecDepth 100000 in
set_option maxHeartbeats 1000000 in
theorem lp_X3_pickerTold_36 {G : ab_G} {fu : Nat} {d : Nat} {D : fl_D} {t : Nat} (htt : isT t) : ∀ (y0 : Int32) (s : fl_I) (l : fl_L), p_X3_pickerTold_36 fu y0 t s l → ab_C G (d + 3) 0 0 M_X3_pickerTold 36 [some (.ref 3), some (.ref t), none, none] [.int y0] (hp D s l) (rt (some (.int (f_X3_pickerTold_36 fu y0 t s l).1)) (hp D (f_X3_pickerTold_36 fu y0 t s l).2.1 (f_X3_pickerTold_36 fu y0 t s l).2.2)) := by
  intro y0 s l hk
  generalize he : f_X3_pickerTold_36 fu y0 t s l = res
  unfold f_X3_pickerTold_36 at he
  unfold p_X3_pickerTold_36 at hk
  refine r_if_eq rfl (fun c_36 => ?_) (fun c_36 => ?_)
  · rw [if_pos c_36] at he
    replace hk := hk.1 c_36
    subst he
    exact r_weak (L1 := [none, none, none, none]) trivial (lp_X3_pickerTold_49 htt _ _ hk)
  · rw [if_neg c_36] at he
    replace hk := hk.2 c_36
    refine r_aload_n rfl rfl ?_
    refine r_iconst_ (a := 0) rfl (by decide) ?_
    refine r_bipush_ (a := 9) rfl (by decide) ?_
    obtain ⟨hb2, hk⟩ := hk
    refine q_callV0 [_, _] _ rfl kY_X3_takeInt kT_X3_takeInt rfl rfl (Nat.le_of_ble_eq_true rfl) (Nat.le_of_ble_eq_true rfl) (cc_3 _) (s_X3_takeInt hb2) (fun r h q => ?_)
    obtain ⟨rfl, rfl⟩ := q
    simp only [Option.toList, List.cons_append, List.nil_append]
    subst he
    exact r_weak (L1 := [some (.ref 3), some (.ref t), none, none]) ⟨rfl, rfl, trivial⟩ (lp_X3_pickerTold_46 htt _ _ _ hk)

def f_X3_pickerTold_21 (fu : Nat) (y0 : Int32) (t : Nat) (s : fl_I) (l : fl_L) : Int32 × fl_I × fl_L :=
    if (y0 = 0) then f_X3_pickerTold_49 fu  t s l else f_X3_pickerTold_36 fu (f_X3_takeName fu (s t 2) (t + 3) 4 s l).1 t (f_X3_takeName fu (s t 2) (t + 3) 4 s l).2.1 (f_X3_takeName fu (s t 2) (t + 3) 4 s l).2.2

def p_X3_pickerTold_21 (fu : Nat) (y0 : Int32) (t : Nat) (s : fl_I) (l : fl_L) : Prop :=
    (((y0 = 0) → p_X3_pickerTold_49 fu  t s l) ∧ (¬ (y0 = 0) → (p_X3_takeName fu (s t 2) (t + 3) 4 s l) ∧ p_X3_pickerTold_36 fu (f_X3_takeName fu (s t 2) (t + 3) 4 s l).1 t (f_X3_takeName fu (s t 2) (t + 3) 4 s l).2.1 (f_X3_takeName fu (s t 2) (t + 3) 4 s l).2.2))

set_option maxRecDepth 100000 in
set_option maxHeartbeats 1000000 in
theorem lp_X3_pickerTold_21 {G : ab_G} {fu : Nat} {d : Nat} {D : fl_D} {t : Nat} (htt : isT t) : ∀ (y0 : Int32) (s : fl_I) (l : fl_L), p_X3_pickerTold_21 fu y0 t s l → ab_C G (d + 3) 0 0 M_X3_pickerTold 21 [some (.ref 3), some (.ref t), none, none] [.int y0] (hp D s l) (rt (some (.int (f_X3_pickerTold_21 fu y0 t s l).1)) (hp D (f_X3_pickerTold_21 fu y0 t s l).2.1 (f_X3_pickerTold_21 fu y0 t s l).2.2)) := by
  intro y0 s l hk
  generalize he : f_X3_pickerTold_21 fu y0 t s l = res
  unfold f_X3_pickerTold_21 at he
  unfold p_X3_pickerTold_21 at hk
  refine r_if_eq rfl (fun c_21 => ?_) (fun c_21 => ?_)
  · rw [if_pos c_21] at he
    replace hk := hk.1 c_21
    subst he
    exact r_weak (L1 := [none, none, none, none]) trivial (lp_X3_pickerTold_49 htt _ _ hk)
  · rw [if_neg c_21] at he
    replace hk := hk.2 c_21
    refine r_aload_n rfl rfl ?_
    refine r_aload_n rfl rfl ?_
    refine q_getfield rfl (cT_0 htt) rfl ?_
    refine r_aload_n rfl rfl ?_
    refine q_getfield rfl (cT_0 htt) rfl ?_
    obtain ⟨hb1, hk⟩ := hk
    refine q_callV0 [_, _] _ rfl kY_X3_takeName kT_X3_takeName rfl rfl (Nat.le_of_ble_eq_true rfl) (Nat.le_of_ble_eq_true rfl) (cc_3 _) (s_X3_takeName (cT_3 htt) hb1) (fun r h q => ?_)
    obtain ⟨rfl, rfl⟩ := q
    simp only [Option.toList, List.cons_append, List.nil_append]
    subst he
    exact r_weak (L1 := [some (.ref 3), some (.ref t), none, none]) ⟨rfl, rfl, trivial⟩ (lp_X3_pickerTold_36 htt _ _ _ hk)

def f_X3_pickerTold_13 (fu : Nat) (y0 : Int32) (t : Nat) (s : fl_I) (l : fl_L) : Int32 × fl_I × fl_L :=
    (y0, s, l)

def p_X3_pickerTold_13 (fu : Nat) (y0 : Int32) (t : Nat) (s : fl_I) (l : fl_L) : Prop :=
    (y0 = 0 ∨ y0 = 1) ∧ True

set_option maxRecDepth 100000 in
set_option maxHeartbeats 1000000 in
theorem lp_X3_pickerTold_13 {G : ab_G} {fu : Nat} {d : Nat} {D : fl_D} {t : Nat} (htt : isT t) : ∀ (y0 : Int32) (s : fl_I) (l : fl_L), p_X3_pickerTold_13 fu y0 t s l → ab_C G (d + 3) 0 0 M_X3_pickerTold 13 [none, none, none, none] [.int y0] (hp D s l) (rt (some (.int (f_X3_pickerTold_13 fu y0 t s l).1)) (hp D (f_X3_pickerTold_13 fu y0 t s l).2.1 (f_X3_pickerTold_13 fu y0 t s l).2.2)) := by
  intro y0 s l hk
  generalize he : f_X3_pickerTold_13 fu y0 t s l = res
  unfold f_X3_pickerTold_13 at he
  unfold p_X3_pickerTold_13 at hk
  obtain ⟨hb8, hk⟩ := hk
  refine r_iret rfl rfl (nar_b hb8) ?_
  first | with_reducible exact fin_i he | exact fin_i he

def f_X3_pickerTold (fu : Nat) (t : Nat) (s : fl_I) (l : fl_L) : Int32 × fl_I × fl_L :=
  if ((s t 2) < (4 : Int32)) then f_X3_pickerTold_21 fu (f_X3_take fu (258 : Int32) s l).1 t (f_X3_take fu (258 : Int32) s l).2.1 (f_X3_take fu (258 : Int32) s l).2.2 else f_X3_pickerTold_13 fu (f_X3_stop fu (2 : Int32) s l).1 t (f_X3_stop fu (2 : Int32) s l).2.1 (f_X3_stop fu (2 : Int32) s l).2.2

def p_X3_pickerTold (fu : Nat) (t : Nat) (s : fl_I) (l : fl_L) : Prop :=
  ((((s t 2) < (4 : Int32)) → (p_X3_take fu (258 : Int32) s l) ∧ p_X3_pickerTold_21 fu (f_X3_take fu (258 : Int32) s l).1 t (f_X3_take fu (258 : Int32) s l).2.1 (f_X3_take fu (258 : Int32) s l).2.2) ∧ (¬ ((s t 2) < (4 : Int32)) → (p_X3_stop fu (2 : Int32) s l) ∧ p_X3_pickerTold_13 fu (f_X3_stop fu (2 : Int32) s l).1 t (f_X3_stop fu (2 : Int32) s l).2.1 (f_X3_stop fu (2 : Int32) s l).2.2))

set_option maxRecDepth 100000 in
set_option maxHeartbeats 1000000 in
theorem s_X3_pickerTold {G : ab_G} {fu : Nat} {d : Nat} {D : fl_D} {s : fl_I} {l : fl_L} {t : Nat} (htt : isT t)  (hk : p_X3_pickerTold fu t s l) : ab_C G (d + 3) 0 0 M_X3_pickerTold 0 (ab_ent [.ref 3, .ref t]) [] (hp D s l) (rt (some (.int (f_X3_pickerTold fu t s l).1)) (hp D (f_X3_pickerTold fu t s l).2.1 (f_X3_pickerTold fu t s l).2.2)) := by
  generalize he : (f_X3_pickerTold fu t s l) = res
  unfold f_X3_pickerTold at he
  unfold p_X3_pickerTold at hk
  refine r_weak (L1 := [some (.ref 3), some (.ref t), none, none]) ⟨rfl, rfl, trivial⟩ ?_
  refine r_aload_n rfl rfl ?_
  refine q_getfield rfl (cT_0 htt) rfl ?_
  refine r_iconst_ (a := 4) rfl (by decide) ?_
  refine r_icmp_lt rfl (fun c_5 => ?_) (fun c_5 => ?_)
  · rw [if_pos c_5] at he
    replace hk := hk.1 c_5
    refine r_aload_n rfl rfl ?_
    refine r_sipush_ (a := 258) rfl (by decide) ?_
    obtain ⟨hb0, hk⟩ := hk
    refine q_callV0 [_] _ rfl kY_X3_take kT_X3_take rfl rfl (Nat.le_of_ble_eq_true rfl) (Nat.le_of_ble_eq_true rfl) (cc_3 _) (s_X3_take hb0) (fun r h q => ?_)
    obtain ⟨rfl, rfl⟩ := q
    simp only [Option.toList, List.cons_append, List.nil_append]
    subst he
    exact r_weak (L1 := [some (.ref 3), some (.ref t), none, none]) ⟨rfl, rfl, trivial⟩ (lp_X3_pickerTold_21 htt _ _ _ hk)
  · rw [if_neg c_5] at he
    replace hk := hk.2 c_5
    refine r_aload_n rfl rfl ?_
    refine r_iconst_ (a := 2) rfl (by decide) ?_
    obtain ⟨hb7, hk⟩ := hk
    refine q_callV0 [_] _ rfl kY_X3_stop kT_X3_stop rfl rfl (Nat.le_of_ble_eq_true rfl) (Nat.le_of_ble_eq_true rfl) (cc_3 _) (s_X3_stop hb7) (fun r h q => ?_)
    obtain ⟨rfl, rfl⟩ := q
    simp only [Option.toList, List.cons_append, List.nil_append]
    subst he
    exact r_weak (L1 := [none, none, none, none]) trivial (lp_X3_pickerTold_13 htt _ _ _ hk)

