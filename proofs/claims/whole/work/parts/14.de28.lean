def f_X12_tellOne_349 (fu : Nat) (s : fl_I) (l : fl_L) : fl_I × fl_L :=
    (s, l)

def p_X12_tellOne_349 (fu : Nat) (s : fl_I) (l : fl_L) : Prop :=
    True

set_option maxRecDepth 100000 in
set_option maxHeartbeats 1000000 in
theorem lp_X12_tellOne_349 {G : ab_G} {fu : Nat} {d : Nat} {D : fl_D} : ∀ (s : fl_I) (l : fl_L), p_X12_tellOne_349 fu  s l → ab_C G (d + 6) 0 0 M_X12_tellOne 349 [none, none] [] (hp D s l) (rt none (hp D (f_X12_tellOne_349 fu  s l).1 (f_X12_tellOne_349 fu  s l).2)) := by
  intro  s l hk
  generalize he : f_X12_tellOne_349 fu  s l = res
  unfold f_X12_tellOne_349 at he
  unfold p_X12_tellOne_349 at hk
  refine r_ret rfl rfl ?_
  first | with_reducible exact fin_v he | exact fin_v he

def f_X12_tellOne_85 (fu : Nat) (s : fl_I) (l : fl_L) : fl_I × fl_L :=
    f_X12_tellOne_349 fu  s l

def p_X12_tellOne_85 (fu : Nat) (s : fl_I) (l : fl_L) : Prop :=
    p_X12_tellOne_349 fu  s l

set_option maxRecDepth 100000 in
set_option maxHeartbeats 1000000 in
theorem lp_X12_tellOne_85 {G : ab_G} {fu : Nat} {d : Nat} {D : fl_D} : ∀ (s : fl_I) (l : fl_L), p_X12_tellOne_85 fu  s l → ab_C G (d + 6) 0 0 M_X12_tellOne 85 [none, none] [] (hp D s l) (rt none (hp D (f_X12_tellOne_85 fu  s l).1 (f_X12_tellOne_85 fu  s l).2)) := by
  intro  s l hk
  generalize he : f_X12_tellOne_85 fu  s l = res
  unfold f_X12_tellOne_85 at he
  unfold p_X12_tellOne_85 at hk
  refine r_goto rfl ?_
  subst he
  exact r_weak (L1 := [none, none]) trivial (lp_X12_tellOne_349 _ _ hk)

def f_X12_tellOne_74 (fu : Nat) (s : fl_I) (l : fl_L) : fl_I × fl_L :=
    if ((s 60 13) = 0) then f_X12_tellOne_85 fu  (f_X12_tellLetter fu s l).1 (f_X12_tellLetter fu s l).2 else f_X12_tellOne_349 fu  s l

def p_X12_tellOne_74 (fu : Nat) (s : fl_I) (l : fl_L) : Prop :=
    ((((s 60 13) = 0) → (p_X12_tellLetter fu s l) ∧ p_X12_tellOne_85 fu  (f_X12_tellLetter fu s l).1 (f_X12_tellLetter fu s l).2) ∧ (¬ ((s 60 13) = 0) → p_X12_tellOne_349 fu  s l))

set_option maxRecDepth 100000 in
set_option maxHeartbeats 1000000 in
theorem lp_X12_tellOne_74 {G : ab_G} {fu : Nat} {d : Nat} {D : fl_D} : ∀ (s : fl_I) (l : fl_L), p_X12_tellOne_74 fu  s l → ab_C G (d + 6) 0 0 M_X12_tellOne 74 [some (.ref 60), none] [] (hp D s l) (rt none (hp D (f_X12_tellOne_74 fu  s l).1 (f_X12_tellOne_74 fu  s l).2)) := by
  intro  s l hk
  generalize he : f_X12_tellOne_74 fu  s l = res
  unfold f_X12_tellOne_74 at he
  unfold p_X12_tellOne_74 at hk
  refine r_aload_n rfl rfl ?_
  refine q_getfield rfl (cc_60 _) rfl ?_
  refine r_if_ne rfl (fun c_78 => ?_) (fun c_78 => ?_)
  · rw [if_neg c_78] at he
    replace hk := hk.2 c_78
    subst he
    exact r_weak (L1 := [none, none]) trivial (lp_X12_tellOne_349 _ _ hk)
  · rw [if_pos c_78] at he
    replace hk := hk.1 c_78
    refine r_aload_n rfl rfl ?_
    obtain ⟨hb3, hk⟩ := hk
    refine q_callV0 [] _ rfl kY_X12_tellLetter kT_X12_tellLetter rfl rfl (Nat.le_of_ble_eq_true rfl) (Nat.le_of_ble_eq_true rfl) (cc_60 _) (s_X12_tellLetter hb3) (fun r h q => ?_)
    obtain ⟨rfl, rfl⟩ := q
    simp only [Option.toList, List.cons_append, List.nil_append]
    subst he
    exact r_weak (L1 := [none, none]) trivial (lp_X12_tellOne_85 _ _ hk)

def f_X12_tellOne_162 (fu : Nat) (s : fl_I) (l : fl_L) : fl_I × fl_L :=
    if ((s 60 13) = 0) then f_X12_tellOne_349 fu  (wi s 72 (s 60 19).toNatClampNeg ((s 72 (s 60 19).toNatClampNeg) + (1 : Int32))) l else f_X12_tellOne_349 fu  s l

def p_X12_tellOne_162 (fu : Nat) (s : fl_I) (l : fl_L) : Prop :=
    ((((s 60 13) = 0) → (vp_in (s 60 19) 2) ∧ (vp_in (s 60 19) 2) ∧ p_X12_tellOne_349 fu  (wi s 72 (s 60 19).toNatClampNeg ((s 72 (s 60 19).toNatClampNeg) + (1 : Int32))) l) ∧ (¬ ((s 60 13) = 0) → p_X12_tellOne_349 fu  s l))

set_option maxRecDepth 100000 in
set_option maxHeartbeats 1000000 in
theorem lp_X12_tellOne_162 {G : ab_G} {fu : Nat} {d : Nat} {D : fl_D} : ∀ (s : fl_I) (l : fl_L), p_X12_tellOne_162 fu  s l → ab_C G (d + 6) 0 0 M_X12_tellOne 162 [some (.ref 60), none] [] (hp D s l) (rt none (hp D (f_X12_tellOne_162 fu  s l).1 (f_X12_tellOne_162 fu  s l).2)) := by
  intro  s l hk
  generalize he : f_X12_tellOne_162 fu  s l = res
  unfold f_X12_tellOne_162 at he
  unfold p_X12_tellOne_162 at hk
  refine r_aload_n rfl rfl ?_
  refine q_getfield rfl (cc_60 _) rfl ?_
  refine r_if_ne rfl (fun c_166 => ?_) (fun c_166 => ?_)
  · rw [if_neg c_166] at he
    replace hk := hk.2 c_166
    subst he
    exact r_weak (L1 := [none, none]) trivial (lp_X12_tellOne_349 _ _ hk)
  · rw [if_pos c_166] at he
    replace hk := hk.1 c_166
    refine r_aload_n rfl rfl ?_
    refine q_getfield rfl (cc_60 _) rfl ?_
    refine r_aload_n rfl rfl ?_
    refine q_getfield rfl (cc_60 _) rfl ?_
    refine r_dup2 rfl rfl rfl ?_
    obtain ⟨hb11, hk⟩ := hk
    refine q_iald rfl (cc_72 _) hb11 ?_
    refine r_iconst_ (a := 1) rfl (by decide) ?_
    refine r_iadd rfl ?_
    obtain ⟨hb12, hk⟩ := hk
    refine w_iast rfl (cc_72 _) hb12 ?_
    refine r_goto rfl ?_
    subst he
    exact r_weak (L1 := [none, none]) trivial (lp_X12_tellOne_349 _ _ hk)

def f_X12_tellOne_156 (fu : Nat) (y1 : Int32) (y2 : Int64) (s : fl_I) (l : fl_L) : fl_I × fl_L :=
    f_X12_tellOne_162 fu  (f_X12_must fu (4 : Int32) s (wl l 73 y1.toNatClampNeg y2)).1 (f_X12_must fu (4 : Int32) s (wl l 73 y1.toNatClampNeg y2)).2

def p_X12_tellOne_156 (fu : Nat) (y1 : Int32) (y2 : Int64) (s : fl_I) (l : fl_L) : Prop :=
    (vp_in y1 16) ∧ (p_X12_must fu (4 : Int32) s (wl l 73 y1.toNatClampNeg y2)) ∧ p_X12_tellOne_162 fu  (f_X12_must fu (4 : Int32) s (wl l 73 y1.toNatClampNeg y2)).1 (f_X12_must fu (4 : Int32) s (wl l 73 y1.toNatClampNeg y2)).2

set_option maxRecDepth 100000 in
set_option maxHeartbeats 1000000 in
theorem lp_X12_tellOne_156 {G : ab_G} {fu : Nat} {d : Nat} {D : fl_D} : ∀ (y1 : Int32) (y2 : Int64) (s : fl_I) (l : fl_L), p_X12_tellOne_156 fu y1 y2 s l → ab_C G (d + 6) 0 0 M_X12_tellOne 156 [some (.ref 60), none] [.long y2, .int y1, .ref 73] (hp D s l) (rt none (hp D (f_X12_tellOne_156 fu y1 y2 s l).1 (f_X12_tellOne_156 fu y1 y2 s l).2)) := by
  intro y1 y2 s l hk
  generalize he : f_X12_tellOne_156 fu y1 y2 s l = res
  unfold f_X12_tellOne_156 at he
  unfold p_X12_tellOne_156 at hk
  obtain ⟨hb9, hk⟩ := hk
  refine w_last rfl (cc_73 _) hb9 ?_
  refine r_aload_n rfl rfl ?_
  refine r_iconst_ (a := 4) rfl (by decide) ?_
  obtain ⟨hb10, hk⟩ := hk
  refine q_callV0 [_] _ rfl kY_X12_must kT_X12_must rfl rfl (Nat.le_of_ble_eq_true rfl) (Nat.le_of_ble_eq_true rfl) (cc_60 _) (s_X12_must hb10) (fun r h q => ?_)
  obtain ⟨rfl, rfl⟩ := q
  simp only [Option.toList, List.cons_append, List.nil_append]
  subst he
  exact r_weak (L1 := [some (.ref 60), none]) ⟨rfl, trivial⟩ (lp_X12_tellOne_162 _ _ hk)

def f_X12_tellOne_103 (fu : Nat) (s : fl_I) (l : fl_L) : fl_I × fl_L :=
    if ((s 60 13) ≤ 0) then f_X12_tellOne_156 fu (((8 : Int32) * (s 60 19)) + (s 72 (s 60 19).toNatClampNeg)) (f_X12_named fu ((8 : Int32) * (s 60 19)) (s 72 (s 60 19).toNatClampNeg) 73 16 s l).1 (f_X12_named fu ((8 : Int32) * (s 60 19)) (s 72 (s 60 19).toNatClampNeg) 73 16 s l).2.1 (f_X12_named fu ((8 : Int32) * (s 60 19)) (s 72 (s 60 19).toNatClampNeg) 73 16 s l).2.2 else (s, l)

def p_X12_tellOne_103 (fu : Nat) (s : fl_I) (l : fl_L) : Prop :=
    ((((s 60 13) ≤ 0) → (vp_in (s 60 19) 2) ∧ (vp_in (s 60 19) 2) ∧ (p_X12_named fu ((8 : Int32) * (s 60 19)) (s 72 (s 60 19).toNatClampNeg) 73 16 s l) ∧ p_X12_tellOne_156 fu (((8 : Int32) * (s 60 19)) + (s 72 (s 60 19).toNatClampNeg)) (f_X12_named fu ((8 : Int32) * (s 60 19)) (s 72 (s 60 19).toNatClampNeg) 73 16 s l).1 (f_X12_named fu ((8 : Int32) * (s 60 19)) (s 72 (s 60 19).toNatClampNeg) 73 16 s l).2.1 (f_X12_named fu ((8 : Int32) * (s 60 19)) (s 72 (s 60 19).toNatClampNeg) 73 16 s l).2.2) ∧ (¬ ((s 60 13) ≤ 0) → True))

set_option maxRecDepth 100000 in
set_option maxHeartbeats 1000000 in
theorem lp_X12_tellOne_103 {G : ab_G} {fu : Nat} {d : Nat} {D : fl_D} : ∀ (s : fl_I) (l : fl_L), p_X12_tellOne_103 fu  s l → ab_C G (d + 6) 0 0 M_X12_tellOne 103 [some (.ref 60), none] [] (hp D s l) (rt none (hp D (f_X12_tellOne_103 fu  s l).1 (f_X12_tellOne_103 fu  s l).2)) := by
  intro  s l hk
  generalize he : f_X12_tellOne_103 fu  s l = res
  unfold f_X12_tellOne_103 at he
  unfold p_X12_tellOne_103 at hk
  refine r_aload_n rfl rfl ?_
  refine q_getfield rfl (cc_60 _) rfl ?_
  refine r_if_le rfl (fun c_107 => ?_) (fun c_107 => ?_)
  · rw [if_pos c_107] at he
    replace hk := hk.1 c_107
    refine r_aload_n rfl rfl ?_
    refine q_getfield rfl (cc_60 _) rfl ?_
    refine r_bipush_ (a := 8) rfl (by decide) ?_
    refine r_aload_n rfl rfl ?_
    refine q_getfield rfl (cc_60 _) rfl ?_
    refine r_imul rfl ?_
    refine r_aload_n rfl rfl ?_
    refine q_getfield rfl (cc_60 _) rfl ?_
    refine r_aload_n rfl rfl ?_
    refine q_getfield rfl (cc_60 _) rfl ?_
    obtain ⟨hb6, hk⟩ := hk
    refine q_iald rfl (cc_72 _) hb6 ?_
    refine r_iadd rfl ?_
    refine r_aload_n rfl rfl ?_
    refine r_aload_n rfl rfl ?_
    refine q_getfield rfl (cc_60 _) rfl ?_
    refine r_bipush_ (a := 8) rfl (by decide) ?_
    refine r_aload_n rfl rfl ?_
    refine q_getfield rfl (cc_60 _) rfl ?_
    refine r_imul rfl ?_
    refine r_aload_n rfl rfl ?_
    refine q_getfield rfl (cc_60 _) rfl ?_
    refine r_aload_n rfl rfl ?_
    refine q_getfield rfl (cc_60 _) rfl ?_
    obtain ⟨hb7, hk⟩ := hk
    refine q_iald rfl (cc_72 _) hb7 ?_
    obtain ⟨hb8, hk⟩ := hk
    refine q_callV0 [_, _, _] _ rfl kY_X12_named kT_X12_named rfl rfl (Nat.le_of_ble_eq_true rfl) (Nat.le_of_ble_eq_true rfl) (cc_60 _) (s_X12_named (cc_73 _) hb8) (fun r h q => ?_)
    obtain ⟨rfl, rfl⟩ := q
    simp only [Option.toList, List.cons_append, List.nil_append]
    subst he
    exact r_weak (L1 := [some (.ref 60), none]) ⟨rfl, trivial⟩ (lp_X12_tellOne_156 _ _ _ _ hk)
  · rw [if_neg c_107] at he
    replace hk := hk.2 c_107
    refine r_ret rfl rfl ?_
    first | with_reducible exact fin_v he | exact fin_v he

def f_X12_tellOne_210 (fu : Nat) (s : fl_I) (l : fl_L) : fl_I × fl_L :=
    f_X12_tellOne_349 fu  s l

def p_X12_tellOne_210 (fu : Nat) (s : fl_I) (l : fl_L) : Prop :=
    p_X12_tellOne_349 fu  s l

set_option maxRecDepth 100000 in
set_option maxHeartbeats 1000000 in
theorem lp_X12_tellOne_210 {G : ab_G} {fu : Nat} {d : Nat} {D : fl_D} : ∀ (s : fl_I) (l : fl_L), p_X12_tellOne_210 fu  s l → ab_C G (d + 6) 0 0 M_X12_tellOne 210 [none, none] [] (hp D s l) (rt none (hp D (f_X12_tellOne_210 fu  s l).1 (f_X12_tellOne_210 fu  s l).2)) := by
  intro  s l hk
  generalize he : f_X12_tellOne_210 fu  s l = res
  unfold f_X12_tellOne_210 at he
  unfold p_X12_tellOne_210 at hk
  refine r_goto rfl ?_
  subst he
  exact r_weak (L1 := [none, none]) trivial (lp_X12_tellOne_349 _ _ hk)

def f_X12_tellOne_199 (fu : Nat) (s : fl_I) (l : fl_L) : fl_I × fl_L :=
    if ((s 60 13) = 0) then f_X12_tellOne_210 fu  (f_X12_tellPicker fu s l).1 (f_X12_tellPicker fu s l).2 else f_X12_tellOne_349 fu  s l

def p_X12_tellOne_199 (fu : Nat) (s : fl_I) (l : fl_L) : Prop :=
    ((((s 60 13) = 0) → (p_X12_tellPicker fu s l) ∧ p_X12_tellOne_210 fu  (f_X12_tellPicker fu s l).1 (f_X12_tellPicker fu s l).2) ∧ (¬ ((s 60 13) = 0) → p_X12_tellOne_349 fu  s l))

set_option maxRecDepth 100000 in
set_option maxHeartbeats 1000000 in
theorem lp_X12_tellOne_199 {G : ab_G} {fu : Nat} {d : Nat} {D : fl_D} : ∀ (s : fl_I) (l : fl_L), p_X12_tellOne_199 fu  s l → ab_C G (d + 6) 0 0 M_X12_tellOne 199 [some (.ref 60), none] [] (hp D s l) (rt none (hp D (f_X12_tellOne_199 fu  s l).1 (f_X12_tellOne_199 fu  s l).2)) := by
  intro  s l hk
  generalize he : f_X12_tellOne_199 fu  s l = res
  unfold f_X12_tellOne_199 at he
  unfold p_X12_tellOne_199 at hk
  refine r_aload_n rfl rfl ?_
  refine q_getfield rfl (cc_60 _) rfl ?_
  refine r_if_ne rfl (fun c_203 => ?_) (fun c_203 => ?_)
  · rw [if_neg c_203] at he
    replace hk := hk.2 c_203
    subst he
    exact r_weak (L1 := [none, none]) trivial (lp_X12_tellOne_349 _ _ hk)
  · rw [if_pos c_203] at he
    replace hk := hk.1 c_203
    refine r_aload_n rfl rfl ?_
    obtain ⟨hb15, hk⟩ := hk
    refine q_callV0 [] _ rfl kY_X12_tellPicker kT_X12_tellPicker rfl rfl (Nat.le_of_ble_eq_true rfl) (Nat.le_of_ble_eq_true rfl) (cc_60 _) (s_X12_tellPicker hb15) (fun r h q => ?_)
    obtain ⟨rfl, rfl⟩ := q
    simp only [Option.toList, List.cons_append, List.nil_append]
    subst he
    exact r_weak (L1 := [none, none]) trivial (lp_X12_tellOne_210 _ _ hk)

def f_X12_tellOne_344 (fu : Nat) (x1 : Int32) (s : fl_I) (l : fl_L) : fl_I × fl_L :=
    f_X12_tellOne_349 fu  (f_X12_tellLaw fu x1 s l).1 (f_X12_tellLaw fu x1 s l).2

def p_X12_tellOne_344 (fu : Nat) (x1 : Int32) (s : fl_I) (l : fl_L) : Prop :=
    (p_X12_tellLaw fu x1 s l) ∧ p_X12_tellOne_349 fu  (f_X12_tellLaw fu x1 s l).1 (f_X12_tellLaw fu x1 s l).2

set_option maxRecDepth 100000 in
set_option maxHeartbeats 1000000 in
theorem lp_X12_tellOne_344 {G : ab_G} {fu : Nat} {d : Nat} {D : fl_D} : ∀ (x1 : Int32) (s : fl_I) (l : fl_L), p_X12_tellOne_344 fu x1 s l → ab_C G (d + 6) 0 0 M_X12_tellOne 344 [some (.ref 60), some (.int x1)] [] (hp D s l) (rt none (hp D (f_X12_tellOne_344 fu x1 s l).1 (f_X12_tellOne_344 fu x1 s l).2)) := by
  intro x1 s l hk
  generalize he : f_X12_tellOne_344 fu x1 s l = res
  unfold f_X12_tellOne_344 at he
  unfold p_X12_tellOne_344 at hk
  refine r_aload_n rfl rfl ?_
  refine r_iload_n rfl rfl ?_
  obtain ⟨hb19, hk⟩ := hk
  refine q_callV0 [_] _ rfl kY_X12_tellLaw kT_X12_tellLaw rfl rfl (Nat.le_of_ble_eq_true rfl) (Nat.le_of_ble_eq_true rfl) (cc_60 _) (s_X12_tellLaw hb19) (fun r h q => ?_)
  obtain ⟨rfl, rfl⟩ := q
  simp only [Option.toList, List.cons_append, List.nil_append]
  subst he
  exact r_weak (L1 := [none, none]) trivial (lp_X12_tellOne_349 _ _ hk)

def f_X12_tellOne_332 (fu : Nat) (x1 : Int32) (s : fl_I) (l : fl_L) : fl_I × fl_L :=
    if ((s 60 13) ≤ 0) then f_X12_tellOne_344 fu x1 (f_X12_goesOn fu s l).1 (f_X12_goesOn fu s l).2 else (s, l)

def p_X12_tellOne_332 (fu : Nat) (x1 : Int32) (s : fl_I) (l : fl_L) : Prop :=
    ((((s 60 13) ≤ 0) → (p_X12_goesOn fu s l) ∧ p_X12_tellOne_344 fu x1 (f_X12_goesOn fu s l).1 (f_X12_goesOn fu s l).2) ∧ (¬ ((s 60 13) ≤ 0) → True))

set_option maxRecDepth 100000 in
set_option maxHeartbeats 1000000 in
theorem lp_X12_tellOne_332 {G : ab_G} {fu : Nat} {d : Nat} {D : fl_D} : ∀ (x1 : Int32) (s : fl_I) (l : fl_L), p_X12_tellOne_332 fu x1 s l → ab_C G (d + 6) 0 0 M_X12_tellOne 332 [some (.ref 60), some (.int x1)] [] (hp D s l) (rt none (hp D (f_X12_tellOne_332 fu x1 s l).1 (f_X12_tellOne_332 fu x1 s l).2)) := by
  intro x1 s l hk
  generalize he : f_X12_tellOne_332 fu x1 s l = res
  unfold f_X12_tellOne_332 at he
  unfold p_X12_tellOne_332 at hk
  refine r_aload_n rfl rfl ?_
  refine q_getfield rfl (cc_60 _) rfl ?_
  refine r_if_le rfl (fun c_336 => ?_) (fun c_336 => ?_)
  · rw [if_pos c_336] at he
    replace hk := hk.1 c_336
    refine r_aload_n rfl rfl ?_
    obtain ⟨hb18, hk⟩ := hk
    refine q_callV0 [] _ rfl kY_X12_goesOn kT_X12_goesOn rfl rfl (Nat.le_of_ble_eq_true rfl) (Nat.le_of_ble_eq_true rfl) (cc_60 _) (s_X12_goesOn hb18) (fun r h q => ?_)
    obtain ⟨rfl, rfl⟩ := q
    simp only [Option.toList, List.cons_append, List.nil_append]
    subst he
    exact r_weak (L1 := [some (.ref 60), some (.int x1)]) ⟨rfl, rfl, trivial⟩ (lp_X12_tellOne_344 _ _ _ hk)
  · rw [if_neg c_336] at he
    replace hk := hk.2 c_336
    refine r_ret rfl rfl ?_
    first | with_reducible exact fin_v he | exact fin_v he

def f_X12_tellOne_327 (fu : Nat) (x1 : Int32) (s : fl_I) (l : fl_L) : fl_I × fl_L :=
    f_X12_tellOne_332 fu x1 (f_X12_fail fu (1 : Int32) s l).1 (f_X12_fail fu (1 : Int32) s l).2

def p_X12_tellOne_327 (fu : Nat) (x1 : Int32) (s : fl_I) (l : fl_L) : Prop :=
    (p_X12_fail fu (1 : Int32) s l) ∧ p_X12_tellOne_332 fu x1 (f_X12_fail fu (1 : Int32) s l).1 (f_X12_fail fu (1 : Int32) s l).2

set_option maxRecDepth 100000 in
set_option maxHeartbeats 1000000 in
theorem lp_X12_tellOne_327 {G : ab_G} {fu : Nat} {d : Nat} {D : fl_D} : ∀ (x1 : Int32) (s : fl_I) (l : fl_L), p_X12_tellOne_327 fu x1 s l → ab_C G (d + 6) 0 0 M_X12_tellOne 327 [some (.ref 60), some (.int x1)] [] (hp D s l) (rt none (hp D (f_X12_tellOne_327 fu x1 s l).1 (f_X12_tellOne_327 fu x1 s l).2)) := by
  intro x1 s l hk
  generalize he : f_X12_tellOne_327 fu x1 s l = res
  unfold f_X12_tellOne_327 at he
  unfold p_X12_tellOne_327 at hk
  refine r_aload_n rfl rfl ?_
  refine r_iconst_ (a := 1) rfl (by decide) ?_
  obtain ⟨hb17, hk⟩ := hk
  refine q_callV0 [_] _ rfl kY_X12_fail kT_X12_fail rfl rfl (Nat.le_of_ble_eq_true rfl) (Nat.le_of_ble_eq_true rfl) (cc_60 _) (s_X12_fail hb17) (fun r h q => ?_)
  obtain ⟨rfl, rfl⟩ := q
  simp only [Option.toList, List.cons_append, List.nil_append]
  subst he
  exact r_weak (L1 := [some (.ref 60), some (.int x1)]) ⟨rfl, rfl, trivial⟩ (lp_X12_tellOne_332 _ _ _ hk)

def f_X12_tellOne_254 (fu : Nat) (s : fl_I) (l : fl_L) : fl_I × fl_L :=
    f_X12_tellOne_349 fu  s l

def p_X12_tellOne_254 (fu : Nat) (s : fl_I) (l : fl_L) : Prop :=
    p_X12_tellOne_349 fu  s l

set_option maxRecDepth 100000 in
set_option maxHeartbeats 1000000 in
theorem lp_X12_tellOne_254 {G : ab_G} {fu : Nat} {d : Nat} {D : fl_D} : ∀ (s : fl_I) (l : fl_L), p_X12_tellOne_254 fu  s l → ab_C G (d + 6) 0 0 M_X12_tellOne 254 [none, none] [] (hp D s l) (rt none (hp D (f_X12_tellOne_254 fu  s l).1 (f_X12_tellOne_254 fu  s l).2)) := by
  intro  s l hk
  generalize he : f_X12_tellOne_254 fu  s l = res
  unfold f_X12_tellOne_254 at he
  unfold p_X12_tellOne_254 at hk
  refine r_goto rfl ?_
  subst he
  exact r_weak (L1 := [none, none]) trivial (lp_X12_tellOne_349 _ _ hk)

def f_X12_tellOne_248 (fu : Nat) (y1 : Int32) (y2 : Int32) (s : fl_I) (l : fl_L) : fl_I × fl_L :=
    f_X12_tellOne_254 fu  (f_X12_must fu (4 : Int32) (wi s 79 y1.toNatClampNeg y2) l).1 (f_X12_must fu (4 : Int32) (wi s 79 y1.toNatClampNeg y2) l).2

def p_X12_tellOne_248 (fu : Nat) (y1 : Int32) (y2 : Int32) (s : fl_I) (l : fl_L) : Prop :=
    (vp_in y1 4) ∧ (p_X12_must fu (4 : Int32) (wi s 79 y1.toNatClampNeg y2) l) ∧ p_X12_tellOne_254 fu  (f_X12_must fu (4 : Int32) (wi s 79 y1.toNatClampNeg y2) l).1 (f_X12_must fu (4 : Int32) (wi s 79 y1.toNatClampNeg y2) l).2

set_option maxRecDepth 100000 in
set_option maxHeartbeats 1000000 in
theorem lp_X12_tellOne_248 {G : ab_G} {fu : Nat} {d : Nat} {D : fl_D} : ∀ (y1 : Int32) (y2 : Int32) (s : fl_I) (l : fl_L), p_X12_tellOne_248 fu y1 y2 s l → ab_C G (d + 6) 0 0 M_X12_tellOne 248 [some (.ref 60), none] [.int y2, .int y1, .ref 79] (hp D s l) (rt none (hp D (f_X12_tellOne_248 fu y1 y2 s l).1 (f_X12_tellOne_248 fu y1 y2 s l).2)) := by
  intro y1 y2 s l hk
  generalize he : f_X12_tellOne_248 fu y1 y2 s l = res
  unfold f_X12_tellOne_248 at he
  unfold p_X12_tellOne_248 at hk
  obtain ⟨hb29, hk⟩ := hk
  refine w_iast rfl (cc_79 _) hb29 ?_
  refine r_aload_n rfl rfl ?_
  refine r_iconst_ (a := 4) rfl (by decide) ?_
  obtain ⟨hb30, hk⟩ := hk
  refine q_callV0 [_] _ rfl kY_X12_must kT_X12_must rfl rfl (Nat.le_of_ble_eq_true rfl) (Nat.le_of_ble_eq_true rfl) (cc_60 _) (s_X12_must hb30) (fun r h q => ?_)
  obtain ⟨rfl, rfl⟩ := q
  simp only [Option.toList, List.cons_append, List.nil_append]
  subst he
  exact r_weak (L1 := [none, none]) trivial (lp_X12_tellOne_254 _ _ hk)

def f_X12_tellOne_231 (fu : Nat) (y1 : Int32) (y2 : Int32) (s : fl_I) (l : fl_L) : fl_I × fl_L :=
    f_X12_tellOne_248 fu (((2 : Int32) * ((wi s 79 y1.toNatClampNeg y2) 60 19)) + (1 : Int32)) (f_X12_toldStep fu (wi s 79 y1.toNatClampNeg y2) l).1 (f_X12_toldStep fu (wi s 79 y1.toNatClampNeg y2) l).2.1 (f_X12_toldStep fu (wi s 79 y1.toNatClampNeg y2) l).2.2

def p_X12_tellOne_231 (fu : Nat) (y1 : Int32) (y2 : Int32) (s : fl_I) (l : fl_L) : Prop :=
    (vp_in y1 4) ∧ (p_X12_toldStep fu (wi s 79 y1.toNatClampNeg y2) l) ∧ p_X12_tellOne_248 fu (((2 : Int32) * ((wi s 79 y1.toNatClampNeg y2) 60 19)) + (1 : Int32)) (f_X12_toldStep fu (wi s 79 y1.toNatClampNeg y2) l).1 (f_X12_toldStep fu (wi s 79 y1.toNatClampNeg y2) l).2.1 (f_X12_toldStep fu (wi s 79 y1.toNatClampNeg y2) l).2.2

set_option maxRecDepth 100000 in
set_option maxHeartbeats 1000000 in
theorem lp_X12_tellOne_231 {G : ab_G} {fu : Nat} {d : Nat} {D : fl_D} : ∀ (y1 : Int32) (y2 : Int32) (s : fl_I) (l : fl_L), p_X12_tellOne_231 fu y1 y2 s l → ab_C G (d + 6) 0 0 M_X12_tellOne 231 [some (.ref 60), none] [.int y2, .int y1, .ref 79] (hp D s l) (rt none (hp D (f_X12_tellOne_231 fu y1 y2 s l).1 (f_X12_tellOne_231 fu y1 y2 s l).2)) := by
  intro y1 y2 s l hk
  generalize he : f_X12_tellOne_231 fu y1 y2 s l = res
  unfold f_X12_tellOne_231 at he
  unfold p_X12_tellOne_231 at hk
  obtain ⟨hb27, hk⟩ := hk
  refine w_iast rfl (cc_79 _) hb27 ?_
  refine r_aload_n rfl rfl ?_
  refine q_getfield rfl (cc_60 _) rfl ?_
  refine r_iconst_ (a := 2) rfl (by decide) ?_
  refine r_aload_n rfl rfl ?_
  refine q_getfield rfl (cc_60 _) rfl ?_
  refine r_imul rfl ?_
  refine r_iconst_ (a := 1) rfl (by decide) ?_
  refine r_iadd rfl ?_
  refine r_aload_n rfl rfl ?_
  obtain ⟨hb28, hk⟩ := hk
  refine q_callV0 [] _ rfl kY_X12_toldStep kT_X12_toldStep rfl rfl (Nat.le_of_ble_eq_true rfl) (Nat.le_of_ble_eq_true rfl) (cc_60 _) (s_X12_toldStep hb28) (fun r h q => ?_)
  obtain ⟨rfl, rfl⟩ := q
  simp only [Option.toList, List.cons_append, List.nil_append]
  subst he
  exact r_weak (L1 := [some (.ref 60), none]) ⟨rfl, trivial⟩ (lp_X12_tellOne_248 _ _ _ _ hk)

def f_X12_tellOne_217 (fu : Nat) (s : fl_I) (l : fl_L) : fl_I × fl_L :=
    f_X12_tellOne_231 fu ((2 : Int32) * (s 60 19)) (f_X12_toldStep fu s l).1 (f_X12_toldStep fu s l).2.1 (f_X12_toldStep fu s l).2.2

def p_X12_tellOne_217 (fu : Nat) (s : fl_I) (l : fl_L) : Prop :=
    (p_X12_toldStep fu s l) ∧ p_X12_tellOne_231 fu ((2 : Int32) * (s 60 19)) (f_X12_toldStep fu s l).1 (f_X12_toldStep fu s l).2.1 (f_X12_toldStep fu s l).2.2

set_option maxRecDepth 100000 in
set_option maxHeartbeats 1000000 in
theorem lp_X12_tellOne_217 {G : ab_G} {fu : Nat} {d : Nat} {D : fl_D} : ∀ (s : fl_I) (l : fl_L), p_X12_tellOne_217 fu  s l → ab_C G (d + 6) 0 0 M_X12_tellOne 217 [some (.ref 60), none] [] (hp D s l) (rt none (hp D (f_X12_tellOne_217 fu  s l).1 (f_X12_tellOne_217 fu  s l).2)) := by
  intro  s l hk
  generalize he : f_X12_tellOne_217 fu  s l = res
  unfold f_X12_tellOne_217 at he
  unfold p_X12_tellOne_217 at hk
  refine r_aload_n rfl rfl ?_
  refine q_getfield rfl (cc_60 _) rfl ?_
  refine r_iconst_ (a := 2) rfl (by decide) ?_
  refine r_aload_n rfl rfl ?_
  refine q_getfield rfl (cc_60 _) rfl ?_
  refine r_imul rfl ?_
  refine r_aload_n rfl rfl ?_
  obtain ⟨hb26, hk⟩ := hk
  refine q_callV0 [] _ rfl kY_X12_toldStep kT_X12_toldStep rfl rfl (Nat.le_of_ble_eq_true rfl) (Nat.le_of_ble_eq_true rfl) (cc_60 _) (s_X12_toldStep hb26) (fun r h q => ?_)
  obtain ⟨rfl, rfl⟩ := q
  simp only [Option.toList, List.cons_append, List.nil_append]
  subst he
  exact r_weak (L1 := [some (.ref 60), none]) ⟨rfl, trivial⟩ (lp_X12_tellOne_231 _ _ _ _ hk)

def f_X12_tellOne_272 (fu : Nat) (y1 : Int32) (y2 : Int32) (s : fl_I) (l : fl_L) : fl_I × fl_L :=
    f_X12_tellOne_349 fu  (wi s 80 y1.toNatClampNeg y2) l

def p_X12_tellOne_272 (fu : Nat) (y1 : Int32) (y2 : Int32) (s : fl_I) (l : fl_L) : Prop :=
    (vp_in y1 2) ∧ p_X12_tellOne_349 fu  (wi s 80 y1.toNatClampNeg y2) l

set_option maxRecDepth 100000 in
set_option maxHeartbeats 1000000 in
theorem lp_X12_tellOne_272 {G : ab_G} {fu : Nat} {d : Nat} {D : fl_D} : ∀ (y1 : Int32) (y2 : Int32) (s : fl_I) (l : fl_L), p_X12_tellOne_272 fu y1 y2 s l → ab_C G (d + 6) 0 0 M_X12_tellOne 272 [none, none] [.int y2, .int y1, .ref 80] (hp D s l) (rt none (hp D (f_X12_tellOne_272 fu y1 y2 s l).1 (f_X12_tellOne_272 fu y1 y2 s l).2)) := by
  intro y1 y2 s l hk
  generalize he : f_X12_tellOne_272 fu y1 y2 s l = res
  unfold f_X12_tellOne_272 at he
  unfold p_X12_tellOne_272 at hk
  obtain ⟨hb32, hk⟩ := hk
  refine w_iast rfl (cc_80 _) hb32 ?_
  refine r_goto rfl ?_
  subst he
  exact r_weak (L1 := [none, none]) trivial (lp_X12_tellOne_349 _ _ hk)

def f_X12_tellOne_292 (fu : Nat) (y1 : Int32) (y2 : Int32) (s : fl_I) (l : fl_L) : fl_I × fl_L :=
    f_X12_tellOne_349 fu  (wi s 81 y1.toNatClampNeg y2) l

def p_X12_tellOne_292 (fu : Nat) (y1 : Int32) (y2 : Int32) (s : fl_I) (l : fl_L) : Prop :=
    (vp_in y1 2) ∧ p_X12_tellOne_349 fu  (wi s 81 y1.toNatClampNeg y2) l

set_option maxRecDepth 100000 in
set_option maxHeartbeats 1000000 in
theorem lp_X12_tellOne_292 {G : ab_G} {fu : Nat} {d : Nat} {D : fl_D} : ∀ (y1 : Int32) (y2 : Int32) (s : fl_I) (l : fl_L), p_X12_tellOne_292 fu y1 y2 s l → ab_C G (d + 6) 0 0 M_X12_tellOne 292 [none, none] [.int y2, .int y1, .ref 81] (hp D s l) (rt none (hp D (f_X12_tellOne_292 fu y1 y2 s l).1 (f_X12_tellOne_292 fu y1 y2 s l).2)) := by
  intro y1 y2 s l hk
  generalize he : f_X12_tellOne_292 fu y1 y2 s l = res
  unfold f_X12_tellOne_292 at he
  unfold p_X12_tellOne_292 at hk
  obtain ⟨hb34, hk⟩ := hk
  refine w_iast rfl (cc_81 _) hb34 ?_
  refine r_goto rfl ?_
  subst he
  exact r_weak (L1 := [none, none]) trivial (lp_X12_tellOne_349 _ _ hk)

def f_X12_tellOne (fu : Nat) (s : fl_I) (l : fl_L) : fl_I × fl_L :=
  if ((s 63 (s 60 11).toNatClampNeg) = 20) then f_X12_tellOne_74 fu  (f_X12_roomFor fu (s 68 (s 60 19).toNatClampNeg) (4 : Int32) s l).1 (f_X12_roomFor fu (s 68 (s 60 19).toNatClampNeg) (4 : Int32) s l).2 else if ((s 63 (s 60 11).toNatClampNeg) = 21) then f_X12_tellOne_103 fu  (f_X12_roomFor fu (s 72 (s 60 19).toNatClampNeg) (8 : Int32) s l).1 (f_X12_roomFor fu (s 72 (s 60 19).toNatClampNeg) (8 : Int32) s l).2 else if ((s 63 (s 60 11).toNatClampNeg) = 22) then f_X12_tellOne_199 fu  (f_X12_roomFor fu (s 74 (s 60 19).toNatClampNeg) (4 : Int32) s l).1 (f_X12_roomFor fu (s 74 (s 60 19).toNatClampNeg) (4 : Int32) s l).2 else if ((s 63 (s 60 11).toNatClampNeg) = 23) then if (((s 63 (s 60 11).toNatClampNeg) - (23 : Int32)) < 0) then f_X12_tellOne_327 fu ((s 63 (s 60 11).toNatClampNeg) - (23 : Int32)) s l else if ((s 63 (s 60 11).toNatClampNeg) ≤ (25 : Int32)) then f_X12_tellOne_332 fu ((s 63 (s 60 11).toNatClampNeg) - (23 : Int32)) s l else f_X12_tellOne_327 fu ((s 63 (s 60 11).toNatClampNeg) - (23 : Int32)) s l else if ((s 63 (s 60 11).toNatClampNeg) = 24) then if (((s 63 (s 60 11).toNatClampNeg) - (23 : Int32)) < 0) then f_X12_tellOne_327 fu ((s 63 (s 60 11).toNatClampNeg) - (23 : Int32)) s l else if ((s 63 (s 60 11).toNatClampNeg) ≤ (25 : Int32)) then f_X12_tellOne_332 fu ((s 63 (s 60 11).toNatClampNeg) - (23 : Int32)) s l else f_X12_tellOne_327 fu ((s 63 (s 60 11).toNatClampNeg) - (23 : Int32)) s l else if ((s 63 (s 60 11).toNatClampNeg) = 25) then if (((s 63 (s 60 11).toNatClampNeg) - (23 : Int32)) < 0) then f_X12_tellOne_327 fu ((s 63 (s 60 11).toNatClampNeg) - (23 : Int32)) s l else if ((s 63 (s 60 11).toNatClampNeg) ≤ (25 : Int32)) then f_X12_tellOne_332 fu ((s 63 (s 60 11).toNatClampNeg) - (23 : Int32)) s l else f_X12_tellOne_327 fu ((s 63 (s 60 11).toNatClampNeg) - (23 : Int32)) s l else if ((s 63 (s 60 11).toNatClampNeg) = 26) then f_X12_tellOne_217 fu  (f_X12_goesOn fu s l).1 (f_X12_goesOn fu s l).2 else if ((s 63 (s 60 11).toNatClampNeg) = 27) then f_X12_tellOne_272 fu (s 60 19) (f_X12_toldInt fu (0 : Int32) (100 : Int32) s l).1 (f_X12_toldInt fu (0 : Int32) (100 : Int32) s l).2.1 (f_X12_toldInt fu (0 : Int32) (100 : Int32) s l).2.2 else if ((s 63 (s 60 11).toNatClampNeg) = 28) then f_X12_tellOne_292 fu (s 60 19) (f_X12_toldInt fu (0 : Int32) (9999 : Int32) s l).1 (f_X12_toldInt fu (0 : Int32) (9999 : Int32) s l).2.1 (f_X12_toldInt fu (0 : Int32) (9999 : Int32) s l).2.2 else if (((s 63 (s 60 11).toNatClampNeg) - (23 : Int32)) < 0) then f_X12_tellOne_327 fu ((s 63 (s 60 11).toNatClampNeg) - (23 : Int32)) s l else if ((s 63 (s 60 11).toNatClampNeg) ≤ (25 : Int32)) then f_X12_tellOne_332 fu ((s 63 (s 60 11).toNatClampNeg) - (23 : Int32)) s l else f_X12_tellOne_327 fu ((s 63 (s 60 11).toNatClampNeg) - (23 : Int32)) s l

def p_X12_tellOne (fu : Nat) (s : fl_I) (l : fl_L) : Prop :=
  (vp_in (s 60 11) 403) ∧ ((((s 63 (s 60 11).toNatClampNeg) = 20) → (vp_in (s 60 19) 2) ∧ (p_X12_roomFor fu (s 68 (s 60 19).toNatClampNeg) (4 : Int32) s l) ∧ p_X12_tellOne_74 fu  (f_X12_roomFor fu (s 68 (s 60 19).toNatClampNeg) (4 : Int32) s l).1 (f_X12_roomFor fu (s 68 (s 60 19).toNatClampNeg) (4 : Int32) s l).2) ∧ (¬ ((s 63 (s 60 11).toNatClampNeg) = 20) → ((((s 63 (s 60 11).toNatClampNeg) = 21) → (vp_in (s 60 19) 2) ∧ (p_X12_roomFor fu (s 72 (s 60 19).toNatClampNeg) (8 : Int32) s l) ∧ p_X12_tellOne_103 fu  (f_X12_roomFor fu (s 72 (s 60 19).toNatClampNeg) (8 : Int32) s l).1 (f_X12_roomFor fu (s 72 (s 60 19).toNatClampNeg) (8 : Int32) s l).2) ∧ (¬ ((s 63 (s 60 11).toNatClampNeg) = 21) → ((((s 63 (s 60 11).toNatClampNeg) = 22) → (vp_in (s 60 19) 2) ∧ (p_X12_roomFor fu (s 74 (s 60 19).toNatClampNeg) (4 : Int32) s l) ∧ p_X12_tellOne_199 fu  (f_X12_roomFor fu (s 74 (s 60 19).toNatClampNeg) (4 : Int32) s l).1 (f_X12_roomFor fu (s 74 (s 60 19).toNatClampNeg) (4 : Int32) s l).2) ∧ (¬ ((s 63 (s 60 11).toNatClampNeg) = 22) → ((((s 63 (s 60 11).toNatClampNeg) = 23) → (vp_in (s 60 11) 403) ∧ (((((s 63 (s 60 11).toNatClampNeg) - (23 : Int32)) < 0) → p_X12_tellOne_327 fu ((s 63 (s 60 11).toNatClampNeg) - (23 : Int32)) s l) ∧ (¬ (((s 63 (s 60 11).toNatClampNeg) - (23 : Int32)) < 0) → (vp_in (s 60 11) 403) ∧ ((((s 63 (s 60 11).toNatClampNeg) ≤ (25 : Int32)) → p_X12_tellOne_332 fu ((s 63 (s 60 11).toNatClampNeg) - (23 : Int32)) s l) ∧ (¬ ((s 63 (s 60 11).toNatClampNeg) ≤ (25 : Int32)) → p_X12_tellOne_327 fu ((s 63 (s 60 11).toNatClampNeg) - (23 : Int32)) s l))))) ∧ (¬ ((s 63 (s 60 11).toNatClampNeg) = 23) → ((((s 63 (s 60 11).toNatClampNeg) = 24) → (vp_in (s 60 11) 403) ∧ (((((s 63 (s 60 11).toNatClampNeg) - (23 : Int32)) < 0) → p_X12_tellOne_327 fu ((s 63 (s 60 11).toNatClampNeg) - (23 : Int32)) s l) ∧ (¬ (((s 63 (s 60 11).toNatClampNeg) - (23 : Int32)) < 0) → (vp_in (s 60 11) 403) ∧ ((((s 63 (s 60 11).toNatClampNeg) ≤ (25 : Int32)) → p_X12_tellOne_332 fu ((s 63 (s 60 11).toNatClampNeg) - (23 : Int32)) s l) ∧ (¬ ((s 63 (s 60 11).toNatClampNeg) ≤ (25 : Int32)) → p_X12_tellOne_327 fu ((s 63 (s 60 11).toNatClampNeg) - (23 : Int32)) s l))))) ∧ (¬ ((s 63 (s 60 11).toNatClampNeg) = 24) → ((((s 63 (s 60 11).toNatClampNeg) = 25) → (vp_in (s 60 11) 403) ∧ (((((s 63 (s 60 11).toNatClampNeg) - (23 : Int32)) < 0) → p_X12_tellOne_327 fu ((s 63 (s 60 11).toNatClampNeg) - (23 : Int32)) s l) ∧ (¬ (((s 63 (s 60 11).toNatClampNeg) - (23 : Int32)) < 0) → (vp_in (s 60 11) 403) ∧ ((((s 63 (s 60 11).toNatClampNeg) ≤ (25 : Int32)) → p_X12_tellOne_332 fu ((s 63 (s 60 11).toNatClampNeg) - (23 : Int32)) s l) ∧ (¬ ((s 63 (s 60 11).toNatClampNeg) ≤ (25 : Int32)) → p_X12_tellOne_327 fu ((s 63 (s 60 11).toNatClampNeg) - (23 : Int32)) s l))))) ∧ (¬ ((s 63 (s 60 11).toNatClampNeg) = 25) → ((((s 63 (s 60 11).toNatClampNeg) = 26) → (p_X12_goesOn fu s l) ∧ p_X12_tellOne_217 fu  (f_X12_goesOn fu s l).1 (f_X12_goesOn fu s l).2) ∧ (¬ ((s 63 (s 60 11).toNatClampNeg) = 26) → ((((s 63 (s 60 11).toNatClampNeg) = 27) → (p_X12_toldInt fu (0 : Int32) (100 : Int32) s l) ∧ p_X12_tellOne_272 fu (s 60 19) (f_X12_toldInt fu (0 : Int32) (100 : Int32) s l).1 (f_X12_toldInt fu (0 : Int32) (100 : Int32) s l).2.1 (f_X12_toldInt fu (0 : Int32) (100 : Int32) s l).2.2) ∧ (¬ ((s 63 (s 60 11).toNatClampNeg) = 27) → ((((s 63 (s 60 11).toNatClampNeg) = 28) → (p_X12_toldInt fu (0 : Int32) (9999 : Int32) s l) ∧ p_X12_tellOne_292 fu (s 60 19) (f_X12_toldInt fu (0 : Int32) (9999 : Int32) s l).1 (f_X12_toldInt fu (0 : Int32) (9999 : Int32) s l).2.1 (f_X12_toldInt fu (0 : Int32) (9999 : Int32) s l).2.2) ∧ (¬ ((s 63 (s 60 11).toNatClampNeg) = 28) → (vp_in (s 60 11) 403) ∧ (((((s 63 (s 60 11).toNatClampNeg) - (23 : Int32)) < 0) → p_X12_tellOne_327 fu ((s 63 (s 60 11).toNatClampNeg) - (23 : Int32)) s l) ∧ (¬ (((s 63 (s 60 11).toNatClampNeg) - (23 : Int32)) < 0) → (vp_in (s 60 11) 403) ∧ ((((s 63 (s 60 11).toNatClampNeg) ≤ (25 : Int32)) → p_X12_tellOne_332 fu ((s 63 (s 60 11).toNatClampNeg) - (23 : Int32)) s l) ∧ (¬ ((s 63 (s 60 11).toNatClampNeg) ≤ (25 : Int32)) → p_X12_tellOne_327 fu ((s 63 (s 60 11).toNatClampNeg) - (23 : Int32)) s l))))))))))))))))))))))

set_option maxRecDepth 100000 in
set_option maxHeartbeats 1000000 in
theorem s_X12_tellOne {G : ab_G} {fu : Nat} {d : Nat} {D : fl_D} {s : fl_I} {l : fl_L}  (hk : p_X12_tellOne fu s l) : ab_C G (d + 6) 0 0 M_X12_tellOne 0 (ab_ent [.ref 60]) [] (hp D s l) (rt none (hp D (f_X12_tellOne fu s l).1 (f_X12_tellOne fu s l).2)) := by
  generalize he : (f_X12_tellOne fu s l) = res
  unfold f_X12_tellOne at he
  unfold p_X12_tellOne at hk
  refine r_weak (L1 := [some (.ref 60), none]) ⟨rfl, trivial⟩ ?_
  refine r_aload_n rfl rfl ?_
  refine q_getfield rfl (cc_60 _) rfl ?_
  refine r_aload_n rfl rfl ?_
  refine q_getfield rfl (cc_60 _) rfl ?_
  obtain ⟨hb0, hk⟩ := hk
  refine q_iald rfl (cc_63 _) hb0 ?_
  by_cases c_9_20 : ((s 63 (s 60 11).toNatClampNeg) = 20)
  · rw [if_pos c_9_20] at he
    replace hk := hk.1 c_9_20
    refine r_tableIn (tgt := 60) rfl (by rw [c_9_20]; decide) (by rw [c_9_20]; decide) (by rw [c_9_20]; rfl) (by decide) ?_
    refine r_aload_n rfl rfl ?_
    refine r_aload_n rfl rfl ?_
    refine q_getfield rfl (cc_60 _) rfl ?_
    refine r_aload_n rfl rfl ?_
    refine q_getfield rfl (cc_60 _) rfl ?_
    obtain ⟨hb1, hk⟩ := hk
    refine q_iald rfl (cc_68 _) hb1 ?_
    refine r_iconst_ (a := 4) rfl (by decide) ?_
    obtain ⟨hb2, hk⟩ := hk
    refine q_callV0 [_, _] _ rfl kY_X12_roomFor kT_X12_roomFor rfl rfl (Nat.le_of_ble_eq_true rfl) (Nat.le_of_ble_eq_true rfl) (cc_60 _) (s_X12_roomFor hb2) (fun r h q => ?_)
    obtain ⟨rfl, rfl⟩ := q
    simp only [Option.toList, List.cons_append, List.nil_append]
    subst he
    exact r_weak (L1 := [some (.ref 60), none]) ⟨rfl, trivial⟩ (lp_X12_tellOne_74 _ _ hk)
  · rw [if_neg c_9_20] at he
    replace hk := hk.2 c_9_20
    by_cases c_9_21 : ((s 63 (s 60 11).toNatClampNeg) = 21)
    · rw [if_pos c_9_21] at he
      replace hk := hk.1 c_9_21
      refine r_tableIn (tgt := 88) rfl (by rw [c_9_21]; decide) (by rw [c_9_21]; decide) (by rw [c_9_21]; rfl) (by decide) ?_
      refine r_aload_n rfl rfl ?_
      refine r_aload_n rfl rfl ?_
      refine q_getfield rfl (cc_60 _) rfl ?_
      refine r_aload_n rfl rfl ?_
      refine q_getfield rfl (cc_60 _) rfl ?_
      obtain ⟨hb4, hk⟩ := hk
      refine q_iald rfl (cc_72 _) hb4 ?_
      refine r_bipush_ (a := 8) rfl (by decide) ?_
      obtain ⟨hb5, hk⟩ := hk
      refine q_callV0 [_, _] _ rfl kY_X12_roomFor kT_X12_roomFor rfl rfl (Nat.le_of_ble_eq_true rfl) (Nat.le_of_ble_eq_true rfl) (cc_60 _) (s_X12_roomFor hb5) (fun r h q => ?_)
      obtain ⟨rfl, rfl⟩ := q
      simp only [Option.toList, List.cons_append, List.nil_append]
      subst he
      exact r_weak (L1 := [some (.ref 60), none]) ⟨rfl, trivial⟩ (lp_X12_tellOne_103 _ _ hk)
    · rw [if_neg c_9_21] at he
      replace hk := hk.2 c_9_21
      by_cases c_9_22 : ((s 63 (s 60 11).toNatClampNeg) = 22)
      · rw [if_pos c_9_22] at he
        replace hk := hk.1 c_9_22
        refine r_tableIn (tgt := 185) rfl (by rw [c_9_22]; decide) (by rw [c_9_22]; decide) (by rw [c_9_22]; rfl) (by decide) ?_
        refine r_aload_n rfl rfl ?_
        refine r_aload_n rfl rfl ?_
        refine q_getfield rfl (cc_60 _) rfl ?_
        refine r_aload_n rfl rfl ?_
        refine q_getfield rfl (cc_60 _) rfl ?_
        obtain ⟨hb13, hk⟩ := hk
        refine q_iald rfl (cc_74 _) hb13 ?_
        refine r_iconst_ (a := 4) rfl (by decide) ?_
        obtain ⟨hb14, hk⟩ := hk
        refine q_callV0 [_, _] _ rfl kY_X12_roomFor kT_X12_roomFor rfl rfl (Nat.le_of_ble_eq_true rfl) (Nat.le_of_ble_eq_true rfl) (cc_60 _) (s_X12_roomFor hb14) (fun r h q => ?_)
        obtain ⟨rfl, rfl⟩ := q
        simp only [Option.toList, List.cons_append, List.nil_append]
        subst he
        exact r_weak (L1 := [some (.ref 60), none]) ⟨rfl, trivial⟩ (lp_X12_tellOne_199 _ _ hk)
      · rw [if_neg c_9_22] at he
        replace hk := hk.2 c_9_22
        by_cases c_9_23 : ((s 63 (s 60 11).toNatClampNeg) = 23)
        · rw [if_pos c_9_23] at he
          replace hk := hk.1 c_9_23
          refine r_tableIn (tgt := 296) rfl (by rw [c_9_23]; decide) (by rw [c_9_23]; decide) (by rw [c_9_23]; rfl) (by decide) ?_
          refine r_aload_n rfl rfl ?_
          refine q_getfield rfl (cc_60 _) rfl ?_
          refine r_aload_n rfl rfl ?_
          refine q_getfield rfl (cc_60 _) rfl ?_
          obtain ⟨hb16, hk⟩ := hk
          refine q_iald rfl (cc_63 _) hb16 ?_
          refine r_bipush_ (a := 23) rfl (by decide) ?_
          refine r_isub rfl ?_
          refine r_istore_n rfl (Nat.le_of_ble_eq_true rfl) rfl ?_
          refine r_iload_n rfl rfl ?_
          refine r_if_lt rfl (fun c_310 => ?_) (fun c_310 => ?_)
          · rw [if_pos c_310] at he
            replace hk := hk.1 c_310
            subst he
            exact r_weak (L1 := [some (.ref 60), some (.int ((s 63 (s 60 11).toNatClampNeg) - (23 : Int32)))]) ⟨rfl, rfl, trivial⟩ (lp_X12_tellOne_327 _ _ _ hk)
          · rw [if_neg c_310] at he
            replace hk := hk.2 c_310
            refine r_aload_n rfl rfl ?_
            refine q_getfield rfl (cc_60 _) rfl ?_
            refine r_aload_n rfl rfl ?_
            refine q_getfield rfl (cc_60 _) rfl ?_
            obtain ⟨hb20, hk⟩ := hk
            refine q_iald rfl (cc_63 _) hb20 ?_
            refine r_bipush_ (a := 25) rfl (by decide) ?_
            refine r_icmp_le rfl (fun c_324 => ?_) (fun c_324 => ?_)
            · rw [if_pos c_324] at he
              replace hk := hk.1 c_324
              subst he
              exact r_weak (L1 := [some (.ref 60), some (.int ((s 63 (s 60 11).toNatClampNeg) - (23 : Int32)))]) ⟨rfl, rfl, trivial⟩ (lp_X12_tellOne_332 _ _ _ hk)
            · rw [if_neg c_324] at he
              replace hk := hk.2 c_324
              subst he
              exact r_weak (L1 := [some (.ref 60), some (.int ((s 63 (s 60 11).toNatClampNeg) - (23 : Int32)))]) ⟨rfl, rfl, trivial⟩ (lp_X12_tellOne_327 _ _ _ hk)
        · rw [if_neg c_9_23] at he
          replace hk := hk.2 c_9_23
          by_cases c_9_24 : ((s 63 (s 60 11).toNatClampNeg) = 24)
          · rw [if_pos c_9_24] at he
            replace hk := hk.1 c_9_24
            refine r_tableIn (tgt := 296) rfl (by rw [c_9_24]; decide) (by rw [c_9_24]; decide) (by rw [c_9_24]; rfl) (by decide) ?_
            refine r_aload_n rfl rfl ?_
            refine q_getfield rfl (cc_60 _) rfl ?_
            refine r_aload_n rfl rfl ?_
            refine q_getfield rfl (cc_60 _) rfl ?_
            obtain ⟨hb21, hk⟩ := hk
            refine q_iald rfl (cc_63 _) hb21 ?_
            refine r_bipush_ (a := 23) rfl (by decide) ?_
            refine r_isub rfl ?_
            refine r_istore_n rfl (Nat.le_of_ble_eq_true rfl) rfl ?_
            refine r_iload_n rfl rfl ?_
            refine r_if_lt rfl (fun c_310 => ?_) (fun c_310 => ?_)
            · rw [if_pos c_310] at he
              replace hk := hk.1 c_310
              subst he
              exact r_weak (L1 := [some (.ref 60), some (.int ((s 63 (s 60 11).toNatClampNeg) - (23 : Int32)))]) ⟨rfl, rfl, trivial⟩ (lp_X12_tellOne_327 _ _ _ hk)
            · rw [if_neg c_310] at he
              replace hk := hk.2 c_310
              refine r_aload_n rfl rfl ?_
              refine q_getfield rfl (cc_60 _) rfl ?_
              refine r_aload_n rfl rfl ?_
              refine q_getfield rfl (cc_60 _) rfl ?_
              obtain ⟨hb22, hk⟩ := hk
              refine q_iald rfl (cc_63 _) hb22 ?_
              refine r_bipush_ (a := 25) rfl (by decide) ?_
              refine r_icmp_le rfl (fun c_324 => ?_) (fun c_324 => ?_)
              · rw [if_pos c_324] at he
                replace hk := hk.1 c_324
                subst he
                exact r_weak (L1 := [some (.ref 60), some (.int ((s 63 (s 60 11).toNatClampNeg) - (23 : Int32)))]) ⟨rfl, rfl, trivial⟩ (lp_X12_tellOne_332 _ _ _ hk)
              · rw [if_neg c_324] at he
                replace hk := hk.2 c_324
                subst he
                exact r_weak (L1 := [some (.ref 60), some (.int ((s 63 (s 60 11).toNatClampNeg) - (23 : Int32)))]) ⟨rfl, rfl, trivial⟩ (lp_X12_tellOne_327 _ _ _ hk)
          · rw [if_neg c_9_24] at he
            replace hk := hk.2 c_9_24
            by_cases c_9_25 : ((s 63 (s 60 11).toNatClampNeg) = 25)
            · rw [if_pos c_9_25] at he
              replace hk := hk.1 c_9_25
              refine r_tableIn (tgt := 296) rfl (by rw [c_9_25]; decide) (by rw [c_9_25]; decide) (by rw [c_9_25]; rfl) (by decide) ?_
              refine r_aload_n rfl rfl ?_
              refine q_getfield rfl (cc_60 _) rfl ?_
              refine r_aload_n rfl rfl ?_
              refine q_getfield rfl (cc_60 _) rfl ?_
              obtain ⟨hb23, hk⟩ := hk
              refine q_iald rfl (cc_63 _) hb23 ?_
              refine r_bipush_ (a := 23) rfl (by decide) ?_
              refine r_isub rfl ?_
              refine r_istore_n rfl (Nat.le_of_ble_eq_true rfl) rfl ?_
              refine r_iload_n rfl rfl ?_
              refine r_if_lt rfl (fun c_310 => ?_) (fun c_310 => ?_)
              · rw [if_pos c_310] at he
                replace hk := hk.1 c_310
                subst he
                exact r_weak (L1 := [some (.ref 60), some (.int ((s 63 (s 60 11).toNatClampNeg) - (23 : Int32)))]) ⟨rfl, rfl, trivial⟩ (lp_X12_tellOne_327 _ _ _ hk)
              · rw [if_neg c_310] at he
                replace hk := hk.2 c_310
                refine r_aload_n rfl rfl ?_
                refine q_getfield rfl (cc_60 _) rfl ?_
                refine r_aload_n rfl rfl ?_
                refine q_getfield rfl (cc_60 _) rfl ?_
                obtain ⟨hb24, hk⟩ := hk
                refine q_iald rfl (cc_63 _) hb24 ?_
                refine r_bipush_ (a := 25) rfl (by decide) ?_
                refine r_icmp_le rfl (fun c_324 => ?_) (fun c_324 => ?_)
                · rw [if_pos c_324] at he
                  replace hk := hk.1 c_324
                  subst he
                  exact r_weak (L1 := [some (.ref 60), some (.int ((s 63 (s 60 11).toNatClampNeg) - (23 : Int32)))]) ⟨rfl, rfl, trivial⟩ (lp_X12_tellOne_332 _ _ _ hk)
                · rw [if_neg c_324] at he
                  replace hk := hk.2 c_324
                  subst he
                  exact r_weak (L1 := [some (.ref 60), some (.int ((s 63 (s 60 11).toNatClampNeg) - (23 : Int32)))]) ⟨rfl, rfl, trivial⟩ (lp_X12_tellOne_327 _ _ _ hk)
            · rw [if_neg c_9_25] at he
              replace hk := hk.2 c_9_25
              by_cases c_9_26 : ((s 63 (s 60 11).toNatClampNeg) = 26)
              · rw [if_pos c_9_26] at he
                replace hk := hk.1 c_9_26
                refine r_tableIn (tgt := 213) rfl (by rw [c_9_26]; decide) (by rw [c_9_26]; decide) (by rw [c_9_26]; rfl) (by decide) ?_
                refine r_aload_n rfl rfl ?_
                obtain ⟨hb25, hk⟩ := hk
                refine q_callV0 [] _ rfl kY_X12_goesOn kT_X12_goesOn rfl rfl (Nat.le_of_ble_eq_true rfl) (Nat.le_of_ble_eq_true rfl) (cc_60 _) (s_X12_goesOn hb25) (fun r h q => ?_)
                obtain ⟨rfl, rfl⟩ := q
                simp only [Option.toList, List.cons_append, List.nil_append]
                subst he
                exact r_weak (L1 := [some (.ref 60), none]) ⟨rfl, trivial⟩ (lp_X12_tellOne_217 _ _ hk)
              · rw [if_neg c_9_26] at he
                replace hk := hk.2 c_9_26
                by_cases c_9_27 : ((s 63 (s 60 11).toNatClampNeg) = 27)
                · rw [if_pos c_9_27] at he
                  replace hk := hk.1 c_9_27
                  refine r_tableIn (tgt := 257) rfl (by rw [c_9_27]; decide) (by rw [c_9_27]; decide) (by rw [c_9_27]; rfl) (by decide) ?_
                  refine r_aload_n rfl rfl ?_
                  refine q_getfield rfl (cc_60 _) rfl ?_
                  refine r_aload_n rfl rfl ?_
                  refine q_getfield rfl (cc_60 _) rfl ?_
                  refine r_aload_n rfl rfl ?_
                  refine r_iconst_ (a := 0) rfl (by decide) ?_
                  refine r_bipush_ (a := 100) rfl (by decide) ?_
                  obtain ⟨hb31, hk⟩ := hk
                  refine q_callV0 [_, _] _ rfl kY_X12_toldInt kT_X12_toldInt rfl rfl (Nat.le_of_ble_eq_true rfl) (Nat.le_of_ble_eq_true rfl) (cc_60 _) (s_X12_toldInt hb31) (fun r h q => ?_)
                  obtain ⟨rfl, rfl⟩ := q
                  simp only [Option.toList, List.cons_append, List.nil_append]
                  subst he
                  exact r_weak (L1 := [none, none]) trivial (lp_X12_tellOne_272 _ _ _ _ hk)
                · rw [if_neg c_9_27] at he
                  replace hk := hk.2 c_9_27
                  by_cases c_9_28 : ((s 63 (s 60 11).toNatClampNeg) = 28)
                  · rw [if_pos c_9_28] at he
                    replace hk := hk.1 c_9_28
                    refine r_tableIn (tgt := 276) rfl (by rw [c_9_28]; decide) (by rw [c_9_28]; decide) (by rw [c_9_28]; rfl) (by decide) ?_
                    refine r_aload_n rfl rfl ?_
                    refine q_getfield rfl (cc_60 _) rfl ?_
                    refine r_aload_n rfl rfl ?_
                    refine q_getfield rfl (cc_60 _) rfl ?_
                    refine r_aload_n rfl rfl ?_
                    refine r_iconst_ (a := 0) rfl (by decide) ?_
                    refine r_sipush_ (a := 9999) rfl (by decide) ?_
                    obtain ⟨hb33, hk⟩ := hk
                    refine q_callV0 [_, _] _ rfl kY_X12_toldInt kT_X12_toldInt rfl rfl (Nat.le_of_ble_eq_true rfl) (Nat.le_of_ble_eq_true rfl) (cc_60 _) (s_X12_toldInt hb33) (fun r h q => ?_)
                    obtain ⟨rfl, rfl⟩ := q
                    simp only [Option.toList, List.cons_append, List.nil_append]
                    subst he
                    exact r_weak (L1 := [none, none]) trivial (lp_X12_tellOne_292 _ _ _ _ hk)
                  · rw [if_neg c_9_28] at he
                    replace hk := hk.2 c_9_28
                    refine r_tableOut (tgt := 296) rfl (by simp only [Int32.lt_iff_toInt_lt, Int32.le_iff_toInt_le, ← Int32.toInt_inj, ti_0, ti_1, ti_2, ti_3, ti_4, ti_5, ti_6, ti_7, ti_8, ti_9, ti_10, ti_11, ti_12, ti_13, ti_14, ti_15, ti_16, ti_17, ti_18, ti_19, ti_20, ti_21, ti_22, ti_23, ti_24, ti_25, ti_26, ti_27, ti_28, ti_29, ti_30, ti_31, ti_32, ti_33, ti_34, ti_35, ti_36, ti_37, ti_38, ti_39, ti_40, ti_41, ti_42, ti_43, ti_44, ti_45, ti_46, ti_47, ti_48, ti_49, ti_50, ti_51, ti_52, ti_53, ti_54, ti_55, ti_56, ti_57, ti_58, ti_59, ti_60, ti_61, ti_62, ti_63, ti_64, ti_79, ti_80, ti_90, ti_96, ti_97, ti_99, ti_100, ti_122, ti_128, ti_132, ti_136, ti_140, ti_141, ti_145, ti_255, ti_256, ti_257, ti_258, ti_259, ti_260, ti_261, ti_262, ti_263, ti_264, ti_265, ti_266, ti_267, ti_268, ti_269, ti_270, ti_271, ti_272, ti_273, ti_274, ti_275, ti_276, ti_277, ti_278, ti_400, ti_401, ti_408, ti_420, ti_840, ti_999, ti_1980, ti_2000, ti_9999, ti_10000, ti_10240, ti_1000000, ti_m1, ti_m2, ti_m3, ti_m4, ti_m5, ti_m6, ti_m7] at c_9_20 c_9_21 c_9_22 c_9_23 c_9_24 c_9_25 c_9_26 c_9_27 c_9_28; omega) (by decide) ?_
                    refine r_aload_n rfl rfl ?_
                    refine q_getfield rfl (cc_60 _) rfl ?_
                    refine r_aload_n rfl rfl ?_
                    refine q_getfield rfl (cc_60 _) rfl ?_
                    obtain ⟨hb35, hk⟩ := hk
                    refine q_iald rfl (cc_63 _) hb35 ?_
                    refine r_bipush_ (a := 23) rfl (by decide) ?_
                    refine r_isub rfl ?_
                    refine r_istore_n rfl (Nat.le_of_ble_eq_true rfl) rfl ?_
                    refine r_iload_n rfl rfl ?_
                    refine r_if_lt rfl (fun c_310 => ?_) (fun c_310 => ?_)
                    · rw [if_pos c_310] at he
                      replace hk := hk.1 c_310
                      subst he
                      exact r_weak (L1 := [some (.ref 60), some (.int ((s 63 (s 60 11).toNatClampNeg) - (23 : Int32)))]) ⟨rfl, rfl, trivial⟩ (lp_X12_tellOne_327 _ _ _ hk)
                    · rw [if_neg c_310] at he
                      replace hk := hk.2 c_310
                      refine r_aload_n rfl rfl ?_
                      refine q_getfield rfl (cc_60 _) rfl ?_
                      refine r_aload_n rfl rfl ?_
                      refine q_getfield rfl (cc_60 _) rfl ?_
                      obtain ⟨hb36, hk⟩ := hk
                      refine q_iald rfl (cc_63 _) hb36 ?_
                      refine r_bipush_ (a := 25) rfl (by decide) ?_
                      refine r_icmp_le rfl (fun c_324 => ?_) (fun c_324 => ?_)
                      · rw [if_pos c_324] at he
                        replace hk := hk.1 c_324
                        subst he
                        exact r_weak (L1 := [some (.ref 60), some (.int ((s 63 (s 60 11).toNatClampNeg) - (23 : Int32)))]) ⟨rfl, rfl, trivial⟩ (lp_X12_tellOne_332 _ _ _ hk)
                      · rw [if_neg c_324] at he
                        replace hk := hk.2 c_324
                        subst he
                        exact r_weak (L1 := [some (.ref 60), some (.int ((s 63 (s 60 11).toNatClampNeg) - (23 : Int32)))]) ⟨rfl, rfl, trivial⟩ (lp_X12_tellOne_327 _ _ _ hk)

