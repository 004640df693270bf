def f_X12_tellLaw_148 (fu : Nat) (x1 : Int32) (x2 : Int32) (s : fl_I) (l : fl_L) : fl_I × fl_L :=
    if ((s 60 13) ≤ 0) then ((wi (wi s 82 (((3 : Int32) * (s 60 19)) + x1).toNatClampNeg x2) 83 (((3 : Int32) * ((wi s 82 (((3 : Int32) * (s 60 19)) + x1).toNatClampNeg x2) 60 19)) + x1).toNatClampNeg ((wi s 82 (((3 : Int32) * (s 60 19)) + x1).toNatClampNeg x2) 60 36)), l) else (s, l)

def p_X12_tellLaw_148 (fu : Nat) (x1 : Int32) (x2 : Int32) (s : fl_I) (l : fl_L) : Prop :=
    ((((s 60 13) ≤ 0) → (vp_in (((3 : Int32) * (s 60 19)) + x1) 6) ∧ (vp_in (((3 : Int32) * ((wi s 82 (((3 : Int32) * (s 60 19)) + x1).toNatClampNeg x2) 60 19)) + x1) 6) ∧ True) ∧ (¬ ((s 60 13) ≤ 0) → True))

set_option maxRecDepth 100000 in
set_option maxHeartbeats 1000000 in
theorem lp_X12_tellLaw_148 {G : ab_G} {fu : Nat} {d : Nat} {D : fl_D} : ∀ (x1 : Int32) (x2 : Int32) (s : fl_I) (l : fl_L), p_X12_tellLaw_148 fu x1 x2 s l → ab_C G (d + 5) 0 0 M_X12_tellLaw 148 [some (.ref 60), some (.int x1), some (.int x2), none] [] (hp D s l) (rt none (hp D (f_X12_tellLaw_148 fu x1 x2 s l).1 (f_X12_tellLaw_148 fu x1 x2 s l).2)) := by
  intro x1 x2 s l hk
  generalize he : f_X12_tellLaw_148 fu x1 x2 s l = res
  unfold f_X12_tellLaw_148 at he
  unfold p_X12_tellLaw_148 at hk
  refine r_aload_n rfl rfl ?_
  refine q_getfield rfl (cc_60 _) rfl ?_
  refine r_if_le rfl (fun c_152 => ?_) (fun c_152 => ?_)
  · rw [if_pos c_152] at he
    replace hk := hk.1 c_152
    refine r_aload_n rfl rfl ?_
    refine q_getfield rfl (cc_60 _) rfl ?_
    refine r_iconst_ (a := 3) rfl (by decide) ?_
    refine r_aload_n rfl rfl ?_
    refine q_getfield rfl (cc_60 _) rfl ?_
    refine r_imul rfl ?_
    refine r_iload_n rfl rfl ?_
    refine r_iadd rfl ?_
    refine r_iload_n rfl rfl ?_
    obtain ⟨hb4, hk⟩ := hk
    refine w_iast rfl (cc_82 _) hb4 ?_
    refine r_aload_n rfl rfl ?_
    refine q_getfield rfl (cc_60 _) rfl ?_
    refine r_iconst_ (a := 3) rfl (by decide) ?_
    refine r_aload_n rfl rfl ?_
    refine q_getfield rfl (cc_60 _) rfl ?_
    refine r_imul rfl ?_
    refine r_iload_n rfl rfl ?_
    refine r_iadd rfl ?_
    refine r_aload_n rfl rfl ?_
    refine q_getfield rfl (cc_60 _) rfl ?_
    obtain ⟨hb5, hk⟩ := hk
    refine w_iast rfl (cc_83 _) hb5 ?_
    refine r_ret rfl rfl ?_
    first | with_reducible exact fin_v he | exact fin_v he
  · rw [if_neg c_152] at he
    replace hk := hk.2 c_152
    refine r_ret rfl rfl ?_
    first | with_reducible exact fin_v he | exact fin_v he

def f_X12_tellLaw_143 (fu : Nat) (x1 : Int32) (x2 : Int32) (s : fl_I) (l : fl_L) : fl_I × fl_L :=
    f_X12_tellLaw_148 fu x1 x2 (f_X12_must fu (4 : Int32) s l).1 (f_X12_must fu (4 : Int32) s l).2

def p_X12_tellLaw_143 (fu : Nat) (x1 : Int32) (x2 : Int32) (s : fl_I) (l : fl_L) : Prop :=
    (p_X12_must fu (4 : Int32) s l) ∧ p_X12_tellLaw_148 fu x1 x2 (f_X12_must fu (4 : Int32) s l).1 (f_X12_must fu (4 : Int32) s l).2

set_option maxRecDepth 100000 in
set_option maxHeartbeats 1000000 in
theorem lp_X12_tellLaw_143 {G : ab_G} {fu : Nat} {d : Nat} {D : fl_D} : ∀ (x1 : Int32) (x2 : Int32) (s : fl_I) (l : fl_L), p_X12_tellLaw_143 fu x1 x2 s l → ab_C G (d + 5) 0 0 M_X12_tellLaw 143 [some (.ref 60), some (.int x1), some (.int x2), none] [] (hp D s l) (rt none (hp D (f_X12_tellLaw_143 fu x1 x2 s l).1 (f_X12_tellLaw_143 fu x1 x2 s l).2)) := by
  intro x1 x2 s l hk
  generalize he : f_X12_tellLaw_143 fu x1 x2 s l = res
  unfold f_X12_tellLaw_143 at he
  unfold p_X12_tellLaw_143 at hk
  refine r_aload_n rfl rfl ?_
  refine r_iconst_ (a := 4) rfl (by decide) ?_
  obtain ⟨hb3, hk⟩ := hk
  refine q_callV0 [_] _ rfl kY_X12_must kT_X12_must rfl rfl (Nat.le_of_ble_eq_true rfl) (Nat.le_of_ble_eq_true rfl) (cc_60 _) (s_X12_must hb3) (fun r h q => ?_)
  obtain ⟨rfl, rfl⟩ := q
  simp only [Option.toList, List.cons_append, List.nil_append]
  subst he
  exact r_weak (L1 := [some (.ref 60), some (.int x1), some (.int x2), none]) ⟨rfl, rfl, rfl, trivial⟩ (lp_X12_tellLaw_148 _ _ _ _ hk)

def f_X12_tellLaw_129 (fu : Nat) (x1 : Int32) (x2 : Int32) (s : fl_I) (l : fl_L) : fl_I × fl_L :=
    f_X12_tellLaw_143 fu x1 x2 (f_X12_term fu (wi s 84 (s 60 36).toNatClampNeg (vp_nar .boolean (0 : Int32))) l).1 (f_X12_term fu (wi s 84 (s 60 36).toNatClampNeg (vp_nar .boolean (0 : Int32))) l).2

def p_X12_tellLaw_129 (fu : Nat) (x1 : Int32) (x2 : Int32) (s : fl_I) (l : fl_L) : Prop :=
    (vp_in (s 60 36) 260) ∧ (p_X12_term fu (wi s 84 (s 60 36).toNatClampNeg (vp_nar .boolean (0 : Int32))) l) ∧ p_X12_tellLaw_143 fu x1 x2 (f_X12_term fu (wi s 84 (s 60 36).toNatClampNeg (vp_nar .boolean (0 : Int32))) l).1 (f_X12_term fu (wi s 84 (s 60 36).toNatClampNeg (vp_nar .boolean (0 : Int32))) l).2

set_option maxRecDepth 100000 in
set_option maxHeartbeats 1000000 in
theorem lp_X12_tellLaw_129 {G : ab_G} {fu : Nat} {d : Nat} {D : fl_D} : ∀ (x1 : Int32) (x2 : Int32) (s : fl_I) (l : fl_L), p_X12_tellLaw_129 fu x1 x2 s l → ab_C G (d + 5) 0 0 M_X12_tellLaw 129 [some (.ref 60), some (.int x1), some (.int x2), none] [] (hp D s l) (rt none (hp D (f_X12_tellLaw_129 fu x1 x2 s l).1 (f_X12_tellLaw_129 fu x1 x2 s l).2)) := by
  intro x1 x2 s l hk
  generalize he : f_X12_tellLaw_129 fu x1 x2 s l = res
  unfold f_X12_tellLaw_129 at he
  unfold p_X12_tellLaw_129 at hk
  refine r_aload_n rfl rfl ?_
  refine q_getfield rfl (cc_60 _) rfl ?_
  refine r_aload_n rfl rfl ?_
  refine q_getfield rfl (cc_60 _) rfl ?_
  refine r_iconst_ (a := 0) rfl (by decide) ?_
  obtain ⟨hb1, hk⟩ := hk
  refine w_zast rfl (cc_84 _) hb1 ?_
  refine r_aload_n rfl rfl ?_
  obtain ⟨hb2, hk⟩ := hk
  refine q_callV0 [] _ rfl kY_X12_term kT_X12_term rfl rfl (Nat.le_of_ble_eq_true rfl) (Nat.le_of_ble_eq_true rfl) (cc_60 _) (s_X12_term hb2) (fun r h q => ?_)
  obtain ⟨rfl, rfl⟩ := q
  simp only [Option.toList, List.cons_append, List.nil_append]
  subst he
  exact r_weak (L1 := [some (.ref 60), some (.int x1), some (.int x2), none]) ⟨rfl, rfl, rfl, trivial⟩ (lp_X12_tellLaw_143 _ _ _ _ hk)

def f_X12_tellLaw_126 (fu : Nat) (K12 : Int32 → Int32 → Int32 → fl_I → fl_L → fl_I × fl_L) (x1 : Int32) (x2 : Int32) (x3 : Int32) (s : fl_I) (l : fl_L) : fl_I × fl_L :=
    K12 x1 x2 x3 s l

def p_X12_tellLaw_126 (fu : Nat) (P12 : Int32 → Int32 → Int32 → fl_I → fl_L → Prop) (x1 : Int32) (x2 : Int32) (x3 : Int32) (s : fl_I) (l : fl_L) : Prop :=
    P12 x1 x2 x3 s l

set_option maxRecDepth 100000 in
set_option maxHeartbeats 1000000 in
theorem lp_X12_tellLaw_126 {G : ab_G} {fu : Nat} {d : Nat} {D : fl_D} (K12 : Int32 → Int32 → Int32 → fl_I → fl_L → fl_I × fl_L) (P12 : Int32 → Int32 → Int32 → fl_I → fl_L → Prop) (hK12 : ∀ (x1 : Int32) (x2 : Int32) (x3 : Int32) (s : fl_I) (l : fl_L), P12 x1 x2 x3 s l → ab_C G (d + 5) 0 0 M_X12_tellLaw 12 [some (.ref 60), some (.int x1), some (.int x2), some (.int x3)] [] (hp D s l) (rt none (hp D (K12 x1 x2 x3 s l).1 (K12 x1 x2 x3 s l).2))) : ∀ (x1 : Int32) (x2 : Int32) (x3 : Int32) (s : fl_I) (l : fl_L), p_X12_tellLaw_126 fu P12 x1 x2 x3 s l → ab_C G (d + 5) 0 0 M_X12_tellLaw 126 [some (.ref 60), some (.int x1), some (.int x2), some (.int x3)] [] (hp D s l) (rt none (hp D (f_X12_tellLaw_126 fu K12 x1 x2 x3 s l).1 (f_X12_tellLaw_126 fu K12 x1 x2 x3 s l).2)) := by
  intro x1 x2 x3 s l hk
  generalize he : f_X12_tellLaw_126 fu K12 x1 x2 x3 s l = res
  unfold f_X12_tellLaw_126 at he
  unfold p_X12_tellLaw_126 at hk
  refine r_goto rfl ?_
  subst he
  exact r_weak (L1 := [some (.ref 60), some (.int x1), some (.int x2), some (.int x3)]) ⟨rfl, rfl, rfl, rfl, trivial⟩ (hK12 _ _ _ _ _ hk)

def f_X12_tellLaw_120 (fu : Nat) (K12 : Int32 → Int32 → Int32 → fl_I → fl_L → fl_I × fl_L) (x1 : Int32) (x2 : Int32) (x3 : Int32) (s : fl_I) (l : fl_L) : fl_I × fl_L :=
    f_X12_tellLaw_126 fu K12 x1 x2 x3 (f_X12_must fu (31 : Int32) s l).1 (f_X12_must fu (31 : Int32) s l).2

def p_X12_tellLaw_120 (fu : Nat) (P12 : Int32 → Int32 → Int32 → fl_I → fl_L → Prop) (x1 : Int32) (x2 : Int32) (x3 : Int32) (s : fl_I) (l : fl_L) : Prop :=
    (p_X12_must fu (31 : Int32) s l) ∧ p_X12_tellLaw_126 fu P12 x1 x2 x3 (f_X12_must fu (31 : Int32) s l).1 (f_X12_must fu (31 : Int32) s l).2

set_option maxRecDepth 100000 in
set_option maxHeartbeats 1000000 in
theorem lp_X12_tellLaw_120 {G : ab_G} {fu : Nat} {d : Nat} {D : fl_D} (K12 : Int32 → Int32 → Int32 → fl_I → fl_L → fl_I × fl_L) (P12 : Int32 → Int32 → Int32 → fl_I → fl_L → Prop) (hK12 : ∀ (x1 : Int32) (x2 : Int32) (x3 : Int32) (s : fl_I) (l : fl_L), P12 x1 x2 x3 s l → ab_C G (d + 5) 0 0 M_X12_tellLaw 12 [some (.ref 60), some (.int x1), some (.int x2), some (.int x3)] [] (hp D s l) (rt none (hp D (K12 x1 x2 x3 s l).1 (K12 x1 x2 x3 s l).2))) : ∀ (x1 : Int32) (x2 : Int32) (x3 : Int32) (s : fl_I) (l : fl_L), p_X12_tellLaw_120 fu P12 x1 x2 x3 s l → ab_C G (d + 5) 0 0 M_X12_tellLaw 120 [some (.ref 60), some (.int x1), some (.int x2), some (.int x3)] [] (hp D s l) (rt none (hp D (f_X12_tellLaw_120 fu K12 x1 x2 x3 s l).1 (f_X12_tellLaw_120 fu K12 x1 x2 x3 s l).2)) := by
  intro x1 x2 x3 s l hk
  generalize he : f_X12_tellLaw_120 fu K12 x1 x2 x3 s l = res
  unfold f_X12_tellLaw_120 at he
  unfold p_X12_tellLaw_120 at hk
  refine r_aload_n rfl rfl ?_
  refine r_bipush_ (a := 31) rfl (by decide) ?_
  obtain ⟨hb15, hk⟩ := hk
  refine q_callV0 [_] _ rfl kY_X12_must kT_X12_must rfl rfl (Nat.le_of_ble_eq_true rfl) (Nat.le_of_ble_eq_true rfl) (cc_60 _) (s_X12_must hb15) (fun r h q => ?_)
  obtain ⟨rfl, rfl⟩ := q
  simp only [Option.toList, List.cons_append, List.nil_append]
  subst he
  exact r_weak (L1 := [some (.ref 60), some (.int x1), some (.int x2), some (.int x3)]) ⟨rfl, rfl, rfl, rfl, trivial⟩ (lp_X12_tellLaw_126 _ _ hK12 _ _ _ _ _ hk)

def f_X12_tellLaw_116 (fu : Nat) (K12 : Int32 → Int32 → Int32 → fl_I → fl_L → fl_I × fl_L) (x1 : Int32) (x2 : Int32) (x3 : Int32) (s : fl_I) (l : fl_L) : fl_I × fl_L :=
    f_X12_tellLaw_120 fu K12 x1 x2 x3 (f_X12_term fu s l).1 (f_X12_term fu s l).2

def p_X12_tellLaw_116 (fu : Nat) (P12 : Int32 → Int32 → Int32 → fl_I → fl_L → Prop) (x1 : Int32) (x2 : Int32) (x3 : Int32) (s : fl_I) (l : fl_L) : Prop :=
    (p_X12_term fu s l) ∧ p_X12_tellLaw_120 fu P12 x1 x2 x3 (f_X12_term fu s l).1 (f_X12_term fu s l).2

set_option maxRecDepth 100000 in
set_option maxHeartbeats 1000000 in
theorem lp_X12_tellLaw_116 {G : ab_G} {fu : Nat} {d : Nat} {D : fl_D} (K12 : Int32 → Int32 → Int32 → fl_I → fl_L → fl_I × fl_L) (P12 : Int32 → Int32 → Int32 → fl_I → fl_L → Prop) (hK12 : ∀ (x1 : Int32) (x2 : Int32) (x3 : Int32) (s : fl_I) (l : fl_L), P12 x1 x2 x3 s l → ab_C G (d + 5) 0 0 M_X12_tellLaw 12 [some (.ref 60), some (.int x1), some (.int x2), some (.int x3)] [] (hp D s l) (rt none (hp D (K12 x1 x2 x3 s l).1 (K12 x1 x2 x3 s l).2))) : ∀ (x1 : Int32) (x2 : Int32) (x3 : Int32) (s : fl_I) (l : fl_L), p_X12_tellLaw_116 fu P12 x1 x2 x3 s l → ab_C G (d + 5) 0 0 M_X12_tellLaw 116 [some (.ref 60), some (.int x1), some (.int x2), some (.int x3)] [] (hp D s l) (rt none (hp D (f_X12_tellLaw_116 fu K12 x1 x2 x3 s l).1 (f_X12_tellLaw_116 fu K12 x1 x2 x3 s l).2)) := by
  intro x1 x2 x3 s l hk
  generalize he : f_X12_tellLaw_116 fu K12 x1 x2 x3 s l = res
  unfold f_X12_tellLaw_116 at he
  unfold p_X12_tellLaw_116 at hk
  refine r_aload_n rfl rfl ?_
  obtain ⟨hb14, hk⟩ := hk
  refine q_callV0 [] _ rfl kY_X12_term kT_X12_term rfl rfl (Nat.le_of_ble_eq_true rfl) (Nat.le_of_ble_eq_true rfl) (cc_60 _) (s_X12_term hb14) (fun r h q => ?_)
  obtain ⟨rfl, rfl⟩ := q
  simp only [Option.toList, List.cons_append, List.nil_append]
  subst he
  exact r_weak (L1 := [some (.ref 60), some (.int x1), some (.int x2), some (.int x3)]) ⟨rfl, rfl, rfl, rfl, trivial⟩ (lp_X12_tellLaw_120 _ _ hK12 _ _ _ _ _ hk)

def f_X12_tellLaw_110 (fu : Nat) (K12 : Int32 → Int32 → Int32 → fl_I → fl_L → fl_I × fl_L) (x1 : Int32) (x2 : Int32) (x3 : Int32) (s : fl_I) (l : fl_L) : fl_I × fl_L :=
    f_X12_tellLaw_116 fu K12 x1 x2 x3 (f_X12_must fu (30 : Int32) s l).1 (f_X12_must fu (30 : Int32) s l).2

def p_X12_tellLaw_110 (fu : Nat) (P12 : Int32 → Int32 → Int32 → fl_I → fl_L → Prop) (x1 : Int32) (x2 : Int32) (x3 : Int32) (s : fl_I) (l : fl_L) : Prop :=
    (p_X12_must fu (30 : Int32) s l) ∧ p_X12_tellLaw_116 fu P12 x1 x2 x3 (f_X12_must fu (30 : Int32) s l).1 (f_X12_must fu (30 : Int32) s l).2

set_option maxRecDepth 100000 in
set_option maxHeartbeats 1000000 in
theorem lp_X12_tellLaw_110 {G : ab_G} {fu : Nat} {d : Nat} {D : fl_D} (K12 : Int32 → Int32 → Int32 → fl_I → fl_L → fl_I × fl_L) (P12 : Int32 → Int32 → Int32 → fl_I → fl_L → Prop) (hK12 : ∀ (x1 : Int32) (x2 : Int32) (x3 : Int32) (s : fl_I) (l : fl_L), P12 x1 x2 x3 s l → ab_C G (d + 5) 0 0 M_X12_tellLaw 12 [some (.ref 60), some (.int x1), some (.int x2), some (.int x3)] [] (hp D s l) (rt none (hp D (K12 x1 x2 x3 s l).1 (K12 x1 x2 x3 s l).2))) : ∀ (x1 : Int32) (x2 : Int32) (x3 : Int32) (s : fl_I) (l : fl_L), p_X12_tellLaw_110 fu P12 x1 x2 x3 s l → ab_C G (d + 5) 0 0 M_X12_tellLaw 110 [some (.ref 60), some (.int x1), some (.int x2), some (.int x3)] [] (hp D s l) (rt none (hp D (f_X12_tellLaw_110 fu K12 x1 x2 x3 s l).1 (f_X12_tellLaw_110 fu K12 x1 x2 x3 s l).2)) := by
  intro x1 x2 x3 s l hk
  generalize he : f_X12_tellLaw_110 fu K12 x1 x2 x3 s l = res
  unfold f_X12_tellLaw_110 at he
  unfold p_X12_tellLaw_110 at hk
  refine r_aload_n rfl rfl ?_
  refine r_bipush_ (a := 30) rfl (by decide) ?_
  obtain ⟨hb13, hk⟩ := hk
  refine q_callV0 [_] _ rfl kY_X12_must kT_X12_must rfl rfl (Nat.le_of_ble_eq_true rfl) (Nat.le_of_ble_eq_true rfl) (cc_60 _) (s_X12_must hb13) (fun r h q => ?_)
  obtain ⟨rfl, rfl⟩ := q
  simp only [Option.toList, List.cons_append, List.nil_append]
  subst he
  exact r_weak (L1 := [some (.ref 60), some (.int x1), some (.int x2), some (.int x3)]) ⟨rfl, rfl, rfl, rfl, trivial⟩ (lp_X12_tellLaw_116 _ _ hK12 _ _ _ _ _ hk)

def f_X12_tellLaw_86 (fu : Nat) (K12 : Int32 → Int32 → Int32 → fl_I → fl_L → fl_I × fl_L) (x1 : Int32) (x2 : Int32) (x3 : Int32) (s : fl_I) (l : fl_L) : fl_I × fl_L :=
    if (((wi s 86 (s 60 36).toNatClampNeg (s 60 42)) 60 13) = 0) then f_X12_tellLaw_110 fu K12 x1 x2 x3 (f_X12_expression fu (wi s 86 (s 60 36).toNatClampNeg (s 60 42)) l).1 (f_X12_expression fu (wi s 86 (s 60 36).toNatClampNeg (s 60 42)) l).2 else f_X12_tellLaw_110 fu K12 x1 x2 x3 (wi s 86 (s 60 36).toNatClampNeg (s 60 42)) l

def p_X12_tellLaw_86 (fu : Nat) (P12 : Int32 → Int32 → Int32 → fl_I → fl_L → Prop) (x1 : Int32) (x2 : Int32) (x3 : Int32) (s : fl_I) (l : fl_L) : Prop :=
    (vp_in (s 60 36) 260) ∧ (((((wi s 86 (s 60 36).toNatClampNeg (s 60 42)) 60 13) = 0) → (p_X12_expression fu (wi s 86 (s 60 36).toNatClampNeg (s 60 42)) l) ∧ p_X12_tellLaw_110 fu P12 x1 x2 x3 (f_X12_expression fu (wi s 86 (s 60 36).toNatClampNeg (s 60 42)) l).1 (f_X12_expression fu (wi s 86 (s 60 36).toNatClampNeg (s 60 42)) l).2) ∧ (¬ (((wi s 86 (s 60 36).toNatClampNeg (s 60 42)) 60 13) = 0) → p_X12_tellLaw_110 fu P12 x1 x2 x3 (wi s 86 (s 60 36).toNatClampNeg (s 60 42)) l))

set_option maxRecDepth 100000 in
set_option maxHeartbeats 1000000 in
theorem lp_X12_tellLaw_86 {G : ab_G} {fu : Nat} {d : Nat} {D : fl_D} (K12 : Int32 → Int32 → Int32 → fl_I → fl_L → fl_I × fl_L) (P12 : Int32 → Int32 → Int32 → fl_I → fl_L → Prop) (hK12 : ∀ (x1 : Int32) (x2 : Int32) (x3 : Int32) (s : fl_I) (l : fl_L), P12 x1 x2 x3 s l → ab_C G (d + 5) 0 0 M_X12_tellLaw 12 [some (.ref 60), some (.int x1), some (.int x2), some (.int x3)] [] (hp D s l) (rt none (hp D (K12 x1 x2 x3 s l).1 (K12 x1 x2 x3 s l).2))) : ∀ (x1 : Int32) (x2 : Int32) (x3 : Int32) (s : fl_I) (l : fl_L), p_X12_tellLaw_86 fu P12 x1 x2 x3 s l → ab_C G (d + 5) 0 0 M_X12_tellLaw 86 [some (.ref 60), some (.int x1), some (.int x2), some (.int x3)] [] (hp D s l) (rt none (hp D (f_X12_tellLaw_86 fu K12 x1 x2 x3 s l).1 (f_X12_tellLaw_86 fu K12 x1 x2 x3 s l).2)) := by
  intro x1 x2 x3 s l hk
  generalize he : f_X12_tellLaw_86 fu K12 x1 x2 x3 s l = res
  unfold f_X12_tellLaw_86 at he
  unfold p_X12_tellLaw_86 at hk
  refine r_aload_n rfl rfl ?_
  refine q_getfield rfl (cc_60 _) rfl ?_
  refine r_aload_n rfl rfl ?_
  refine q_getfield rfl (cc_60 _) rfl ?_
  refine r_aload_n rfl rfl ?_
  refine q_getfield rfl (cc_60 _) rfl ?_
  obtain ⟨hb12, hk⟩ := hk
  refine w_iast rfl (cc_86 _) hb12 ?_
  refine r_aload_n rfl rfl ?_
  refine q_getfield rfl (cc_60 _) rfl ?_
  refine r_if_ne rfl (fun c_103 => ?_) (fun c_103 => ?_)
  · rw [if_neg c_103] at he
    replace hk := hk.2 c_103
    subst he
    exact r_weak (L1 := [some (.ref 60), some (.int x1), some (.int x2), some (.int x3)]) ⟨rfl, rfl, rfl, rfl, trivial⟩ (lp_X12_tellLaw_110 _ _ hK12 _ _ _ _ _ hk)
  · rw [if_pos c_103] at he
    replace hk := hk.1 c_103
    refine r_aload_n rfl rfl ?_
    obtain ⟨hb16, hk⟩ := hk
    refine q_callV0 [] _ rfl kY_X12_expression kT_X12_expression rfl rfl (Nat.le_of_ble_eq_true rfl) (Nat.le_of_ble_eq_true rfl) (cc_60 _) (s_X12_expression hb16) (fun r h q => ?_)
    obtain ⟨rfl, rfl⟩ := q
    simp only [Option.toList, List.cons_append, List.nil_append]
    subst he
    exact r_weak (L1 := [some (.ref 60), some (.int x1), some (.int x2), some (.int x3)]) ⟨rfl, rfl, rfl, rfl, trivial⟩ (lp_X12_tellLaw_110 _ _ hK12 _ _ _ _ _ hk)

def f_X12_tellLaw_80 (fu : Nat) (K12 : Int32 → Int32 → Int32 → fl_I → fl_L → fl_I × fl_L) (x1 : Int32) (x2 : Int32) (x3 : Int32) (s : fl_I) (l : fl_L) : fl_I × fl_L :=
    f_X12_tellLaw_86 fu K12 x1 x2 x3 (f_X12_must fu (13 : Int32) s l).1 (f_X12_must fu (13 : Int32) s l).2

def p_X12_tellLaw_80 (fu : Nat) (P12 : Int32 → Int32 → Int32 → fl_I → fl_L → Prop) (x1 : Int32) (x2 : Int32) (x3 : Int32) (s : fl_I) (l : fl_L) : Prop :=
    (p_X12_must fu (13 : Int32) s l) ∧ p_X12_tellLaw_86 fu P12 x1 x2 x3 (f_X12_must fu (13 : Int32) s l).1 (f_X12_must fu (13 : Int32) s l).2

set_option maxRecDepth 100000 in
set_option maxHeartbeats 1000000 in
theorem lp_X12_tellLaw_80 {G : ab_G} {fu : Nat} {d : Nat} {D : fl_D} (K12 : Int32 → Int32 → Int32 → fl_I → fl_L → fl_I × fl_L) (P12 : Int32 → Int32 → Int32 → fl_I → fl_L → Prop) (hK12 : ∀ (x1 : Int32) (x2 : Int32) (x3 : Int32) (s : fl_I) (l : fl_L), P12 x1 x2 x3 s l → ab_C G (d + 5) 0 0 M_X12_tellLaw 12 [some (.ref 60), some (.int x1), some (.int x2), some (.int x3)] [] (hp D s l) (rt none (hp D (K12 x1 x2 x3 s l).1 (K12 x1 x2 x3 s l).2))) : ∀ (x1 : Int32) (x2 : Int32) (x3 : Int32) (s : fl_I) (l : fl_L), p_X12_tellLaw_80 fu P12 x1 x2 x3 s l → ab_C G (d + 5) 0 0 M_X12_tellLaw 80 [some (.ref 60), some (.int x1), some (.int x2), some (.int x3)] [] (hp D s l) (rt none (hp D (f_X12_tellLaw_80 fu K12 x1 x2 x3 s l).1 (f_X12_tellLaw_80 fu K12 x1 x2 x3 s l).2)) := by
  intro x1 x2 x3 s l hk
  generalize he : f_X12_tellLaw_80 fu K12 x1 x2 x3 s l = res
  unfold f_X12_tellLaw_80 at he
  unfold p_X12_tellLaw_80 at hk
  refine r_aload_n rfl rfl ?_
  refine r_bipush_ (a := 13) rfl (by decide) ?_
  obtain ⟨hb11, hk⟩ := hk
  refine q_callV0 [_] _ rfl kY_X12_must kT_X12_must rfl rfl (Nat.le_of_ble_eq_true rfl) (Nat.le_of_ble_eq_true rfl) (cc_60 _) (s_X12_must hb11) (fun r h q => ?_)
  obtain ⟨rfl, rfl⟩ := q
  simp only [Option.toList, List.cons_append, List.nil_append]
  subst he
  exact r_weak (L1 := [some (.ref 60), some (.int x1), some (.int x2), some (.int x3)]) ⟨rfl, rfl, rfl, rfl, trivial⟩ (lp_X12_tellLaw_86 _ _ hK12 _ _ _ _ _ hk)

def f_X12_tellLaw_53 (fu : Nat) (K12 : Int32 → Int32 → Int32 → fl_I → fl_L → fl_I × fl_L) (x1 : Int32) (x2 : Int32) (x3 : Int32) (s : fl_I) (l : fl_L) : fl_I × fl_L :=
    f_X12_tellLaw_80 fu K12 x1 x2 x3 (f_X12_expression fu (wi (wi s 84 (s 60 36).toNatClampNeg (vp_nar .boolean (1 : Int32))) 85 ((wi s 84 (s 60 36).toNatClampNeg (vp_nar .boolean (1 : Int32))) 60 36).toNatClampNeg ((wi s 84 (s 60 36).toNatClampNeg (vp_nar .boolean (1 : Int32))) 60 42)) l).1 (f_X12_expression fu (wi (wi s 84 (s 60 36).toNatClampNeg (vp_nar .boolean (1 : Int32))) 85 ((wi s 84 (s 60 36).toNatClampNeg (vp_nar .boolean (1 : Int32))) 60 36).toNatClampNeg ((wi s 84 (s 60 36).toNatClampNeg (vp_nar .boolean (1 : Int32))) 60 42)) l).2

def p_X12_tellLaw_53 (fu : Nat) (P12 : Int32 → Int32 → Int32 → fl_I → fl_L → Prop) (x1 : Int32) (x2 : Int32) (x3 : Int32) (s : fl_I) (l : fl_L) : Prop :=
    (vp_in (s 60 36) 260) ∧ (vp_in ((wi s 84 (s 60 36).toNatClampNeg (vp_nar .boolean (1 : Int32))) 60 36) 260) ∧ (p_X12_expression fu (wi (wi s 84 (s 60 36).toNatClampNeg (vp_nar .boolean (1 : Int32))) 85 ((wi s 84 (s 60 36).toNatClampNeg (vp_nar .boolean (1 : Int32))) 60 36).toNatClampNeg ((wi s 84 (s 60 36).toNatClampNeg (vp_nar .boolean (1 : Int32))) 60 42)) l) ∧ p_X12_tellLaw_80 fu P12 x1 x2 x3 (f_X12_expression fu (wi (wi s 84 (s 60 36).toNatClampNeg (vp_nar .boolean (1 : Int32))) 85 ((wi s 84 (s 60 36).toNatClampNeg (vp_nar .boolean (1 : Int32))) 60 36).toNatClampNeg ((wi s 84 (s 60 36).toNatClampNeg (vp_nar .boolean (1 : Int32))) 60 42)) l).1 (f_X12_expression fu (wi (wi s 84 (s 60 36).toNatClampNeg (vp_nar .boolean (1 : Int32))) 85 ((wi s 84 (s 60 36).toNatClampNeg (vp_nar .boolean (1 : Int32))) 60 36).toNatClampNeg ((wi s 84 (s 60 36).toNatClampNeg (vp_nar .boolean (1 : Int32))) 60 42)) l).2

set_option maxRecDepth 100000 in
set_option maxHeartbeats 1000000 in
theorem lp_X12_tellLaw_53 {G : ab_G} {fu : Nat} {d : Nat} {D : fl_D} (K12 : Int32 → Int32 → Int32 → fl_I → fl_L → fl_I × fl_L) (P12 : Int32 → Int32 → Int32 → fl_I → fl_L → Prop) (hK12 : ∀ (x1 : Int32) (x2 : Int32) (x3 : Int32) (s : fl_I) (l : fl_L), P12 x1 x2 x3 s l → ab_C G (d + 5) 0 0 M_X12_tellLaw 12 [some (.ref 60), some (.int x1), some (.int x2), some (.int x3)] [] (hp D s l) (rt none (hp D (K12 x1 x2 x3 s l).1 (K12 x1 x2 x3 s l).2))) : ∀ (x1 : Int32) (x2 : Int32) (x3 : Int32) (s : fl_I) (l : fl_L), p_X12_tellLaw_53 fu P12 x1 x2 x3 s l → ab_C G (d + 5) 0 0 M_X12_tellLaw 53 [some (.ref 60), some (.int x1), some (.int x2), some (.int x3)] [] (hp D s l) (rt none (hp D (f_X12_tellLaw_53 fu K12 x1 x2 x3 s l).1 (f_X12_tellLaw_53 fu K12 x1 x2 x3 s l).2)) := by
  intro x1 x2 x3 s l hk
  generalize he : f_X12_tellLaw_53 fu K12 x1 x2 x3 s l = res
  unfold f_X12_tellLaw_53 at he
  unfold p_X12_tellLaw_53 at hk
  refine r_aload_n rfl rfl ?_
  refine q_getfield rfl (cc_60 _) rfl ?_
  refine r_aload_n rfl rfl ?_
  refine q_getfield rfl (cc_60 _) rfl ?_
  refine r_iconst_ (a := 1) rfl (by decide) ?_
  obtain ⟨hb8, hk⟩ := hk
  refine w_zast rfl (cc_84 _) hb8 ?_
  refine r_aload_n rfl rfl ?_
  refine q_getfield rfl (cc_60 _) rfl ?_
  refine r_aload_n rfl rfl ?_
  refine q_getfield rfl (cc_60 _) rfl ?_
  refine r_aload_n rfl rfl ?_
  refine q_getfield rfl (cc_60 _) rfl ?_
  obtain ⟨hb9, hk⟩ := hk
  refine w_iast rfl (cc_85 _) hb9 ?_
  refine r_aload_n rfl rfl ?_
  obtain ⟨hb10, hk⟩ := hk
  refine q_callV0 [] _ rfl kY_X12_expression kT_X12_expression rfl rfl (Nat.le_of_ble_eq_true rfl) (Nat.le_of_ble_eq_true rfl) (cc_60 _) (s_X12_expression hb10) (fun r h q => ?_)
  obtain ⟨rfl, rfl⟩ := q
  simp only [Option.toList, List.cons_append, List.nil_append]
  subst he
  exact r_weak (L1 := [some (.ref 60), some (.int x1), some (.int x2), some (.int x3)]) ⟨rfl, rfl, rfl, rfl, trivial⟩ (lp_X12_tellLaw_80 _ _ hK12 _ _ _ _ _ hk)

def f_X12_tellLaw_38 (fu : Nat) (K12 : Int32 → Int32 → Int32 → fl_I → fl_L → fl_I × fl_L) (x1 : Int32) (x2 : Int32) (x3 : Int32) (s : fl_I) (l : fl_L) : fl_I × fl_L :=
    if ((s 60 13) ≤ 0) then f_X12_tellLaw_53 fu K12 x1 x2 (x3 + 1) (f_X12_goesOn fu s l).1 (f_X12_goesOn fu s l).2 else (s, l)

def p_X12_tellLaw_38 (fu : Nat) (P12 : Int32 → Int32 → Int32 → fl_I → fl_L → Prop) (x1 : Int32) (x2 : Int32) (x3 : Int32) (s : fl_I) (l : fl_L) : Prop :=
    ((((s 60 13) ≤ 0) → (p_X12_goesOn fu s l) ∧ p_X12_tellLaw_53 fu P12 x1 x2 (x3 + 1) (f_X12_goesOn fu s l).1 (f_X12_goesOn fu s l).2) ∧ (¬ ((s 60 13) ≤ 0) → True))

set_option maxRecDepth 100000 in
set_option maxHeartbeats 1000000 in
theorem lp_X12_tellLaw_38 {G : ab_G} {fu : Nat} {d : Nat} {D : fl_D} (K12 : Int32 → Int32 → Int32 → fl_I → fl_L → fl_I × fl_L) (P12 : Int32 → Int32 → Int32 → fl_I → fl_L → Prop) (hK12 : ∀ (x1 : Int32) (x2 : Int32) (x3 : Int32) (s : fl_I) (l : fl_L), P12 x1 x2 x3 s l → ab_C G (d + 5) 0 0 M_X12_tellLaw 12 [some (.ref 60), some (.int x1), some (.int x2), some (.int x3)] [] (hp D s l) (rt none (hp D (K12 x1 x2 x3 s l).1 (K12 x1 x2 x3 s l).2))) : ∀ (x1 : Int32) (x2 : Int32) (x3 : Int32) (s : fl_I) (l : fl_L), p_X12_tellLaw_38 fu P12 x1 x2 x3 s l → ab_C G (d + 5) 0 0 M_X12_tellLaw 38 [some (.ref 60), some (.int x1), some (.int x2), some (.int x3)] [] (hp D s l) (rt none (hp D (f_X12_tellLaw_38 fu K12 x1 x2 x3 s l).1 (f_X12_tellLaw_38 fu K12 x1 x2 x3 s l).2)) := by
  intro x1 x2 x3 s l hk
  generalize he : f_X12_tellLaw_38 fu K12 x1 x2 x3 s l = res
  unfold f_X12_tellLaw_38 at he
  unfold p_X12_tellLaw_38 at hk
  refine r_aload_n rfl rfl ?_
  refine q_getfield rfl (cc_60 _) rfl ?_
  refine r_if_le rfl (fun c_42 => ?_) (fun c_42 => ?_)
  · rw [if_pos c_42] at he
    replace hk := hk.1 c_42
    refine r_iinc (b := x3 + 1) rfl rfl rfl (Nat.le_of_ble_eq_true rfl) rfl ?_
    refine r_aload_n rfl rfl ?_
    obtain ⟨hb7, hk⟩ := hk
    refine q_callV0 [] _ rfl kY_X12_goesOn kT_X12_goesOn rfl rfl (Nat.le_of_ble_eq_true rfl) (Nat.le_of_ble_eq_true rfl) (cc_60 _) (s_X12_goesOn hb7) (fun r h q => ?_)
    obtain ⟨rfl, rfl⟩ := q
    simp only [Option.toList, List.cons_append, List.nil_append]
    subst he
    exact r_weak (L1 := [some (.ref 60), some (.int x1), some (.int x2), some (.int (x3 + 1))]) ⟨rfl, rfl, rfl, rfl, trivial⟩ (lp_X12_tellLaw_53 _ _ hK12 _ _ _ _ _ hk)
  · rw [if_neg c_42] at he
    replace hk := hk.2 c_42
    refine r_ret rfl rfl ?_
    first | with_reducible exact fin_v he | exact fin_v he

def f_X12_tellLaw_12 (fu : Nat) : Nat → Int32 → Int32 → Int32 → fl_I → fl_L → fl_I × fl_L
  | 0, x1, x2, x3, s, l => (s, l)
  | n + 1, x1, x2, x3, s, l =>
    if ((s 60 13) = 0) then if ((f_X12_is fu (29 : Int32) s l) = 0) then f_X12_tellLaw_129 fu x1 x2 s l else if (x3 = (4 : Int32)) then f_X12_tellLaw_38 fu (fun x1 x2 x3 s l => f_X12_tellLaw_12 fu n x1 x2 x3 s l) x1 x2 x3 (f_X12_fail fu (2 : Int32) s l).1 (f_X12_fail fu (2 : Int32) s l).2 else f_X12_tellLaw_38 fu (fun x1 x2 x3 s l => f_X12_tellLaw_12 fu n x1 x2 x3 s l) x1 x2 x3 s l else f_X12_tellLaw_129 fu x1 x2 s l

def p_X12_tellLaw_12 (fu : Nat) : Nat → Int32 → Int32 → Int32 → fl_I → fl_L → Prop
  | 0, _, _, _, _, _ => False
  | n + 1, x1, x2, x3, s, l =>
    ((((s 60 13) = 0) → (p_X12_is fu (29 : Int32) s l) ∧ ((((f_X12_is fu (29 : Int32) s l) = 0) → p_X12_tellLaw_129 fu x1 x2 s l) ∧ (¬ ((f_X12_is fu (29 : Int32) s l) = 0) → (((x3 = (4 : Int32)) → (p_X12_fail fu (2 : Int32) s l) ∧ p_X12_tellLaw_38 fu (fun x1 x2 x3 s l => p_X12_tellLaw_12 fu n x1 x2 x3 s l) x1 x2 x3 (f_X12_fail fu (2 : Int32) s l).1 (f_X12_fail fu (2 : Int32) s l).2) ∧ (¬ (x3 = (4 : Int32)) → p_X12_tellLaw_38 fu (fun x1 x2 x3 s l => p_X12_tellLaw_12 fu n x1 x2 x3 s l) x1 x2 x3 s l))))) ∧ (¬ ((s 60 13) = 0) → p_X12_tellLaw_129 fu x1 x2 s l))

set_option maxRecDepth 100000 in
set_option maxHeartbeats 1000000 in
theorem lp_X12_tellLaw_12 {G : ab_G} {fu : Nat} {d : Nat} {D : fl_D} : ∀ (n : Nat) (x1 : Int32) (x2 : Int32) (x3 : Int32) (s : fl_I) (l : fl_L), p_X12_tellLaw_12 fu n x1 x2 x3 s l → ab_C G (d + 5) 0 0 M_X12_tellLaw 12 [some (.ref 60), some (.int x1), some (.int x2), some (.int x3)] [] (hp D s l) (rt none (hp D (f_X12_tellLaw_12 fu n x1 x2 x3 s l).1 (f_X12_tellLaw_12 fu n x1 x2 x3 s l).2)) := by
  intro n
  induction n with
  | zero => intro x1 x2 x3 s l hk; exact hk.elim
  | succ n ih =>
    intro x1 x2 x3 s l hk
    generalize he : f_X12_tellLaw_12 fu (n + 1) x1 x2 x3 s l = res
    unfold f_X12_tellLaw_12 at he
    unfold p_X12_tellLaw_12 at hk
    refine r_aload_n rfl rfl ?_
    refine q_getfield rfl (cc_60 _) rfl ?_
    refine r_if_ne rfl (fun c_16 => ?_) (fun c_16 => ?_)
    · rw [if_neg c_16] at he
      replace hk := hk.2 c_16
      subst he
      exact r_weak (L1 := [some (.ref 60), some (.int x1), some (.int x2), none]) ⟨rfl, rfl, rfl, trivial⟩ (lp_X12_tellLaw_129 _ _ _ _ hk)
    · rw [if_pos c_16] at he
      replace hk := hk.1 c_16
      refine r_aload_n rfl rfl ?_
      refine r_bipush_ (a := 29) rfl (by decide) ?_
      obtain ⟨hb6, hk⟩ := hk
      refine q_callV0 [_] _ rfl kY_X12_is kT_X12_is rfl rfl (Nat.le_of_ble_eq_true rfl) (Nat.le_of_ble_eq_true rfl) (cc_60 _) (s_X12_is hb6) (fun r h q => ?_)
      obtain ⟨rfl, rfl⟩ := q
      simp only [Option.toList, List.cons_append, List.nil_append]
      refine r_if_eq rfl (fun c_25 => ?_) (fun c_25 => ?_)
      · rw [if_pos c_25] at he
        replace hk := hk.1 c_25
        subst he
        exact r_weak (L1 := [some (.ref 60), some (.int x1), some (.int x2), none]) ⟨rfl, rfl, rfl, trivial⟩ (lp_X12_tellLaw_129 _ _ _ _ hk)
      · rw [if_neg c_25] at he
        replace hk := hk.2 c_25
        refine r_iload_n rfl rfl ?_
        refine r_iconst_ (a := 4) rfl (by decide) ?_
        refine r_icmp_ne rfl (fun c_30 => ?_) (fun c_30 => ?_)
        · rw [if_neg c_30] at he
          replace hk := hk.2 c_30
          subst he
          exact r_weak (L1 := [some (.ref 60), some (.int x1), some (.int x2), some (.int x3)]) ⟨rfl, rfl, rfl, rfl, trivial⟩ (lp_X12_tellLaw_38 _ _ (fun _ _ _ _ _ h9 => ih _ _ _ _ _ h9) _ _ _ _ _ hk)
        · rw [if_pos c_30] at he
          replace hk := hk.1 c_30
          refine r_aload_n rfl rfl ?_
          refine r_iconst_ (a := 2) rfl (by decide) ?_
          obtain ⟨hb17, hk⟩ := hk
          refine q_callV0 [_] _ rfl kY_X12_fail kT_X12_fail rfl rfl (Nat.le_of_ble_eq_true rfl) (Nat.le_of_ble_eq_true rfl) (cc_60 _) (s_X12_fail hb17) (fun r h q => ?_)
          obtain ⟨rfl, rfl⟩ := q
          simp only [Option.toList, List.cons_append, List.nil_append]
          subst he
          exact r_weak (L1 := [some (.ref 60), some (.int x1), some (.int x2), some (.int x3)]) ⟨rfl, rfl, rfl, rfl, trivial⟩ (lp_X12_tellLaw_38 _ _ (fun _ _ _ _ _ h9 => ih _ _ _ _ _ h9) _ _ _ _ _ hk)

def f_X12_tellLaw_5 (fu : Nat) (x1 : Int32) (s : fl_I) (l : fl_L) : fl_I × fl_L :=
    f_X12_tellLaw_12 fu fu x1 (s 60 36) (0 : Int32) s l

def p_X12_tellLaw_5 (fu : Nat) (x1 : Int32) (s : fl_I) (l : fl_L) : Prop :=
    p_X12_tellLaw_12 fu fu x1 (s 60 36) (0 : Int32) s l

set_option maxRecDepth 100000 in
set_option maxHeartbeats 1000000 in
theorem lp_X12_tellLaw_5 {G : ab_G} {fu : Nat} {d : Nat} {D : fl_D} : ∀ (x1 : Int32) (s : fl_I) (l : fl_L), p_X12_tellLaw_5 fu x1 s l → ab_C G (d + 5) 0 0 M_X12_tellLaw 5 [some (.ref 60), some (.int x1), none, none] [] (hp D s l) (rt none (hp D (f_X12_tellLaw_5 fu x1 s l).1 (f_X12_tellLaw_5 fu x1 s l).2)) := by
  intro x1 s l hk
  generalize he : f_X12_tellLaw_5 fu x1 s l = res
  unfold f_X12_tellLaw_5 at he
  unfold p_X12_tellLaw_5 at hk
  refine r_aload_n rfl rfl ?_
  refine q_getfield rfl (cc_60 _) rfl ?_
  refine r_istore_n rfl (Nat.le_of_ble_eq_true rfl) rfl ?_
  refine r_iconst_ (a := 0) rfl (by decide) ?_
  refine r_istore_n rfl (Nat.le_of_ble_eq_true rfl) rfl ?_
  subst he
  exact r_weak (L1 := [some (.ref 60), some (.int x1), some (.int (s 60 36)), some (.int (0 : Int32))]) ⟨rfl, rfl, rfl, rfl, trivial⟩ (lp_X12_tellLaw_12 fu _ _ _ _ _ hk)

def f_X12_tellLaw (fu : Nat) (v0 : Int32) (s : fl_I) (l : fl_L) : fl_I × fl_L :=
  f_X12_tellLaw_5 fu v0 (f_X12_must fu (5 : Int32) s l).1 (f_X12_must fu (5 : Int32) s l).2

def p_X12_tellLaw (fu : Nat) (v0 : Int32) (s : fl_I) (l : fl_L) : Prop :=
  (p_X12_must fu (5 : Int32) s l) ∧ p_X12_tellLaw_5 fu v0 (f_X12_must fu (5 : Int32) s l).1 (f_X12_must fu (5 : Int32) s l).2

set_option maxRecDepth 100000 in
set_option maxHeartbeats 1000000 in
theorem s_X12_tellLaw {G : ab_G} {fu : Nat} {d : Nat} {D : fl_D} {s : fl_I} {l : fl_L} {v0 : Int32} (hk : p_X12_tellLaw fu v0 s l) : ab_C G (d + 5) 0 0 M_X12_tellLaw 0 (ab_ent [.ref 60, .int v0]) [] (hp D s l) (rt none (hp D (f_X12_tellLaw fu v0 s l).1 (f_X12_tellLaw fu v0 s l).2)) := by
  generalize he : (f_X12_tellLaw fu v0 s l) = res
  unfold f_X12_tellLaw at he
  unfold p_X12_tellLaw at hk
  refine r_weak (L1 := [some (.ref 60), some (.int v0), none, none]) ⟨rfl, rfl, trivial⟩ ?_
  refine r_aload_n rfl rfl ?_
  refine r_iconst_ (a := 5) rfl (by decide) ?_
  obtain ⟨hb0, hk⟩ := hk
  refine q_callV0 [_] _ rfl kY_X12_must kT_X12_must rfl rfl (Nat.le_of_ble_eq_true rfl) (Nat.le_of_ble_eq_true rfl) (cc_60 _) (s_X12_must hb0) (fun r h q => ?_)
  obtain ⟨rfl, rfl⟩ := q
  simp only [Option.toList, List.cons_append, List.nil_append]
  subst he
  exact r_weak (L1 := [some (.ref 60), some (.int v0), none, none]) ⟨rfl, rfl, trivial⟩ (lp_X12_tellLaw_5 _ _ _ hk)

