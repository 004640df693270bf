def f_X12_expression_272 (fu : Nat) (s : fl_I) (l : fl_L) : fl_I × fl_L :=
    (s, l)

def p_X12_expression_272 (fu : Nat) (s : fl_I) (l : fl_L) : Prop :=
    True

set_option maxRecDepth 100000 in
set_option maxHeartbeats 1000000 in
theorem lp_X12_expression_272 {G : ab_G} {fu : Nat} {d : Nat} {D : fl_D} : ∀ (s : fl_I) (l : fl_L), p_X12_expression_272 fu  s l → ab_C G (d + 3) 0 0 M_X12_expression 272 [none, none, none] [] (hp D s l) (rt none (hp D (f_X12_expression_272 fu  s l).1 (f_X12_expression_272 fu  s l).2)) := by
  intro  s l hk
  generalize he : f_X12_expression_272 fu  s l = res
  unfold f_X12_expression_272 at he
  unfold p_X12_expression_272 at hk
  refine r_ret rfl rfl ?_
  first | with_reducible exact fin_v he | exact fin_v he

def f_X12_expression_269 (fu : Nat) (K12 : Int32 → Int32 → fl_I → fl_L → fl_I × fl_L) (x1 : Int32) (x2 : Int32) (s : fl_I) (l : fl_L) : fl_I × fl_L :=
    K12 x1 x2 s l

def p_X12_expression_269 (fu : Nat) (P12 : Int32 → Int32 → fl_I → fl_L → Prop) (x1 : Int32) (x2 : Int32) (s : fl_I) (l : fl_L) : Prop :=
    P12 x1 x2 s l

set_option maxRecDepth 100000 in
set_option maxHeartbeats 1000000 in
theorem lp_X12_expression_269 {G : ab_G} {fu : Nat} {d : Nat} {D : fl_D} (K12 : Int32 → Int32 → fl_I → fl_L → fl_I × fl_L) (P12 : Int32 → Int32 → fl_I → fl_L → Prop) (hK12 : ∀ (x1 : Int32) (x2 : Int32) (s : fl_I) (l : fl_L), P12 x1 x2 s l → ab_C G (d + 3) 0 0 M_X12_expression 12 [some (.ref 60), some (.int x1), some (.int x2)] [] (hp D s l) (rt none (hp D (K12 x1 x2 s l).1 (K12 x1 x2 s l).2))) : ∀ (x1 : Int32) (x2 : Int32) (s : fl_I) (l : fl_L), p_X12_expression_269 fu P12 x1 x2 s l → ab_C G (d + 3) 0 0 M_X12_expression 269 [some (.ref 60), some (.int x1), some (.int x2)] [] (hp D s l) (rt none (hp D (f_X12_expression_269 fu K12 x1 x2 s l).1 (f_X12_expression_269 fu K12 x1 x2 s l).2)) := by
  intro x1 x2 s l hk
  generalize he : f_X12_expression_269 fu K12 x1 x2 s l = res
  unfold f_X12_expression_269 at he
  unfold p_X12_expression_269 at hk
  refine r_goto rfl ?_
  subst he
  exact r_weak (L1 := [some (.ref 60), some (.int x1), some (.int x2)]) ⟨rfl, rfl, rfl, trivial⟩ (hK12 _ _ _ _ hk)

def f_X12_expression_237 (fu : Nat) (K12 : Int32 → Int32 → fl_I → fl_L → fl_I × fl_L) (x1 : Int32) (x2 : Int32) (s : fl_I) (l : fl_L) : fl_I × fl_L :=
    f_X12_expression_269 fu K12 x1 x2 (f_X12_goesOn fu (wi (wi s 91 (s 60 46).toNatClampNeg (s 63 (s 60 11).toNatClampNeg)) 60 46 (((wi s 91 (s 60 46).toNatClampNeg (s 63 (s 60 11).toNatClampNeg)) 60 46) + (1 : Int32))) l).1 (f_X12_goesOn fu (wi (wi s 91 (s 60 46).toNatClampNeg (s 63 (s 60 11).toNatClampNeg)) 60 46 (((wi s 91 (s 60 46).toNatClampNeg (s 63 (s 60 11).toNatClampNeg)) 60 46) + (1 : Int32))) l).2

def p_X12_expression_237 (fu : Nat) (P12 : Int32 → Int32 → fl_I → fl_L → Prop) (x1 : Int32) (x2 : Int32) (s : fl_I) (l : fl_L) : Prop :=
    (vp_in (s 60 11) 403) ∧ (vp_in (s 60 46) 64) ∧ (p_X12_goesOn fu (wi (wi s 91 (s 60 46).toNatClampNeg (s 63 (s 60 11).toNatClampNeg)) 60 46 (((wi s 91 (s 60 46).toNatClampNeg (s 63 (s 60 11).toNatClampNeg)) 60 46) + (1 : Int32))) l) ∧ p_X12_expression_269 fu P12 x1 x2 (f_X12_goesOn fu (wi (wi s 91 (s 60 46).toNatClampNeg (s 63 (s 60 11).toNatClampNeg)) 60 46 (((wi s 91 (s 60 46).toNatClampNeg (s 63 (s 60 11).toNatClampNeg)) 60 46) + (1 : Int32))) l).1 (f_X12_goesOn fu (wi (wi s 91 (s 60 46).toNatClampNeg (s 63 (s 60 11).toNatClampNeg)) 60 46 (((wi s 91 (s 60 46).toNatClampNeg (s 63 (s 60 11).toNatClampNeg)) 60 46) + (1 : Int32))) l).2

set_option maxRecDepth 100000 in
set_option maxHeartbeats 1000000 in
theorem lp_X12_expression_237 {G : ab_G} {fu : Nat} {d : Nat} {D : fl_D} (K12 : Int32 → Int32 → fl_I → fl_L → fl_I × fl_L) (P12 : Int32 → Int32 → fl_I → fl_L → Prop) (hK12 : ∀ (x1 : Int32) (x2 : Int32) (s : fl_I) (l : fl_L), P12 x1 x2 s l → ab_C G (d + 3) 0 0 M_X12_expression 12 [some (.ref 60), some (.int x1), some (.int x2)] [] (hp D s l) (rt none (hp D (K12 x1 x2 s l).1 (K12 x1 x2 s l).2))) : ∀ (x1 : Int32) (x2 : Int32) (s : fl_I) (l : fl_L), p_X12_expression_237 fu P12 x1 x2 s l → ab_C G (d + 3) 0 0 M_X12_expression 237 [some (.ref 60), some (.int x1), some (.int x2)] [] (hp D s l) (rt none (hp D (f_X12_expression_237 fu K12 x1 x2 s l).1 (f_X12_expression_237 fu K12 x1 x2 s l).2)) := by
  intro x1 x2 s l hk
  generalize he : f_X12_expression_237 fu K12 x1 x2 s l = res
  unfold f_X12_expression_237 at he
  unfold p_X12_expression_237 at hk
  refine r_aload_n rfl rfl ?_
  refine q_getfield rfl (cc_60 _) rfl ?_
  refine r_aload_n rfl rfl ?_
  refine q_getfield rfl (cc_60 _) rfl ?_
  refine r_aload_n rfl rfl ?_
  refine q_getfield rfl (cc_60 _) rfl ?_
  refine r_aload_n rfl rfl ?_
  refine q_getfield rfl (cc_60 _) rfl ?_
  obtain ⟨hb6, hk⟩ := hk
  refine q_iald rfl (cc_63 _) hb6 ?_
  obtain ⟨hb7, hk⟩ := hk
  refine w_iast rfl (cc_91 _) hb7 ?_
  refine r_aload_n rfl rfl ?_
  refine r_dup rfl rfl ?_
  refine q_getfield rfl (cc_60 _) rfl ?_
  refine r_iconst_ (a := 1) rfl (by decide) ?_
  refine r_iadd rfl ?_
  refine w_put rfl (cc_60 _) ff_12_46 ft_12_46 (fun _ _ => (Nat.le_of_ble_eq_true rfl)) (fun _ _ => rfl) ?_
  refine r_aload_n rfl rfl ?_
  obtain ⟨hb8, hk⟩ := hk
  refine q_callV0 [] _ rfl kY_X12_goesOn kT_X12_goesOn rfl rfl (Nat.le_of_ble_eq_true rfl) (Nat.le_of_ble_eq_true rfl) (cc_60 _) (s_X12_goesOn hb8) (fun r h q => ?_)
  obtain ⟨rfl, rfl⟩ := q
  simp only [Option.toList, List.cons_append, List.nil_append]
  subst he
  exact r_weak (L1 := [some (.ref 60), some (.int x1), some (.int x2)]) ⟨rfl, rfl, rfl, trivial⟩ (lp_X12_expression_269 _ _ hK12 _ _ _ _ hk)

def f_X12_expression_209 (fu : Nat) (s : fl_I) (l : fl_L) : fl_I × fl_L :=
    (s, l)

def p_X12_expression_209 (fu : Nat) (s : fl_I) (l : fl_L) : Prop :=
    True

set_option maxRecDepth 100000 in
set_option maxHeartbeats 1000000 in
theorem lp_X12_expression_209 {G : ab_G} {fu : Nat} {d : Nat} {D : fl_D} : ∀ (s : fl_I) (l : fl_L), p_X12_expression_209 fu  s l → ab_C G (d + 3) 0 0 M_X12_expression 209 [none, none, none] [] (hp D s l) (rt none (hp D (f_X12_expression_209 fu  s l).1 (f_X12_expression_209 fu  s l).2)) := by
  intro  s l hk
  generalize he : f_X12_expression_209 fu  s l = res
  unfold f_X12_expression_209 at he
  unfold p_X12_expression_209 at hk
  refine r_ret rfl rfl ?_
  first | with_reducible exact fin_v he | exact fin_v he

def f_X12_expression_204 (fu : Nat) (s : fl_I) (l : fl_L) : fl_I × fl_L :=
    f_X12_expression_209 fu  (f_X12_comesOut fu (0 : Int32) s l).1 (f_X12_comesOut fu (0 : Int32) s l).2

def p_X12_expression_204 (fu : Nat) (s : fl_I) (l : fl_L) : Prop :=
    (p_X12_comesOut fu (0 : Int32) s l) ∧ p_X12_expression_209 fu  (f_X12_comesOut fu (0 : Int32) s l).1 (f_X12_comesOut fu (0 : Int32) s l).2

set_option maxRecDepth 100000 in
set_option maxHeartbeats 1000000 in
theorem lp_X12_expression_204 {G : ab_G} {fu : Nat} {d : Nat} {D : fl_D} : ∀ (s : fl_I) (l : fl_L), p_X12_expression_204 fu  s l → ab_C G (d + 3) 0 0 M_X12_expression 204 [some (.ref 60), none, none] [] (hp D s l) (rt none (hp D (f_X12_expression_204 fu  s l).1 (f_X12_expression_204 fu  s l).2)) := by
  intro  s l hk
  generalize he : f_X12_expression_204 fu  s l = res
  unfold f_X12_expression_204 at he
  unfold p_X12_expression_204 at hk
  refine r_aload_n rfl rfl ?_
  refine r_iconst_ (a := 0) rfl (by decide) ?_
  obtain ⟨hb12, hk⟩ := hk
  refine q_callV0 [_] _ rfl kY_X12_comesOut kT_X12_comesOut rfl rfl (Nat.le_of_ble_eq_true rfl) (Nat.le_of_ble_eq_true rfl) (cc_60 _) (s_X12_comesOut hb12) (fun r h q => ?_)
  obtain ⟨rfl, rfl⟩ := q
  simp only [Option.toList, List.cons_append, List.nil_append]
  subst he
  exact r_weak (L1 := [none, none, none]) trivial (lp_X12_expression_209 _ _ hk)

def f_X12_expression_181 (fu : Nat) (K12 : Int32 → Int32 → fl_I → fl_L → fl_I × fl_L) (x1 : Int32) (s : fl_I) (l : fl_L) : fl_I × fl_L :=
    if ((1 : Int32) = 0) then if ((s 60 12) ≤ x1) then f_X12_expression_204 fu  s l else f_X12_expression_204 fu  (f_X12_fail fu (1 : Int32) s l).1 (f_X12_fail fu (1 : Int32) s l).2 else if ((f_X12_is fu (10 : Int32) s l) = 0) then if ((f_X12_is fu (15 : Int32) s l) = 0) then f_X12_expression_237 fu K12 x1 (1 : Int32) (f_X12_comesOut fu (0 : Int32) s l).1 (f_X12_comesOut fu (0 : Int32) s l).2 else f_X12_expression_237 fu K12 x1 (1 : Int32) (f_X12_comesOut fu (1 : Int32) s l).1 (f_X12_comesOut fu (1 : Int32) s l).2 else f_X12_expression_237 fu K12 x1 (1 : Int32) (f_X12_comesOut fu (1 : Int32) s l).1 (f_X12_comesOut fu (1 : Int32) s l).2

def p_X12_expression_181 (fu : Nat) (P12 : Int32 → Int32 → fl_I → fl_L → Prop) (x1 : Int32) (s : fl_I) (l : fl_L) : Prop :=
    ((((1 : Int32) = 0) → ((((s 60 12) ≤ x1) → p_X12_expression_204 fu  s l) ∧ (¬ ((s 60 12) ≤ x1) → (p_X12_fail fu (1 : Int32) s l) ∧ p_X12_expression_204 fu  (f_X12_fail fu (1 : Int32) s l).1 (f_X12_fail fu (1 : Int32) s l).2))) ∧ (¬ ((1 : Int32) = 0) → (p_X12_is fu (10 : Int32) s l) ∧ ((((f_X12_is fu (10 : Int32) s l) = 0) → (p_X12_is fu (15 : Int32) s l) ∧ ((((f_X12_is fu (15 : Int32) s l) = 0) → (p_X12_comesOut fu (0 : Int32) s l) ∧ p_X12_expression_237 fu P12 x1 (1 : Int32) (f_X12_comesOut fu (0 : Int32) s l).1 (f_X12_comesOut fu (0 : Int32) s l).2) ∧ (¬ ((f_X12_is fu (15 : Int32) s l) = 0) → (p_X12_comesOut fu (1 : Int32) s l) ∧ p_X12_expression_237 fu P12 x1 (1 : Int32) (f_X12_comesOut fu (1 : Int32) s l).1 (f_X12_comesOut fu (1 : Int32) s l).2))) ∧ (¬ ((f_X12_is fu (10 : Int32) s l) = 0) → (p_X12_comesOut fu (1 : Int32) s l) ∧ p_X12_expression_237 fu P12 x1 (1 : Int32) (f_X12_comesOut fu (1 : Int32) s l).1 (f_X12_comesOut fu (1 : Int32) s l).2))))

set_option maxRecDepth 100000 in
set_option maxHeartbeats 1000000 in
theorem lp_X12_expression_181 {G : ab_G} {fu : Nat} {d : Nat} {D : fl_D} (K12 : Int32 → Int32 → fl_I → fl_L → fl_I × fl_L) (P12 : Int32 → Int32 → fl_I → fl_L → Prop) (hK12 : ∀ (x1 : Int32) (x2 : Int32) (s : fl_I) (l : fl_L), P12 x1 x2 s l → ab_C G (d + 3) 0 0 M_X12_expression 12 [some (.ref 60), some (.int x1), some (.int x2)] [] (hp D s l) (rt none (hp D (K12 x1 x2 s l).1 (K12 x1 x2 s l).2))) : ∀ (x1 : Int32) (s : fl_I) (l : fl_L), p_X12_expression_181 fu P12 x1 s l → ab_C G (d + 3) 0 0 M_X12_expression 181 [some (.ref 60), some (.int x1), none] [] (hp D s l) (rt none (hp D (f_X12_expression_181 fu K12 x1 s l).1 (f_X12_expression_181 fu K12 x1 s l).2)) := by
  intro x1 s l hk
  generalize he : f_X12_expression_181 fu K12 x1 s l = res
  unfold f_X12_expression_181 at he
  unfold p_X12_expression_181 at hk
  refine r_iconst_ (a := 1) rfl (by decide) ?_
  refine r_goto rfl ?_
  refine r_istore_n rfl (Nat.le_of_ble_eq_true rfl) rfl ?_
  refine r_iload_n rfl rfl ?_
  refine r_if_ne rfl (fun c_188 => ?_) (fun c_188 => ?_)
  · rw [if_neg c_188] at he
    replace hk := hk.2 c_188
    refine r_aload_n rfl rfl ?_
    refine r_aload_n rfl rfl ?_
    refine r_bipush_ (a := 10) rfl (by decide) ?_
    obtain ⟨hb4, hk⟩ := hk
    refine q_callV0 [_] _ rfl kY_X12_is kT_X12_is rfl rfl (Nat.le_of_ble_eq_true rfl) (Nat.le_of_ble_eq_true rfl) (cc_60 _) (s_X12_is hb4) (fun r h q => ?_)
    obtain ⟨rfl, rfl⟩ := q
    simp only [Option.toList, List.cons_append, List.nil_append]
    refine r_if_ne rfl (fun c_217 => ?_) (fun c_217 => ?_)
    · rw [if_neg c_217] at he
      replace hk := hk.2 c_217
      refine r_iconst_ (a := 1) rfl (by decide) ?_
      refine r_goto rfl ?_
      obtain ⟨hb5, hk⟩ := hk
      refine q_callV0 [_] _ rfl kY_X12_comesOut kT_X12_comesOut rfl rfl (Nat.le_of_ble_eq_true rfl) (Nat.le_of_ble_eq_true rfl) (cc_60 _) (s_X12_comesOut hb5) (fun r h q => ?_)
      obtain ⟨rfl, rfl⟩ := q
      simp only [Option.toList, List.cons_append, List.nil_append]
      subst he
      exact r_weak (L1 := [some (.ref 60), some (.int x1), some (.int (1 : Int32))]) ⟨rfl, rfl, rfl, trivial⟩ (lp_X12_expression_237 _ _ hK12 _ _ _ _ hk)
    · rw [if_pos c_217] at he
      replace hk := hk.1 c_217
      refine r_aload_n rfl rfl ?_
      refine r_bipush_ (a := 15) rfl (by decide) ?_
      obtain ⟨hb9, hk⟩ := hk
      refine q_callV0 [_] _ rfl kY_X12_is kT_X12_is rfl rfl (Nat.le_of_ble_eq_true rfl) (Nat.le_of_ble_eq_true rfl) (cc_60 _) (s_X12_is hb9) (fun r h q => ?_)
      obtain ⟨rfl, rfl⟩ := q
      simp only [Option.toList, List.cons_append, List.nil_append]
      refine r_if_eq rfl (fun c_226 => ?_) (fun c_226 => ?_)
      · rw [if_pos c_226] at he
        replace hk := hk.1 c_226
        refine r_iconst_ (a := 0) rfl (by decide) ?_
        obtain ⟨hb10, hk⟩ := hk
        refine q_callV0 [_] _ rfl kY_X12_comesOut kT_X12_comesOut rfl rfl (Nat.le_of_ble_eq_true rfl) (Nat.le_of_ble_eq_true rfl) (cc_60 _) (s_X12_comesOut hb10) (fun r h q => ?_)
        obtain ⟨rfl, rfl⟩ := q
        simp only [Option.toList, List.cons_append, List.nil_append]
        subst he
        exact r_weak (L1 := [some (.ref 60), some (.int x1), some (.int (1 : Int32))]) ⟨rfl, rfl, rfl, trivial⟩ (lp_X12_expression_237 _ _ hK12 _ _ _ _ hk)
      · rw [if_neg c_226] at he
        replace hk := hk.2 c_226
        refine r_iconst_ (a := 1) rfl (by decide) ?_
        refine r_goto rfl ?_
        obtain ⟨hb11, hk⟩ := hk
        refine q_callV0 [_] _ rfl kY_X12_comesOut kT_X12_comesOut rfl rfl (Nat.le_of_ble_eq_true rfl) (Nat.le_of_ble_eq_true rfl) (cc_60 _) (s_X12_comesOut hb11) (fun r h q => ?_)
        obtain ⟨rfl, rfl⟩ := q
        simp only [Option.toList, List.cons_append, List.nil_append]
        subst he
        exact r_weak (L1 := [some (.ref 60), some (.int x1), some (.int (1 : Int32))]) ⟨rfl, rfl, rfl, trivial⟩ (lp_X12_expression_237 _ _ hK12 _ _ _ _ hk)
  · rw [if_pos c_188] at he
    replace hk := hk.1 c_188
    refine r_aload_n rfl rfl ?_
    refine q_getfield rfl (cc_60 _) rfl ?_
    refine r_iload_n rfl rfl ?_
    refine r_icmp_le rfl (fun c_196 => ?_) (fun c_196 => ?_)
    · rw [if_pos c_196] at he
      replace hk := hk.1 c_196
      subst he
      exact r_weak (L1 := [some (.ref 60), none, none]) ⟨rfl, trivial⟩ (lp_X12_expression_204 _ _ hk)
    · rw [if_neg c_196] at he
      replace hk := hk.2 c_196
      refine r_aload_n rfl rfl ?_
      refine r_iconst_ (a := 1) rfl (by decide) ?_
      obtain ⟨hb13, hk⟩ := hk
      refine q_callV0 [_] _ rfl kY_X12_fail kT_X12_fail rfl rfl (Nat.le_of_ble_eq_true rfl) (Nat.le_of_ble_eq_true rfl) (cc_60 _) (s_X12_fail hb13) (fun r h q => ?_)
      obtain ⟨rfl, rfl⟩ := q
      simp only [Option.toList, List.cons_append, List.nil_append]
      subst he
      exact r_weak (L1 := [some (.ref 60), none, none]) ⟨rfl, trivial⟩ (lp_X12_expression_204 _ _ hk)

def f_X12_expression_145 (fu : Nat) (K12 : Int32 → Int32 → fl_I → fl_L → fl_I × fl_L) (x1 : Int32) (s : fl_I) (l : fl_L) : fl_I × fl_L :=
    if ((f_X12_is fu (8 : Int32) s l) = 0) then if ((f_X12_is fu (9 : Int32) s l) = 0) then if ((f_X12_is fu (10 : Int32) s l) = 0) then if ((f_X12_is fu (15 : Int32) s l) = 0) then if ((0 : Int32) = 0) then if ((s 60 12) ≤ x1) then f_X12_expression_204 fu  s l else f_X12_expression_204 fu  (f_X12_fail fu (1 : Int32) s l).1 (f_X12_fail fu (1 : Int32) s l).2 else if ((f_X12_is fu (10 : Int32) s l) = 0) then if ((f_X12_is fu (15 : Int32) s l) = 0) then f_X12_expression_237 fu K12 x1 (0 : Int32) (f_X12_comesOut fu (0 : Int32) s l).1 (f_X12_comesOut fu (0 : Int32) s l).2 else f_X12_expression_237 fu K12 x1 (0 : Int32) (f_X12_comesOut fu (1 : Int32) s l).1 (f_X12_comesOut fu (1 : Int32) s l).2 else f_X12_expression_237 fu K12 x1 (0 : Int32) (f_X12_comesOut fu (1 : Int32) s l).1 (f_X12_comesOut fu (1 : Int32) s l).2 else f_X12_expression_181 fu K12 x1 s l else f_X12_expression_181 fu K12 x1 s l else f_X12_expression_181 fu K12 x1 s l else f_X12_expression_181 fu K12 x1 s l

def p_X12_expression_145 (fu : Nat) (P12 : Int32 → Int32 → fl_I → fl_L → Prop) (x1 : Int32) (s : fl_I) (l : fl_L) : Prop :=
    (p_X12_is fu (8 : Int32) s l) ∧ ((((f_X12_is fu (8 : Int32) s l) = 0) → (p_X12_is fu (9 : Int32) s l) ∧ ((((f_X12_is fu (9 : Int32) s l) = 0) → (p_X12_is fu (10 : Int32) s l) ∧ ((((f_X12_is fu (10 : Int32) s l) = 0) → (p_X12_is fu (15 : Int32) s l) ∧ ((((f_X12_is fu (15 : Int32) s l) = 0) → ((((0 : Int32) = 0) → ((((s 60 12) ≤ x1) → p_X12_expression_204 fu  s l) ∧ (¬ ((s 60 12) ≤ x1) → (p_X12_fail fu (1 : Int32) s l) ∧ p_X12_expression_204 fu  (f_X12_fail fu (1 : Int32) s l).1 (f_X12_fail fu (1 : Int32) s l).2))) ∧ (¬ ((0 : Int32) = 0) → (p_X12_is fu (10 : Int32) s l) ∧ ((((f_X12_is fu (10 : Int32) s l) = 0) → (p_X12_is fu (15 : Int32) s l) ∧ ((((f_X12_is fu (15 : Int32) s l) = 0) → (p_X12_comesOut fu (0 : Int32) s l) ∧ p_X12_expression_237 fu P12 x1 (0 : Int32) (f_X12_comesOut fu (0 : Int32) s l).1 (f_X12_comesOut fu (0 : Int32) s l).2) ∧ (¬ ((f_X12_is fu (15 : Int32) s l) = 0) → (p_X12_comesOut fu (1 : Int32) s l) ∧ p_X12_expression_237 fu P12 x1 (0 : Int32) (f_X12_comesOut fu (1 : Int32) s l).1 (f_X12_comesOut fu (1 : Int32) s l).2))) ∧ (¬ ((f_X12_is fu (10 : Int32) s l) = 0) → (p_X12_comesOut fu (1 : Int32) s l) ∧ p_X12_expression_237 fu P12 x1 (0 : Int32) (f_X12_comesOut fu (1 : Int32) s l).1 (f_X12_comesOut fu (1 : Int32) s l).2))))) ∧ (¬ ((f_X12_is fu (15 : Int32) s l) = 0) → p_X12_expression_181 fu P12 x1 s l))) ∧ (¬ ((f_X12_is fu (10 : Int32) s l) = 0) → p_X12_expression_181 fu P12 x1 s l))) ∧ (¬ ((f_X12_is fu (9 : Int32) s l) = 0) → p_X12_expression_181 fu P12 x1 s l))) ∧ (¬ ((f_X12_is fu (8 : Int32) s l) = 0) → p_X12_expression_181 fu P12 x1 s l))

set_option maxRecDepth 100000 in
set_option maxHeartbeats 1000000 in
theorem lp_X12_expression_145 {G : ab_G} {fu : Nat} {d : Nat} {D : fl_D} (K12 : Int32 → Int32 → fl_I → fl_L → fl_I × fl_L) (P12 : Int32 → Int32 → fl_I → fl_L → Prop) (hK12 : ∀ (x1 : Int32) (x2 : Int32) (s : fl_I) (l : fl_L), P12 x1 x2 s l → ab_C G (d + 3) 0 0 M_X12_expression 12 [some (.ref 60), some (.int x1), some (.int x2)] [] (hp D s l) (rt none (hp D (K12 x1 x2 s l).1 (K12 x1 x2 s l).2))) : ∀ (x1 : Int32) (s : fl_I) (l : fl_L), p_X12_expression_145 fu P12 x1 s l → ab_C G (d + 3) 0 0 M_X12_expression 145 [some (.ref 60), some (.int x1), none] [] (hp D s l) (rt none (hp D (f_X12_expression_145 fu K12 x1 s l).1 (f_X12_expression_145 fu K12 x1 s l).2)) := by
  intro x1 s l hk
  generalize he : f_X12_expression_145 fu K12 x1 s l = res
  unfold f_X12_expression_145 at he
  unfold p_X12_expression_145 at hk
  refine r_aload_n rfl rfl ?_
  refine r_bipush_ (a := 8) rfl (by decide) ?_
  obtain ⟨hb3, hk⟩ := hk
  refine q_callV0 [_] _ rfl kY_X12_is kT_X12_is rfl rfl (Nat.le_of_ble_eq_true rfl) (Nat.le_of_ble_eq_true rfl) (cc_60 _) (s_X12_is hb3) (fun r h q => ?_)
  obtain ⟨rfl, rfl⟩ := q
  simp only [Option.toList, List.cons_append, List.nil_append]
  refine r_if_ne rfl (fun c_151 => ?_) (fun c_151 => ?_)
  · rw [if_neg c_151] at he
    replace hk := hk.2 c_151
    subst he
    exact r_weak (L1 := [some (.ref 60), some (.int x1), none]) ⟨rfl, rfl, trivial⟩ (lp_X12_expression_181 _ _ hK12 _ _ _ hk)
  · rw [if_pos c_151] at he
    replace hk := hk.1 c_151
    refine r_aload_n rfl rfl ?_
    refine r_bipush_ (a := 9) rfl (by decide) ?_
    obtain ⟨hb14, hk⟩ := hk
    refine q_callV0 [_] _ rfl kY_X12_is kT_X12_is rfl rfl (Nat.le_of_ble_eq_true rfl) (Nat.le_of_ble_eq_true rfl) (cc_60 _) (s_X12_is hb14) (fun r h q => ?_)
    obtain ⟨rfl, rfl⟩ := q
    simp only [Option.toList, List.cons_append, List.nil_append]
    refine r_if_ne rfl (fun c_160 => ?_) (fun c_160 => ?_)
    · rw [if_neg c_160] at he
      replace hk := hk.2 c_160
      subst he
      exact r_weak (L1 := [some (.ref 60), some (.int x1), none]) ⟨rfl, rfl, trivial⟩ (lp_X12_expression_181 _ _ hK12 _ _ _ hk)
    · rw [if_pos c_160] at he
      replace hk := hk.1 c_160
      refine r_aload_n rfl rfl ?_
      refine r_bipush_ (a := 10) rfl (by decide) ?_
      obtain ⟨hb15, hk⟩ := hk
      refine q_callV0 [_] _ rfl kY_X12_is kT_X12_is rfl rfl (Nat.le_of_ble_eq_true rfl) (Nat.le_of_ble_eq_true rfl) (cc_60 _) (s_X12_is hb15) (fun r h q => ?_)
      obtain ⟨rfl, rfl⟩ := q
      simp only [Option.toList, List.cons_append, List.nil_append]
      refine r_if_ne rfl (fun c_169 => ?_) (fun c_169 => ?_)
      · rw [if_neg c_169] at he
        replace hk := hk.2 c_169
        subst he
        exact r_weak (L1 := [some (.ref 60), some (.int x1), none]) ⟨rfl, rfl, trivial⟩ (lp_X12_expression_181 _ _ hK12 _ _ _ hk)
      · rw [if_pos c_169] at he
        replace hk := hk.1 c_169
        refine r_aload_n rfl rfl ?_
        refine r_bipush_ (a := 15) rfl (by decide) ?_
        obtain ⟨hb16, hk⟩ := hk
        refine q_callV0 [_] _ rfl kY_X12_is kT_X12_is rfl rfl (Nat.le_of_ble_eq_true rfl) (Nat.le_of_ble_eq_true rfl) (cc_60 _) (s_X12_is hb16) (fun r h q => ?_)
        obtain ⟨rfl, rfl⟩ := q
        simp only [Option.toList, List.cons_append, List.nil_append]
        refine r_if_eq rfl (fun c_178 => ?_) (fun c_178 => ?_)
        · rw [if_pos c_178] at he
          replace hk := hk.1 c_178
          refine r_iconst_ (a := 0) rfl (by decide) ?_
          refine r_istore_n rfl (Nat.le_of_ble_eq_true rfl) rfl ?_
          refine r_iload_n rfl rfl ?_
          refine r_if_ne rfl (fun c_188 => ?_) (fun c_188 => ?_)
          · rw [if_neg c_188] at he
            replace hk := hk.2 c_188
            refine r_aload_n rfl rfl ?_
            refine r_aload_n rfl rfl ?_
            refine r_bipush_ (a := 10) rfl (by decide) ?_
            obtain ⟨hb17, hk⟩ := hk
            refine q_callV0 [_] _ rfl kY_X12_is kT_X12_is rfl rfl (Nat.le_of_ble_eq_true rfl) (Nat.le_of_ble_eq_true rfl) (cc_60 _) (s_X12_is hb17) (fun r h q => ?_)
            obtain ⟨rfl, rfl⟩ := q
            simp only [Option.toList, List.cons_append, List.nil_append]
            refine r_if_ne rfl (fun c_217 => ?_) (fun c_217 => ?_)
            · rw [if_neg c_217] at he
              replace hk := hk.2 c_217
              refine r_iconst_ (a := 1) rfl (by decide) ?_
              refine r_goto rfl ?_
              obtain ⟨hb18, hk⟩ := hk
              refine q_callV0 [_] _ rfl kY_X12_comesOut kT_X12_comesOut rfl rfl (Nat.le_of_ble_eq_true rfl) (Nat.le_of_ble_eq_true rfl) (cc_60 _) (s_X12_comesOut hb18) (fun r h q => ?_)
              obtain ⟨rfl, rfl⟩ := q
              simp only [Option.toList, List.cons_append, List.nil_append]
              subst he
              exact r_weak (L1 := [some (.ref 60), some (.int x1), some (.int (0 : Int32))]) ⟨rfl, rfl, rfl, trivial⟩ (lp_X12_expression_237 _ _ hK12 _ _ _ _ hk)
            · rw [if_pos c_217] at he
              replace hk := hk.1 c_217
              refine r_aload_n rfl rfl ?_
              refine r_bipush_ (a := 15) rfl (by decide) ?_
              obtain ⟨hb19, hk⟩ := hk
              refine q_callV0 [_] _ rfl kY_X12_is kT_X12_is rfl rfl (Nat.le_of_ble_eq_true rfl) (Nat.le_of_ble_eq_true rfl) (cc_60 _) (s_X12_is hb19) (fun r h q => ?_)
              obtain ⟨rfl, rfl⟩ := q
              simp only [Option.toList, List.cons_append, List.nil_append]
              refine r_if_eq rfl (fun c_226 => ?_) (fun c_226 => ?_)
              · rw [if_pos c_226] at he
                replace hk := hk.1 c_226
                refine r_iconst_ (a := 0) rfl (by decide) ?_
                obtain ⟨hb20, hk⟩ := hk
                refine q_callV0 [_] _ rfl kY_X12_comesOut kT_X12_comesOut rfl rfl (Nat.le_of_ble_eq_true rfl) (Nat.le_of_ble_eq_true rfl) (cc_60 _) (s_X12_comesOut hb20) (fun r h q => ?_)
                obtain ⟨rfl, rfl⟩ := q
                simp only [Option.toList, List.cons_append, List.nil_append]
                subst he
                exact r_weak (L1 := [some (.ref 60), some (.int x1), some (.int (0 : Int32))]) ⟨rfl, rfl, rfl, trivial⟩ (lp_X12_expression_237 _ _ hK12 _ _ _ _ hk)
              · rw [if_neg c_226] at he
                replace hk := hk.2 c_226
                refine r_iconst_ (a := 1) rfl (by decide) ?_
                refine r_goto rfl ?_
                obtain ⟨hb21, hk⟩ := hk
                refine q_callV0 [_] _ rfl kY_X12_comesOut kT_X12_comesOut rfl rfl (Nat.le_of_ble_eq_true rfl) (Nat.le_of_ble_eq_true rfl) (cc_60 _) (s_X12_comesOut hb21) (fun r h q => ?_)
                obtain ⟨rfl, rfl⟩ := q
                simp only [Option.toList, List.cons_append, List.nil_append]
                subst he
                exact r_weak (L1 := [some (.ref 60), some (.int x1), some (.int (0 : Int32))]) ⟨rfl, rfl, rfl, trivial⟩ (lp_X12_expression_237 _ _ hK12 _ _ _ _ hk)
          · rw [if_pos c_188] at he
            replace hk := hk.1 c_188
            refine r_aload_n rfl rfl ?_
            refine q_getfield rfl (cc_60 _) rfl ?_
            refine r_iload_n rfl rfl ?_
            refine r_icmp_le rfl (fun c_196 => ?_) (fun c_196 => ?_)
            · rw [if_pos c_196] at he
              replace hk := hk.1 c_196
              subst he
              exact r_weak (L1 := [some (.ref 60), none, none]) ⟨rfl, trivial⟩ (lp_X12_expression_204 _ _ hk)
            · rw [if_neg c_196] at he
              replace hk := hk.2 c_196
              refine r_aload_n rfl rfl ?_
              refine r_iconst_ (a := 1) rfl (by decide) ?_
              obtain ⟨hb22, hk⟩ := hk
              refine q_callV0 [_] _ rfl kY_X12_fail kT_X12_fail rfl rfl (Nat.le_of_ble_eq_true rfl) (Nat.le_of_ble_eq_true rfl) (cc_60 _) (s_X12_fail hb22) (fun r h q => ?_)
              obtain ⟨rfl, rfl⟩ := q
              simp only [Option.toList, List.cons_append, List.nil_append]
              subst he
              exact r_weak (L1 := [some (.ref 60), none, none]) ⟨rfl, trivial⟩ (lp_X12_expression_204 _ _ hk)
        · rw [if_neg c_178] at he
          replace hk := hk.2 c_178
          subst he
          exact r_weak (L1 := [some (.ref 60), some (.int x1), none]) ⟨rfl, rfl, trivial⟩ (lp_X12_expression_181 _ _ hK12 _ _ _ hk)

def f_X12_expression_142 (fu : Nat) (K12 : Int32 → Int32 → fl_I → fl_L → fl_I × fl_L) (K96 : Int32 → fl_I → fl_L → fl_I × fl_L) (x1 : Int32) (s : fl_I) (l : fl_L) : fl_I × fl_L :=
    K96 x1 s l

def p_X12_expression_142 (fu : Nat) (P12 : Int32 → Int32 → fl_I → fl_L → Prop) (P96 : Int32 → fl_I → fl_L → Prop) (x1 : Int32) (s : fl_I) (l : fl_L) : Prop :=
    P96 x1 s l

set_option maxRecDepth 100000 in
set_option maxHeartbeats 1000000 in
theorem lp_X12_expression_142 {G : ab_G} {fu : Nat} {d : Nat} {D : fl_D} (K12 : Int32 → Int32 → fl_I → fl_L → fl_I × fl_L) (P12 : Int32 → Int32 → fl_I → fl_L → Prop) (hK12 : ∀ (x1 : Int32) (x2 : Int32) (s : fl_I) (l : fl_L), P12 x1 x2 s l → ab_C G (d + 3) 0 0 M_X12_expression 12 [some (.ref 60), some (.int x1), some (.int x2)] [] (hp D s l) (rt none (hp D (K12 x1 x2 s l).1 (K12 x1 x2 s l).2))) (K96 : Int32 → fl_I → fl_L → fl_I × fl_L) (P96 : Int32 → fl_I → fl_L → Prop) (hK96 : ∀ (x1 : Int32) (s : fl_I) (l : fl_L), P96 x1 s l → ab_C G (d + 3) 0 0 M_X12_expression 96 [some (.ref 60), some (.int x1), none] [] (hp D s l) (rt none (hp D (K96 x1 s l).1 (K96 x1 s l).2))) : ∀ (x1 : Int32) (s : fl_I) (l : fl_L), p_X12_expression_142 fu P12 P96 x1 s l → ab_C G (d + 3) 0 0 M_X12_expression 142 [some (.ref 60), some (.int x1), none] [] (hp D s l) (rt none (hp D (f_X12_expression_142 fu K12 K96 x1 s l).1 (f_X12_expression_142 fu K12 K96 x1 s l).2)) := by
  intro x1 s l hk
  generalize he : f_X12_expression_142 fu K12 K96 x1 s l = res
  unfold f_X12_expression_142 at he
  unfold p_X12_expression_142 at hk
  refine r_goto rfl ?_
  subst he
  exact r_weak (L1 := [some (.ref 60), some (.int x1), none]) ⟨rfl, rfl, trivial⟩ (hK96 _ _ _ hk)

def f_X12_expression_118 (fu : Nat) (K12 : Int32 → Int32 → fl_I → fl_L → fl_I × fl_L) (K96 : Int32 → fl_I → fl_L → fl_I × fl_L) (x1 : Int32) (s : fl_I) (l : fl_L) : fl_I × fl_L :=
    f_X12_expression_142 fu K12 K96 x1 (f_X12_goesOn fu (wi (wi s 60 46 ((s 60 46) - (1 : Int32))) 60 12 (((wi s 60 46 ((s 60 46) - (1 : Int32))) 60 12) - (1 : Int32))) l).1 (f_X12_goesOn fu (wi (wi s 60 46 ((s 60 46) - (1 : Int32))) 60 12 (((wi s 60 46 ((s 60 46) - (1 : Int32))) 60 12) - (1 : Int32))) l).2

def p_X12_expression_118 (fu : Nat) (P12 : Int32 → Int32 → fl_I → fl_L → Prop) (P96 : Int32 → fl_I → fl_L → Prop) (x1 : Int32) (s : fl_I) (l : fl_L) : Prop :=
    (p_X12_goesOn fu (wi (wi s 60 46 ((s 60 46) - (1 : Int32))) 60 12 (((wi s 60 46 ((s 60 46) - (1 : Int32))) 60 12) - (1 : Int32))) l) ∧ p_X12_expression_142 fu P12 P96 x1 (f_X12_goesOn fu (wi (wi s 60 46 ((s 60 46) - (1 : Int32))) 60 12 (((wi s 60 46 ((s 60 46) - (1 : Int32))) 60 12) - (1 : Int32))) l).1 (f_X12_goesOn fu (wi (wi s 60 46 ((s 60 46) - (1 : Int32))) 60 12 (((wi s 60 46 ((s 60 46) - (1 : Int32))) 60 12) - (1 : Int32))) l).2

set_option maxRecDepth 100000 in
set_option maxHeartbeats 1000000 in
theorem lp_X12_expression_118 {G : ab_G} {fu : Nat} {d : Nat} {D : fl_D} (K12 : Int32 → Int32 → fl_I → fl_L → fl_I × fl_L) (P12 : Int32 → Int32 → fl_I → fl_L → Prop) (hK12 : ∀ (x1 : Int32) (x2 : Int32) (s : fl_I) (l : fl_L), P12 x1 x2 s l → ab_C G (d + 3) 0 0 M_X12_expression 12 [some (.ref 60), some (.int x1), some (.int x2)] [] (hp D s l) (rt none (hp D (K12 x1 x2 s l).1 (K12 x1 x2 s l).2))) (K96 : Int32 → fl_I → fl_L → fl_I × fl_L) (P96 : Int32 → fl_I → fl_L → Prop) (hK96 : ∀ (x1 : Int32) (s : fl_I) (l : fl_L), P96 x1 s l → ab_C G (d + 3) 0 0 M_X12_expression 96 [some (.ref 60), some (.int x1), none] [] (hp D s l) (rt none (hp D (K96 x1 s l).1 (K96 x1 s l).2))) : ∀ (x1 : Int32) (s : fl_I) (l : fl_L), p_X12_expression_118 fu P12 P96 x1 s l → ab_C G (d + 3) 0 0 M_X12_expression 118 [some (.ref 60), some (.int x1), none] [] (hp D s l) (rt none (hp D (f_X12_expression_118 fu K12 K96 x1 s l).1 (f_X12_expression_118 fu K12 K96 x1 s l).2)) := by
  intro x1 s l hk
  generalize he : f_X12_expression_118 fu K12 K96 x1 s l = res
  unfold f_X12_expression_118 at he
  unfold p_X12_expression_118 at hk
  refine r_aload_n rfl rfl ?_
  refine r_dup rfl rfl ?_
  refine q_getfield rfl (cc_60 _) rfl ?_
  refine r_iconst_ (a := 1) rfl (by decide) ?_
  refine r_isub rfl ?_
  refine w_put rfl (cc_60 _) ff_12_46 ft_12_46 (fun _ _ => (Nat.le_of_ble_eq_true rfl)) (fun _ _ => rfl) ?_
  refine r_aload_n rfl rfl ?_
  refine r_dup rfl rfl ?_
  refine q_getfield rfl (cc_60 _) rfl ?_
  refine r_iconst_ (a := 1) rfl (by decide) ?_
  refine r_isub rfl ?_
  refine w_put rfl (cc_60 _) ff_12_12 ft_12_12 (fun _ _ => (Nat.le_of_ble_eq_true rfl)) (fun _ _ => rfl) ?_
  refine r_aload_n rfl rfl ?_
  obtain ⟨hb24, hk⟩ := hk
  refine q_callV0 [] _ rfl kY_X12_goesOn kT_X12_goesOn rfl rfl (Nat.le_of_ble_eq_true rfl) (Nat.le_of_ble_eq_true rfl) (cc_60 _) (s_X12_goesOn hb24) (fun r h q => ?_)
  obtain ⟨rfl, rfl⟩ := q
  simp only [Option.toList, List.cons_append, List.nil_append]
  subst he
  exact r_weak (L1 := [some (.ref 60), some (.int x1), none]) ⟨rfl, rfl, trivial⟩ (lp_X12_expression_142 _ _ hK12 _ _ hK96 _ _ _ hk)

def f_X12_expression_96 (fu : Nat) (K12 : Int32 → Int32 → fl_I → fl_L → fl_I × fl_L) : Nat → Int32 → fl_I → fl_L → fl_I × fl_L
  | 0, x1, s, l => (s, l)
  | n + 1, x1, s, l =>
    if ((f_X12_is fu (7 : Int32) s l) = 0) then f_X12_expression_145 fu K12 x1 s l else if ((s 60 12) ≤ x1) then f_X12_expression_145 fu K12 x1 s l else f_X12_expression_118 fu K12 (fun x1 s l => f_X12_expression_96 fu K12 n x1 s l) x1 (f_X12_comesOut fu (0 : Int32) s l).1 (f_X12_comesOut fu (0 : Int32) s l).2

def p_X12_expression_96 (fu : Nat) (P12 : Int32 → Int32 → fl_I → fl_L → Prop) : Nat → Int32 → fl_I → fl_L → Prop
  | 0, _, _, _ => False
  | n + 1, x1, s, l =>
    (p_X12_is fu (7 : Int32) s l) ∧ ((((f_X12_is fu (7 : Int32) s l) = 0) → p_X12_expression_145 fu P12 x1 s l) ∧ (¬ ((f_X12_is fu (7 : Int32) s l) = 0) → ((((s 60 12) ≤ x1) → p_X12_expression_145 fu P12 x1 s l) ∧ (¬ ((s 60 12) ≤ x1) → (p_X12_comesOut fu (0 : Int32) s l) ∧ p_X12_expression_118 fu P12 (fun x1 s l => p_X12_expression_96 fu P12 n x1 s l) x1 (f_X12_comesOut fu (0 : Int32) s l).1 (f_X12_comesOut fu (0 : Int32) s l).2))))

set_option maxRecDepth 100000 in
set_option maxHeartbeats 1000000 in
theorem lp_X12_expression_96 {G : ab_G} {fu : Nat} {d : Nat} {D : fl_D} (K12 : Int32 → Int32 → fl_I → fl_L → fl_I × fl_L) (P12 : Int32 → Int32 → fl_I → fl_L → Prop) (hK12 : ∀ (x1 : Int32) (x2 : Int32) (s : fl_I) (l : fl_L), P12 x1 x2 s l → ab_C G (d + 3) 0 0 M_X12_expression 12 [some (.ref 60), some (.int x1), some (.int x2)] [] (hp D s l) (rt none (hp D (K12 x1 x2 s l).1 (K12 x1 x2 s l).2))) : ∀ (n : Nat) (x1 : Int32) (s : fl_I) (l : fl_L), p_X12_expression_96 fu P12 n x1 s l → ab_C G (d + 3) 0 0 M_X12_expression 96 [some (.ref 60), some (.int x1), none] [] (hp D s l) (rt none (hp D (f_X12_expression_96 fu K12 n x1 s l).1 (f_X12_expression_96 fu K12 n x1 s l).2)) := by
  intro n
  induction n with
  | zero => intro x1 s l hk; exact hk.elim
  | succ n ih =>
    intro x1 s l hk
    generalize he : f_X12_expression_96 fu K12 (n + 1) x1 s l = res
    unfold f_X12_expression_96 at he
    unfold p_X12_expression_96 at hk
    refine r_aload_n rfl rfl ?_
    refine r_bipush_ (a := 7) rfl (by decide) ?_
    obtain ⟨hb2, hk⟩ := hk
    refine q_callV0 [_] _ rfl kY_X12_is kT_X12_is rfl rfl (Nat.le_of_ble_eq_true rfl) (Nat.le_of_ble_eq_true rfl) (cc_60 _) (s_X12_is hb2) (fun r h q => ?_)
    obtain ⟨rfl, rfl⟩ := q
    simp only [Option.toList, List.cons_append, List.nil_append]
    refine r_if_eq rfl (fun c_102 => ?_) (fun c_102 => ?_)
    · rw [if_pos c_102] at he
      replace hk := hk.1 c_102
      subst he
      exact r_weak (L1 := [some (.ref 60), some (.int x1), none]) ⟨rfl, rfl, trivial⟩ (lp_X12_expression_145 _ _ hK12 _ _ _ hk)
    · rw [if_neg c_102] at he
      replace hk := hk.2 c_102
      refine r_aload_n rfl rfl ?_
      refine q_getfield rfl (cc_60 _) rfl ?_
      refine r_iload_n rfl rfl ?_
      refine r_icmp_le rfl (fun c_110 => ?_) (fun c_110 => ?_)
      · rw [if_pos c_110] at he
        replace hk := hk.1 c_110
        subst he
        exact r_weak (L1 := [some (.ref 60), some (.int x1), none]) ⟨rfl, rfl, trivial⟩ (lp_X12_expression_145 _ _ hK12 _ _ _ hk)
      · rw [if_neg c_110] at he
        replace hk := hk.2 c_110
        refine r_aload_n rfl rfl ?_
        refine r_iconst_ (a := 0) rfl (by decide) ?_
        obtain ⟨hb23, hk⟩ := hk
        refine q_callV0 [_] _ rfl kY_X12_comesOut kT_X12_comesOut rfl rfl (Nat.le_of_ble_eq_true rfl) (Nat.le_of_ble_eq_true rfl) (cc_60 _) (s_X12_comesOut hb23) (fun r h q => ?_)
        obtain ⟨rfl, rfl⟩ := q
        simp only [Option.toList, List.cons_append, List.nil_append]
        subst he
        exact r_weak (L1 := [some (.ref 60), some (.int x1), none]) ⟨rfl, rfl, trivial⟩ (lp_X12_expression_118 _ _ hK12 _ _ (fun _ _ _ h9 => ih _ _ _ h9) _ _ _ hk)

def f_X12_expression_88 (fu : Nat) (K12 : Int32 → Int32 → fl_I → fl_L → fl_I × fl_L) (x1 : Int32) (s : fl_I) (l : fl_L) : fl_I × fl_L :=
    if ((s 60 13) ≤ 0) then f_X12_expression_96 fu K12 fu x1 s l else (s, l)

def p_X12_expression_88 (fu : Nat) (P12 : Int32 → Int32 → fl_I → fl_L → Prop) (x1 : Int32) (s : fl_I) (l : fl_L) : Prop :=
    ((((s 60 13) ≤ 0) → p_X12_expression_96 fu P12 fu x1 s l) ∧ (¬ ((s 60 13) ≤ 0) → True))

set_option maxRecDepth 100000 in
set_option maxHeartbeats 1000000 in
theorem lp_X12_expression_88 {G : ab_G} {fu : Nat} {d : Nat} {D : fl_D} (K12 : Int32 → Int32 → fl_I → fl_L → fl_I × fl_L) (P12 : Int32 → Int32 → fl_I → fl_L → Prop) (hK12 : ∀ (x1 : Int32) (x2 : Int32) (s : fl_I) (l : fl_L), P12 x1 x2 s l → ab_C G (d + 3) 0 0 M_X12_expression 12 [some (.ref 60), some (.int x1), some (.int x2)] [] (hp D s l) (rt none (hp D (K12 x1 x2 s l).1 (K12 x1 x2 s l).2))) : ∀ (x1 : Int32) (s : fl_I) (l : fl_L), p_X12_expression_88 fu P12 x1 s l → ab_C G (d + 3) 0 0 M_X12_expression 88 [some (.ref 60), some (.int x1), none] [] (hp D s l) (rt none (hp D (f_X12_expression_88 fu K12 x1 s l).1 (f_X12_expression_88 fu K12 x1 s l).2)) := by
  intro x1 s l hk
  generalize he : f_X12_expression_88 fu K12 x1 s l = res
  unfold f_X12_expression_88 at he
  unfold p_X12_expression_88 at hk
  refine r_aload_n rfl rfl ?_
  refine q_getfield rfl (cc_60 _) rfl ?_
  refine r_if_le rfl (fun c_92 => ?_) (fun c_92 => ?_)
  · rw [if_pos c_92] at he
    replace hk := hk.1 c_92
    subst he
    exact r_weak (L1 := [some (.ref 60), some (.int x1), none]) ⟨rfl, rfl, trivial⟩ (lp_X12_expression_96 _ _ hK12 fu _ _ _ hk)
  · rw [if_neg c_92] at he
    replace hk := hk.2 c_92
    refine r_ret rfl rfl ?_
    first | with_reducible exact fin_v he | exact fin_v he

def f_X12_expression_60 (fu : Nat) (K12 : Int32 → Int32 → fl_I → fl_L → fl_I × fl_L) (K23 : Int32 → fl_I → fl_L → fl_I × fl_L) (x1 : Int32) (s : fl_I) (l : fl_L) : fl_I × fl_L :=
    K23 x1 (wi (wi s 91 (s 60 46).toNatClampNeg (6 : Int32)) 60 46 (((wi s 91 (s 60 46).toNatClampNeg (6 : Int32)) 60 46) + (1 : Int32))) l

def p_X12_expression_60 (fu : Nat) (P12 : Int32 → Int32 → fl_I → fl_L → Prop) (P23 : Int32 → fl_I → fl_L → Prop) (x1 : Int32) (s : fl_I) (l : fl_L) : Prop :=
    (vp_in (s 60 46) 64) ∧ P23 x1 (wi (wi s 91 (s 60 46).toNatClampNeg (6 : Int32)) 60 46 (((wi s 91 (s 60 46).toNatClampNeg (6 : Int32)) 60 46) + (1 : Int32))) l

set_option maxRecDepth 100000 in
set_option maxHeartbeats 1000000 in
theorem lp_X12_expression_60 {G : ab_G} {fu : Nat} {d : Nat} {D : fl_D} (K12 : Int32 → Int32 → fl_I → fl_L → fl_I × fl_L) (P12 : Int32 → Int32 → fl_I → fl_L → Prop) (hK12 : ∀ (x1 : Int32) (x2 : Int32) (s : fl_I) (l : fl_L), P12 x1 x2 s l → ab_C G (d + 3) 0 0 M_X12_expression 12 [some (.ref 60), some (.int x1), some (.int x2)] [] (hp D s l) (rt none (hp D (K12 x1 x2 s l).1 (K12 x1 x2 s l).2))) (K23 : Int32 → fl_I → fl_L → fl_I × fl_L) (P23 : Int32 → fl_I → fl_L → Prop) (hK23 : ∀ (x1 : Int32) (s : fl_I) (l : fl_L), P23 x1 s l → ab_C G (d + 3) 0 0 M_X12_expression 23 [some (.ref 60), some (.int x1), none] [] (hp D s l) (rt none (hp D (K23 x1 s l).1 (K23 x1 s l).2))) : ∀ (x1 : Int32) (s : fl_I) (l : fl_L), p_X12_expression_60 fu P12 P23 x1 s l → ab_C G (d + 3) 0 0 M_X12_expression 60 [some (.ref 60), some (.int x1), none] [] (hp D s l) (rt none (hp D (f_X12_expression_60 fu K12 K23 x1 s l).1 (f_X12_expression_60 fu K12 K23 x1 s l).2)) := by
  intro x1 s l hk
  generalize he : f_X12_expression_60 fu K12 K23 x1 s l = res
  unfold f_X12_expression_60 at he
  unfold p_X12_expression_60 at hk
  refine r_aload_n rfl rfl ?_
  refine q_getfield rfl (cc_60 _) rfl ?_
  refine r_aload_n rfl rfl ?_
  refine q_getfield rfl (cc_60 _) rfl ?_
  refine r_bipush_ (a := 6) rfl (by decide) ?_
  obtain ⟨hb26, hk⟩ := hk
  refine w_iast rfl (cc_91 _) hb26 ?_
  refine r_aload_n rfl rfl ?_
  refine r_dup rfl rfl ?_
  refine q_getfield rfl (cc_60 _) rfl ?_
  refine r_iconst_ (a := 1) rfl (by decide) ?_
  refine r_iadd rfl ?_
  refine w_put rfl (cc_60 _) ff_12_46 ft_12_46 (fun _ _ => (Nat.le_of_ble_eq_true rfl)) (fun _ _ => rfl) ?_
  refine r_goto rfl ?_
  subst he
  exact r_weak (L1 := [some (.ref 60), some (.int x1), none]) ⟨rfl, rfl, trivial⟩ (hK23 _ _ _ hk)

def f_X12_expression_46 (fu : Nat) (K12 : Int32 → Int32 → fl_I → fl_L → fl_I × fl_L) (K23 : Int32 → fl_I → fl_L → fl_I × fl_L) (x1 : Int32) (s : fl_I) (l : fl_L) : fl_I × fl_L :=
    f_X12_expression_60 fu K12 K23 x1 (f_X12_goesOn fu (wi s 60 12 ((s 60 12) + (1 : Int32))) l).1 (f_X12_goesOn fu (wi s 60 12 ((s 60 12) + (1 : Int32))) l).2

def p_X12_expression_46 (fu : Nat) (P12 : Int32 → Int32 → fl_I → fl_L → Prop) (P23 : Int32 → fl_I → fl_L → Prop) (x1 : Int32) (s : fl_I) (l : fl_L) : Prop :=
    (p_X12_goesOn fu (wi s 60 12 ((s 60 12) + (1 : Int32))) l) ∧ p_X12_expression_60 fu P12 P23 x1 (f_X12_goesOn fu (wi s 60 12 ((s 60 12) + (1 : Int32))) l).1 (f_X12_goesOn fu (wi s 60 12 ((s 60 12) + (1 : Int32))) l).2

set_option maxRecDepth 100000 in
set_option maxHeartbeats 1000000 in
theorem lp_X12_expression_46 {G : ab_G} {fu : Nat} {d : Nat} {D : fl_D} (K12 : Int32 → Int32 → fl_I → fl_L → fl_I × fl_L) (P12 : Int32 → Int32 → fl_I → fl_L → Prop) (hK12 : ∀ (x1 : Int32) (x2 : Int32) (s : fl_I) (l : fl_L), P12 x1 x2 s l → ab_C G (d + 3) 0 0 M_X12_expression 12 [some (.ref 60), some (.int x1), some (.int x2)] [] (hp D s l) (rt none (hp D (K12 x1 x2 s l).1 (K12 x1 x2 s l).2))) (K23 : Int32 → fl_I → fl_L → fl_I × fl_L) (P23 : Int32 → fl_I → fl_L → Prop) (hK23 : ∀ (x1 : Int32) (s : fl_I) (l : fl_L), P23 x1 s l → ab_C G (d + 3) 0 0 M_X12_expression 23 [some (.ref 60), some (.int x1), none] [] (hp D s l) (rt none (hp D (K23 x1 s l).1 (K23 x1 s l).2))) : ∀ (x1 : Int32) (s : fl_I) (l : fl_L), p_X12_expression_46 fu P12 P23 x1 s l → ab_C G (d + 3) 0 0 M_X12_expression 46 [some (.ref 60), some (.int x1), none] [] (hp D s l) (rt none (hp D (f_X12_expression_46 fu K12 K23 x1 s l).1 (f_X12_expression_46 fu K12 K23 x1 s l).2)) := by
  intro x1 s l hk
  generalize he : f_X12_expression_46 fu K12 K23 x1 s l = res
  unfold f_X12_expression_46 at he
  unfold p_X12_expression_46 at hk
  refine r_aload_n rfl rfl ?_
  refine r_dup rfl rfl ?_
  refine q_getfield rfl (cc_60 _) rfl ?_
  refine r_iconst_ (a := 1) rfl (by decide) ?_
  refine r_iadd rfl ?_
  refine w_put rfl (cc_60 _) ff_12_12 ft_12_12 (fun _ _ => (Nat.le_of_ble_eq_true rfl)) (fun _ _ => rfl) ?_
  refine r_aload_n rfl rfl ?_
  obtain ⟨hb25, hk⟩ := hk
  refine q_callV0 [] _ rfl kY_X12_goesOn kT_X12_goesOn rfl rfl (Nat.le_of_ble_eq_true rfl) (Nat.le_of_ble_eq_true rfl) (cc_60 _) (s_X12_goesOn hb25) (fun r h q => ?_)
  obtain ⟨rfl, rfl⟩ := q
  simp only [Option.toList, List.cons_append, List.nil_append]
  subst he
  exact r_weak (L1 := [some (.ref 60), some (.int x1), none]) ⟨rfl, rfl, trivial⟩ (lp_X12_expression_60 _ _ hK12 _ _ hK23 _ _ _ hk)

def f_X12_expression_23 (fu : Nat) (K12 : Int32 → Int32 → fl_I → fl_L → fl_I × fl_L) : Nat → Int32 → fl_I → fl_L → fl_I × fl_L
  | 0, x1, s, l => (s, l)
  | n + 1, x1, s, l =>
    if ((f_X12_is fu (6 : Int32) s l) = 0) then f_X12_expression_88 fu K12 x1 (f_X12_unit fu s l).1 (f_X12_unit fu s l).2 else if ((s 60 12) = (6 : Int32)) then f_X12_expression_46 fu K12 (fun x1 s l => f_X12_expression_23 fu K12 n x1 s l) x1 (f_X12_fail fu (2 : Int32) s l).1 (f_X12_fail fu (2 : Int32) s l).2 else f_X12_expression_46 fu K12 (fun x1 s l => f_X12_expression_23 fu K12 n x1 s l) x1 s l

def p_X12_expression_23 (fu : Nat) (P12 : Int32 → Int32 → fl_I → fl_L → Prop) : Nat → Int32 → fl_I → fl_L → Prop
  | 0, _, _, _ => False
  | n + 1, x1, s, l =>
    (p_X12_is fu (6 : Int32) s l) ∧ ((((f_X12_is fu (6 : Int32) s l) = 0) → (p_X12_unit fu s l) ∧ p_X12_expression_88 fu P12 x1 (f_X12_unit fu s l).1 (f_X12_unit fu s l).2) ∧ (¬ ((f_X12_is fu (6 : Int32) s l) = 0) → ((((s 60 12) = (6 : Int32)) → (p_X12_fail fu (2 : Int32) s l) ∧ p_X12_expression_46 fu P12 (fun x1 s l => p_X12_expression_23 fu P12 n x1 s l) x1 (f_X12_fail fu (2 : Int32) s l).1 (f_X12_fail fu (2 : Int32) s l).2) ∧ (¬ ((s 60 12) = (6 : Int32)) → p_X12_expression_46 fu P12 (fun x1 s l => p_X12_expression_23 fu P12 n x1 s l) x1 s l))))

set_option maxRecDepth 100000 in
set_option maxHeartbeats 1000000 in
theorem lp_X12_expression_23 {G : ab_G} {fu : Nat} {d : Nat} {D : fl_D} (K12 : Int32 → Int32 → fl_I → fl_L → fl_I × fl_L) (P12 : Int32 → Int32 → fl_I → fl_L → Prop) (hK12 : ∀ (x1 : Int32) (x2 : Int32) (s : fl_I) (l : fl_L), P12 x1 x2 s l → ab_C G (d + 3) 0 0 M_X12_expression 12 [some (.ref 60), some (.int x1), some (.int x2)] [] (hp D s l) (rt none (hp D (K12 x1 x2 s l).1 (K12 x1 x2 s l).2))) : ∀ (n : Nat) (x1 : Int32) (s : fl_I) (l : fl_L), p_X12_expression_23 fu P12 n x1 s l → ab_C G (d + 3) 0 0 M_X12_expression 23 [some (.ref 60), some (.int x1), none] [] (hp D s l) (rt none (hp D (f_X12_expression_23 fu K12 n x1 s l).1 (f_X12_expression_23 fu K12 n x1 s l).2)) := by
  intro n
  induction n with
  | zero => intro x1 s l hk; exact hk.elim
  | succ n ih =>
    intro x1 s l hk
    generalize he : f_X12_expression_23 fu K12 (n + 1) x1 s l = res
    unfold f_X12_expression_23 at he
    unfold p_X12_expression_23 at hk
    refine r_aload_n rfl rfl ?_
    refine r_bipush_ (a := 6) rfl (by decide) ?_
    obtain ⟨hb0, hk⟩ := hk
    refine q_callV0 [_] _ rfl kY_X12_is kT_X12_is rfl rfl (Nat.le_of_ble_eq_true rfl) (Nat.le_of_ble_eq_true rfl) (cc_60 _) (s_X12_is hb0) (fun r h q => ?_)
    obtain ⟨rfl, rfl⟩ := q
    simp only [Option.toList, List.cons_append, List.nil_append]
    refine r_if_eq rfl (fun c_29 => ?_) (fun c_29 => ?_)
    · rw [if_pos c_29] at he
      replace hk := hk.1 c_29
      refine r_aload_n rfl rfl ?_
      obtain ⟨hb1, hk⟩ := hk
      refine q_callV0 [] _ rfl kY_X12_unit kT_X12_unit rfl rfl (Nat.le_of_ble_eq_true rfl) (Nat.le_of_ble_eq_true rfl) (cc_60 _) (s_X12_unit hb1) (fun r h q => ?_)
      obtain ⟨rfl, rfl⟩ := q
      simp only [Option.toList, List.cons_append, List.nil_append]
      subst he
      exact r_weak (L1 := [some (.ref 60), some (.int x1), none]) ⟨rfl, rfl, trivial⟩ (lp_X12_expression_88 _ _ hK12 _ _ _ hk)
    · rw [if_neg c_29] at he
      replace hk := hk.2 c_29
      refine r_aload_n rfl rfl ?_
      refine q_getfield rfl (cc_60 _) rfl ?_
      refine r_bipush_ (a := 6) rfl (by decide) ?_
      refine r_icmp_ne rfl (fun c_38 => ?_) (fun c_38 => ?_)
      · rw [if_neg c_38] at he
        replace hk := hk.2 c_38
        subst he
        exact r_weak (L1 := [some (.ref 60), some (.int x1), none]) ⟨rfl, rfl, trivial⟩ (lp_X12_expression_46 _ _ hK12 _ _ (fun _ _ _ h9 => ih _ _ _ h9) _ _ _ hk)
      · rw [if_pos c_38] at he
        replace hk := hk.1 c_38
        refine r_aload_n rfl rfl ?_
        refine r_iconst_ (a := 2) rfl (by decide) ?_
        obtain ⟨hb27, hk⟩ := hk
        refine q_callV0 [_] _ rfl kY_X12_fail kT_X12_fail rfl rfl (Nat.le_of_ble_eq_true rfl) (Nat.le_of_ble_eq_true rfl) (cc_60 _) (s_X12_fail hb27) (fun r h q => ?_)
        obtain ⟨rfl, rfl⟩ := q
        simp only [Option.toList, List.cons_append, List.nil_append]
        subst he
        exact r_weak (L1 := [some (.ref 60), some (.int x1), none]) ⟨rfl, rfl, trivial⟩ (lp_X12_expression_46 _ _ hK12 _ _ (fun _ _ _ h9 => ih _ _ _ h9) _ _ _ hk)

def f_X12_expression_12 (fu : Nat) : Nat → Int32 → Int32 → fl_I → fl_L → fl_I × fl_L
  | 0, x1, x2, s, l => (s, l)
  | n + 1, x1, x2, s, l =>
    if (x2 = 0) then f_X12_expression_272 fu  s l else if ((s 60 13) = 0) then f_X12_expression_23 fu (fun x1 x2 s l => f_X12_expression_12 fu n x1 x2 s l) fu x1 s l else f_X12_expression_272 fu  s l

def p_X12_expression_12 (fu : Nat) : Nat → Int32 → Int32 → fl_I → fl_L → Prop
  | 0, _, _, _, _ => False
  | n + 1, x1, x2, s, l =>
    (((x2 = 0) → p_X12_expression_272 fu  s l) ∧ (¬ (x2 = 0) → ((((s 60 13) = 0) → p_X12_expression_23 fu (fun x1 x2 s l => p_X12_expression_12 fu n x1 x2 s l) fu x1 s l) ∧ (¬ ((s 60 13) = 0) → p_X12_expression_272 fu  s l))))

set_option maxRecDepth 100000 in
set_option maxHeartbeats 1000000 in
theorem lp_X12_expression_12 {G : ab_G} {fu : Nat} {d : Nat} {D : fl_D} : ∀ (n : Nat) (x1 : Int32) (x2 : Int32) (s : fl_I) (l : fl_L), p_X12_expression_12 fu n x1 x2 s l → ab_C G (d + 3) 0 0 M_X12_expression 12 [some (.ref 60), some (.int x1), some (.int x2)] [] (hp D s l) (rt none (hp D (f_X12_expression_12 fu n x1 x2 s l).1 (f_X12_expression_12 fu n x1 x2 s l).2)) := by
  intro n
  induction n with
  | zero => intro x1 x2 s l hk; exact hk.elim
  | succ n ih =>
    intro x1 x2 s l hk
    generalize he : f_X12_expression_12 fu (n + 1) x1 x2 s l = res
    unfold f_X12_expression_12 at he
    unfold p_X12_expression_12 at hk
    refine r_iload_n rfl rfl ?_
    refine r_if_eq rfl (fun c_13 => ?_) (fun c_13 => ?_)
    · rw [if_pos c_13] at he
      replace hk := hk.1 c_13
      subst he
      exact r_weak (L1 := [none, none, none]) trivial (lp_X12_expression_272 _ _ hk)
    · rw [if_neg c_13] at he
      replace hk := hk.2 c_13
      refine r_aload_n rfl rfl ?_
      refine q_getfield rfl (cc_60 _) rfl ?_
      refine r_if_ne rfl (fun c_20 => ?_) (fun c_20 => ?_)
      · rw [if_neg c_20] at he
        replace hk := hk.2 c_20
        subst he
        exact r_weak (L1 := [none, none, none]) trivial (lp_X12_expression_272 _ _ hk)
      · rw [if_pos c_20] at he
        replace hk := hk.1 c_20
        subst he
        exact r_weak (L1 := [some (.ref 60), some (.int x1), none]) ⟨rfl, rfl, trivial⟩ (lp_X12_expression_23 _ _ (fun _ _ _ _ h9 => ih _ _ _ _ h9) fu _ _ _ hk)

def f_X12_expression (fu : Nat) (s : fl_I) (l : fl_L) : fl_I × fl_L :=
  f_X12_expression_12 fu fu ((wi s 60 46 (0 : Int32)) 60 12) (1 : Int32) (wi s 60 46 (0 : Int32)) l

def p_X12_expression (fu : Nat) (s : fl_I) (l : fl_L) : Prop :=
  p_X12_expression_12 fu fu ((wi s 60 46 (0 : Int32)) 60 12) (1 : Int32) (wi s 60 46 (0 : Int32)) l

set_option maxRecDepth 100000 in
set_option maxHeartbeats 1000000 in
theorem s_X12_expression {G : ab_G} {fu : Nat} {d : Nat} {D : fl_D} {s : fl_I} {l : fl_L}  (hk : p_X12_expression fu s l) : ab_C G (d + 3) 0 0 M_X12_expression 0 (ab_ent [.ref 60]) [] (hp D s l) (rt none (hp D (f_X12_expression fu s l).1 (f_X12_expression fu s l).2)) := by
  generalize he : (f_X12_expression fu s l) = res
  unfold f_X12_expression at he
  unfold p_X12_expression at hk
  refine r_weak (L1 := [some (.ref 60), none, none]) ⟨rfl, trivial⟩ ?_
  refine r_aload_n rfl rfl ?_
  refine r_iconst_ (a := 0) rfl (by decide) ?_
  refine w_put rfl (cc_60 _) ff_12_46 ft_12_46 (fun _ _ => (Nat.le_of_ble_eq_true rfl)) (fun _ _ => rfl) ?_
  refine r_aload_n rfl rfl ?_
  refine q_getfield rfl (cc_60 _) rfl ?_
  refine r_istore_n rfl (Nat.le_of_ble_eq_true rfl) rfl ?_
  refine r_iconst_ (a := 1) rfl (by decide) ?_
  refine r_istore_n rfl (Nat.le_of_ble_eq_true rfl) rfl ?_
  subst he
  exact r_weak (L1 := [some (.ref 60), some (.int ((wi s 60 46 (0 : Int32)) 60 12)), some (.int (1 : Int32))]) ⟨rfl, rfl, rfl, trivial⟩ (lp_X12_expression_12 fu _ _ _ _ hk)

