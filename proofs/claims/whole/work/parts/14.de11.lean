def f_X1_value_247 (fu : Nat) (t : Nat) (s : fl_I) (l : fl_L) : Int32 × fl_I × fl_L :=
    ((0 : Int32), s, l)

def p_X1_value_247 (fu : Nat) (t : Nat) (s : fl_I) (l : fl_L) : Prop :=
    True

set_option maxRecDepth 100000 in
set_option maxHeartbeats 1000000 in
theorem lp_X1_value_247 {G : ab_G} {fu : Nat} {d : Nat} {D : fl_D} {t : Nat} (htt : isT t) : ∀ (s : fl_I) (l : fl_L), p_X1_value_247 fu  t s l → ab_C G (d + 1) 0 0 M_X1_value 247 [none, none, none, none, none, none, none, none] [] (hp D s l) (rt (some (.int (f_X1_value_247 fu  t s l).1)) (hp D (f_X1_value_247 fu  t s l).2.1 (f_X1_value_247 fu  t s l).2.2)) := by
  intro  s l hk
  generalize he : f_X1_value_247 fu  t s l = res
  unfold f_X1_value_247 at he
  unfold p_X1_value_247 at hk
  refine r_iconst_ (a := 0) rfl (by decide) ?_
  refine r_iret rfl rfl rfl ?_
  first | with_reducible exact fin_i he | exact fin_i he

def f_X1_value_161 (fu : Nat) (t : Nat) (s : fl_I) (l : fl_L) : Int32 × fl_I × fl_L :=
    ((0 : Int32), s, l)

def p_X1_value_161 (fu : Nat) (t : Nat) (s : fl_I) (l : fl_L) : Prop :=
    True

set_option maxRecDepth 100000 in
set_option maxHeartbeats 1000000 in
theorem lp_X1_value_161 {G : ab_G} {fu : Nat} {d : Nat} {D : fl_D} {t : Nat} (htt : isT t) : ∀ (s : fl_I) (l : fl_L), p_X1_value_161 fu  t s l → ab_C G (d + 1) 0 0 M_X1_value 161 [none, none, none, none, none, none, none, none] [] (hp D s l) (rt (some (.int (f_X1_value_161 fu  t s l).1)) (hp D (f_X1_value_161 fu  t s l).2.1 (f_X1_value_161 fu  t s l).2.2)) := by
  intro  s l hk
  generalize he : f_X1_value_161 fu  t s l = res
  unfold f_X1_value_161 at he
  unfold p_X1_value_161 at hk
  refine r_iconst_ (a := 0) rfl (by decide) ?_
  refine r_iret rfl rfl rfl ?_
  first | with_reducible exact fin_i he | exact fin_i he

def f_X1_value_241 (fu : Nat) (K19 : Int32 → Int32 → Int32 → fl_I → fl_L → Int32 × fl_I × fl_L) (x4 : Int32) (x5 : Int32) (x6 : Int32) (t : Nat) (s : fl_I) (l : fl_L) : Int32 × fl_I × fl_L :=
    K19 x4 x5 (x6 + 1) s l

def p_X1_value_241 (fu : Nat) (P19 : Int32 → Int32 → Int32 → fl_I → fl_L → Prop) (x4 : Int32) (x5 : Int32) (x6 : Int32) (t : Nat) (s : fl_I) (l : fl_L) : Prop :=
    P19 x4 x5 (x6 + 1) s l

set_option maxRecDepth 100000 in
set_option maxHeartbeats 1000000 in
theorem lp_X1_value_241 {G : ab_G} {fu : Nat} {d : Nat} {D : fl_D} {t : Nat} (htt : isT t) (K19 : Int32 → Int32 → Int32 → fl_I → fl_L → Int32 × fl_I × fl_L) (P19 : Int32 → Int32 → Int32 → fl_I → fl_L → Prop) (hK19 : ∀ (x4 : Int32) (x5 : Int32) (x6 : Int32) (s : fl_I) (l : fl_L), P19 x4 x5 x6 s l → ab_C G (d + 1) 0 0 M_X1_value 19 [some (.ref 47), none, none, some (.ref (t + 9)), some (.int x4), some (.int x5), some (.int x6), none] [] (hp D s l) (rt (some (.int (K19 x4 x5 x6 s l).1)) (hp D (K19 x4 x5 x6 s l).2.1 (K19 x4 x5 x6 s l).2.2))) : ∀ (x4 : Int32) (x5 : Int32) (x6 : Int32) (s : fl_I) (l : fl_L), p_X1_value_241 fu P19 x4 x5 x6 t s l → ab_C G (d + 1) 0 0 M_X1_value 241 [some (.ref 47), none, none, some (.ref (t + 9)), some (.int x4), some (.int x5), some (.int x6), none] [] (hp D s l) (rt (some (.int (f_X1_value_241 fu K19 x4 x5 x6 t s l).1)) (hp D (f_X1_value_241 fu K19 x4 x5 x6 t s l).2.1 (f_X1_value_241 fu K19 x4 x5 x6 t s l).2.2)) := by
  intro x4 x5 x6 s l hk
  generalize he : f_X1_value_241 fu K19 x4 x5 x6 t s l = res
  unfold f_X1_value_241 at he
  unfold p_X1_value_241 at hk
  refine r_iinc (b := x6 + 1) rfl rfl rfl (Nat.le_of_ble_eq_true rfl) rfl ?_
  refine r_goto rfl ?_
  subst he
  exact r_weak (L1 := [some (.ref 47), none, none, some (.ref (t + 9)), some (.int x4), some (.int x5), some (.int (x6 + 1)), none]) ⟨rfl, rfl, rfl, rfl, rfl, trivial⟩ (hK19 _ _ _ _ _ hk)

def f_X1_value_163 (fu : Nat) (K19 : Int32 → Int32 → Int32 → fl_I → fl_L → Int32 × fl_I × fl_L) (x4 : Int32) (x5 : Int32) (x6 : Int32) (x7 : Int32) (t : Nat) (s : fl_I) (l : fl_L) : Int32 × fl_I × fl_L :=
    if (x7 = (-5 : Int32)) then if ((s 49 ((x5 + (-2)) + (1 : Int32)).toNatClampNeg) ≤ (s 49 (x5 + (-2)).toNatClampNeg)) then f_X1_value_241 fu K19 (s (t + 9) x4.toNatClampNeg) (x5 + (-2)) x6 t s l else f_X1_value_241 fu K19 (x4 + (1 : Int32)) (x5 + (-2)) x6 t s l else f_X1_value_241 fu K19 x4 (x5 + (-1)) x6 t (wi s 49 ((x5 + (-1)) - (1 : Int32)).toNatClampNeg (f_X1_joined fu x7 (s 49 ((x5 + (-1)) - (1 : Int32)).toNatClampNeg) (s 49 (x5 + (-1)).toNatClampNeg))) l

def p_X1_value_163 (fu : Nat) (P19 : Int32 → Int32 → Int32 → fl_I → fl_L → Prop) (x4 : Int32) (x5 : Int32) (x6 : Int32) (x7 : Int32) (t : Nat) (s : fl_I) (l : fl_L) : Prop :=
    (((x7 = (-5 : Int32)) → (vp_in (x5 + (-2)) 32) ∧ (vp_in ((x5 + (-2)) + (1 : Int32)) 32) ∧ ((((s 49 ((x5 + (-2)) + (1 : Int32)).toNatClampNeg) ≤ (s 49 (x5 + (-2)).toNatClampNeg)) → (vp_in x4 408) ∧ p_X1_value_241 fu P19 (s (t + 9) x4.toNatClampNeg) (x5 + (-2)) x6 t s l) ∧ (¬ ((s 49 ((x5 + (-2)) + (1 : Int32)).toNatClampNeg) ≤ (s 49 (x5 + (-2)).toNatClampNeg)) → p_X1_value_241 fu P19 (x4 + (1 : Int32)) (x5 + (-2)) x6 t s l))) ∧ (¬ (x7 = (-5 : Int32)) → (vp_in ((x5 + (-1)) - (1 : Int32)) 32) ∧ (vp_in (x5 + (-1)) 32) ∧ (p_X1_joined fu x7 (s 49 ((x5 + (-1)) - (1 : Int32)).toNatClampNeg) (s 49 (x5 + (-1)).toNatClampNeg)) ∧ (vp_in ((x5 + (-1)) - (1 : Int32)) 32) ∧ p_X1_value_241 fu P19 x4 (x5 + (-1)) x6 t (wi s 49 ((x5 + (-1)) - (1 : Int32)).toNatClampNeg (f_X1_joined fu x7 (s 49 ((x5 + (-1)) - (1 : Int32)).toNatClampNeg) (s 49 (x5 + (-1)).toNatClampNeg))) l))

set_option maxRecDepth 100000 in
set_option maxHeartbeats 1000000 in
theorem lp_X1_value_163 {G : ab_G} {fu : Nat} {d : Nat} {D : fl_D} {t : Nat} (htt : isT t) (K19 : Int32 → Int32 → Int32 → fl_I → fl_L → Int32 × fl_I × fl_L) (P19 : Int32 → Int32 → Int32 → fl_I → fl_L → Prop) (hK19 : ∀ (x4 : Int32) (x5 : Int32) (x6 : Int32) (s : fl_I) (l : fl_L), P19 x4 x5 x6 s l → ab_C G (d + 1) 0 0 M_X1_value 19 [some (.ref 47), none, none, some (.ref (t + 9)), some (.int x4), some (.int x5), some (.int x6), none] [] (hp D s l) (rt (some (.int (K19 x4 x5 x6 s l).1)) (hp D (K19 x4 x5 x6 s l).2.1 (K19 x4 x5 x6 s l).2.2))) : ∀ (x4 : Int32) (x5 : Int32) (x6 : Int32) (x7 : Int32) (s : fl_I) (l : fl_L), p_X1_value_163 fu P19 x4 x5 x6 x7 t s l → ab_C G (d + 1) 0 0 M_X1_value 163 [some (.ref 47), none, none, some (.ref (t + 9)), some (.int x4), some (.int x5), some (.int x6), some (.int x7)] [] (hp D s l) (rt (some (.int (f_X1_value_163 fu K19 x4 x5 x6 x7 t s l).1)) (hp D (f_X1_value_163 fu K19 x4 x5 x6 x7 t s l).2.1 (f_X1_value_163 fu K19 x4 x5 x6 x7 t s l).2.2)) := by
  intro x4 x5 x6 x7 s l hk
  generalize he : f_X1_value_163 fu K19 x4 x5 x6 x7 t s l = res
  unfold f_X1_value_163 at he
  unfold p_X1_value_163 at hk
  refine r_iload rfl rfl ?_
  refine r_bipush_ (a := -5) rfl (by decide) ?_
  refine r_icmp_ne rfl (fun c_167 => ?_) (fun c_167 => ?_)
  · rw [if_neg c_167] at he
    replace hk := hk.2 c_167
    refine r_iinc (b := x5 + (-1)) rfl rfl rfl (Nat.le_of_ble_eq_true rfl) rfl ?_
    refine r_aload_n rfl rfl ?_
    refine q_getfield rfl (cc_47 _) rfl ?_
    refine r_iload rfl rfl ?_
    refine r_iconst_ (a := 1) rfl (by decide) ?_
    refine r_isub rfl ?_
    refine r_iload rfl rfl ?_
    refine r_aload_n rfl rfl ?_
    refine q_getfield rfl (cc_47 _) rfl ?_
    refine r_iload rfl rfl ?_
    refine r_iconst_ (a := 1) rfl (by decide) ?_
    refine r_isub rfl ?_
    obtain ⟨hb2, hk⟩ := hk
    refine q_iald rfl (cc_49 _) hb2 ?_
    refine r_aload_n rfl rfl ?_
    refine q_getfield rfl (cc_47 _) rfl ?_
    refine r_iload rfl rfl ?_
    obtain ⟨hb3, hk⟩ := hk
    refine q_iald rfl (cc_49 _) hb3 ?_
    obtain ⟨hb4, hk⟩ := hk
    refine r_callS0 [_, _, _] _ rfl kY_X1_joined kT_X1_joined rfl rfl (Nat.le_of_ble_eq_true rfl) (Nat.le_of_ble_eq_true rfl) (s_X1_joined hb4) (fun r h q => ?_)
    obtain ⟨rfl, rfl⟩ := q
    simp only [Option.toList, List.cons_append, List.nil_append]
    obtain ⟨hb5, hk⟩ := hk
    refine w_iast rfl (cc_49 _) hb5 ?_
    subst he
    exact r_weak (L1 := [some (.ref 47), none, none, some (.ref (t + 9)), some (.int x4), some (.int (x5 + (-1))), some (.int x6), none]) ⟨rfl, rfl, rfl, rfl, rfl, trivial⟩ (lp_X1_value_241 htt _ _ hK19 _ _ _ _ _ hk)
  · rw [if_pos c_167] at he
    replace hk := hk.1 c_167
    refine r_iinc (b := x5 + (-2)) rfl rfl rfl (Nat.le_of_ble_eq_true rfl) rfl ?_
    refine r_aload_n rfl rfl ?_
    refine q_getfield rfl (cc_47 _) rfl ?_
    refine r_iload rfl rfl ?_
    obtain ⟨hb6, hk⟩ := hk
    refine q_iald rfl (cc_49 _) hb6 ?_
    refine r_aload_n rfl rfl ?_
    refine q_getfield rfl (cc_47 _) rfl ?_
    refine r_iload rfl rfl ?_
    refine r_iconst_ (a := 1) rfl (by decide) ?_
    refine r_iadd rfl ?_
    obtain ⟨hb7, hk⟩ := hk
    refine q_iald rfl (cc_49 _) hb7 ?_
    refine r_icmp_ge rfl (fun c_189 => ?_) (fun c_189 => ?_)
    · rw [if_pos c_189] at he
      replace hk := hk.1 c_189
      refine r_aload_n rfl rfl ?_
      refine r_iload rfl rfl ?_
      obtain ⟨hb8, hk⟩ := hk
      refine q_iald rfl (cT_9 htt) hb8 ?_
      refine r_istore rfl (Nat.le_of_ble_eq_true rfl) rfl ?_
      refine r_goto rfl ?_
      subst he
      exact r_weak (L1 := [some (.ref 47), none, none, some (.ref (t + 9)), some (.int (s (t + 9) x4.toNatClampNeg)), some (.int (x5 + (-2))), some (.int x6), none]) ⟨rfl, rfl, rfl, rfl, rfl, trivial⟩ (lp_X1_value_241 htt _ _ hK19 _ _ _ _ _ hk)
    · rw [if_neg c_189] at he
      replace hk := hk.2 c_189
      refine r_iload rfl rfl ?_
      refine r_iconst_ (a := 1) rfl (by decide) ?_
      refine r_iadd rfl ?_
      refine r_goto rfl ?_
      refine r_istore rfl (Nat.le_of_ble_eq_true rfl) rfl ?_
      refine r_goto rfl ?_
      subst he
      exact r_weak (L1 := [some (.ref 47), none, none, some (.ref (t + 9)), some (.int (x4 + (1 : Int32))), some (.int (x5 + (-2))), some (.int x6), none]) ⟨rfl, rfl, rfl, rfl, rfl, trivial⟩ (lp_X1_value_241 htt _ _ hK19 _ _ _ _ _ hk)

def f_X1_value_19 (fu : Nat) : Nat → Int32 → Int32 → Int32 → Nat → fl_I → fl_L → Int32 × fl_I × fl_L
  | 0, x4, x5, x6, t, s, l => (0, s, l)
  | n + 1, x4, x5, x6, t, s, l =>
    if ((408 : Int32) ≤ x6) then f_X1_value_247 fu  t s l else if (x4 < 0) then f_X1_value_247 fu  t s l else if ((408 : Int32) ≤ x4) then f_X1_value_247 fu  t s l else if ((32 : Int32) ≤ x5) then f_X1_value_247 fu  t s l else if ((s (t + 9) x4.toNatClampNeg) < 0) then if ((-7 : Int32) < (s (t + 9) x4.toNatClampNeg)) then if ((s (t + 9) x4.toNatClampNeg) = (-6 : Int32)) then if (x5 ≤ 0) then ((0 : Int32), s, l) else ((s 49 (x5 - (1 : Int32)).toNatClampNeg), s, l) else if (x5 < (2 : Int32)) then f_X1_value_161 fu  t s l else if ((408 : Int32) ≤ (x4 + 1)) then f_X1_value_161 fu  t s l else if ((s (t + 9) x4.toNatClampNeg) = (-4 : Int32)) then if ((s 49 (x5 - (1 : Int32)).toNatClampNeg) = 0) then f_X1_value_161 fu  t s l else f_X1_value_163 fu (fun x4 x5 x6 s l => f_X1_value_19 fu n x4 x5 x6 t s l) (x4 + 1) x5 x6 (s (t + 9) x4.toNatClampNeg) t s l else f_X1_value_163 fu (fun x4 x5 x6 s l => f_X1_value_19 fu n x4 x5 x6 t s l) (x4 + 1) x5 x6 (s (t + 9) x4.toNatClampNeg) t s l else f_X1_value_241 fu (fun x4 x5 x6 s l => f_X1_value_19 fu n x4 x5 x6 t s l) (x4 + 1) (x5 + 1) x6 t (wi s 49 x5.toNatClampNeg (f_X1_varOf fu (s (t + 9) x4.toNatClampNeg) s l)) l else f_X1_value_241 fu (fun x4 x5 x6 s l => f_X1_value_19 fu n x4 x5 x6 t s l) (x4 + 1) (x5 + 1) x6 t (wi s 49 x5.toNatClampNeg (s (t + 9) x4.toNatClampNeg)) l

def p_X1_value_19 (fu : Nat) : Nat → Int32 → Int32 → Int32 → Nat → fl_I → fl_L → Prop
  | 0, _, _, _, _, _, _ => False
  | n + 1, x4, x5, x6, t, s, l =>
    ((((408 : Int32) ≤ x6) → p_X1_value_247 fu  t s l) ∧ (¬ ((408 : Int32) ≤ x6) → (((x4 < 0) → p_X1_value_247 fu  t s l) ∧ (¬ (x4 < 0) → ((((408 : Int32) ≤ x4) → p_X1_value_247 fu  t s l) ∧ (¬ ((408 : Int32) ≤ x4) → ((((32 : Int32) ≤ x5) → p_X1_value_247 fu  t s l) ∧ (¬ ((32 : Int32) ≤ x5) → (vp_in x4 408) ∧ ((((s (t + 9) x4.toNatClampNeg) < 0) → ((((-7 : Int32) < (s (t + 9) x4.toNatClampNeg)) → ((((s (t + 9) x4.toNatClampNeg) = (-6 : Int32)) → (((x5 ≤ 0) → True) ∧ (¬ (x5 ≤ 0) → (vp_in (x5 - (1 : Int32)) 32) ∧ True))) ∧ (¬ ((s (t + 9) x4.toNatClampNeg) = (-6 : Int32)) → (((x5 < (2 : Int32)) → p_X1_value_161 fu  t s l) ∧ (¬ (x5 < (2 : Int32)) → ((((408 : Int32) ≤ (x4 + 1)) → p_X1_value_161 fu  t s l) ∧ (¬ ((408 : Int32) ≤ (x4 + 1)) → ((((s (t + 9) x4.toNatClampNeg) = (-4 : Int32)) → (vp_in (x5 - (1 : Int32)) 32) ∧ ((((s 49 (x5 - (1 : Int32)).toNatClampNeg) = 0) → p_X1_value_161 fu  t s l) ∧ (¬ ((s 49 (x5 - (1 : Int32)).toNatClampNeg) = 0) → p_X1_value_163 fu (fun x4 x5 x6 s l => p_X1_value_19 fu n x4 x5 x6 t s l) (x4 + 1) x5 x6 (s (t + 9) x4.toNatClampNeg) t s l))) ∧ (¬ ((s (t + 9) x4.toNatClampNeg) = (-4 : Int32)) → p_X1_value_163 fu (fun x4 x5 x6 s l => p_X1_value_19 fu n x4 x5 x6 t s l) (x4 + 1) x5 x6 (s (t + 9) x4.toNatClampNeg) t s l))))))))) ∧ (¬ ((-7 : Int32) < (s (t + 9) x4.toNatClampNeg)) → (p_X1_varOf fu (s (t + 9) x4.toNatClampNeg) s l) ∧ (vp_in x5 32) ∧ p_X1_value_241 fu (fun x4 x5 x6 s l => p_X1_value_19 fu n x4 x5 x6 t s l) (x4 + 1) (x5 + 1) x6 t (wi s 49 x5.toNatClampNeg (f_X1_varOf fu (s (t + 9) x4.toNatClampNeg) s l)) l))) ∧ (¬ ((s (t + 9) x4.toNatClampNeg) < 0) → (vp_in x5 32) ∧ p_X1_value_241 fu (fun x4 x5 x6 s l => p_X1_value_19 fu n x4 x5 x6 t s l) (x4 + 1) (x5 + 1) x6 t (wi s 49 x5.toNatClampNeg (s (t + 9) x4.toNatClampNeg)) l))))))))))

set_option maxRecDepth 100000 in
set_option maxHeartbeats 1000000 in
theorem lp_X1_value_19 {G : ab_G} {fu : Nat} {d : Nat} {D : fl_D} {t : Nat} (htt : isT t) : ∀ (n : Nat) (x4 : Int32) (x5 : Int32) (x6 : Int32) (s : fl_I) (l : fl_L), p_X1_value_19 fu n x4 x5 x6 t s l → ab_C G (d + 1) 0 0 M_X1_value 19 [some (.ref 47), none, none, some (.ref (t + 9)), some (.int x4), some (.int x5), some (.int x6), none] [] (hp D s l) (rt (some (.int (f_X1_value_19 fu n x4 x5 x6 t s l).1)) (hp D (f_X1_value_19 fu n x4 x5 x6 t s l).2.1 (f_X1_value_19 fu n x4 x5 x6 t s l).2.2)) := by
  intro n
  induction n with
  | zero => intro x4 x5 x6 s l hk; exact hk.elim
  | succ n ih =>
    intro x4 x5 x6 s l hk
    generalize he : f_X1_value_19 fu (n + 1) x4 x5 x6 t s l = res
    unfold f_X1_value_19 at he
    unfold p_X1_value_19 at hk
    refine r_iload rfl rfl ?_
    refine r_sipush_ (a := 408) rfl (by decide) ?_
    refine r_icmp_ge rfl (fun c_24 => ?_) (fun c_24 => ?_)
    · rw [if_pos c_24] at he
      replace hk := hk.1 c_24
      subst he
      exact r_weak (L1 := [none, none, none, none, none, none, none, none]) trivial (lp_X1_value_247 htt _ _ hk)
    · rw [if_neg c_24] at he
      replace hk := hk.2 c_24
      refine r_iload rfl rfl ?_
      refine r_if_lt rfl (fun c_29 => ?_) (fun c_29 => ?_)
      · rw [if_pos c_29] at he
        replace hk := hk.1 c_29
        subst he
        exact r_weak (L1 := [none, none, none, none, none, none, none, none]) trivial (lp_X1_value_247 htt _ _ hk)
      · rw [if_neg c_29] at he
        replace hk := hk.2 c_29
        refine r_iload rfl rfl ?_
        refine r_sipush_ (a := 408) rfl (by decide) ?_
        refine r_icmp_ge rfl (fun c_37 => ?_) (fun c_37 => ?_)
        · rw [if_pos c_37] at he
          replace hk := hk.1 c_37
          subst he
          exact r_weak (L1 := [none, none, none, none, none, none, none, none]) trivial (lp_X1_value_247 htt _ _ hk)
        · rw [if_neg c_37] at he
          replace hk := hk.2 c_37
          refine r_iload rfl rfl ?_
          refine r_bipush_ (a := 32) rfl (by decide) ?_
          refine r_icmp_ge rfl (fun c_44 => ?_) (fun c_44 => ?_)
          · rw [if_pos c_44] at he
            replace hk := hk.1 c_44
            subst he
            exact r_weak (L1 := [none, none, none, none, none, none, none, none]) trivial (lp_X1_value_247 htt _ _ hk)
          · rw [if_neg c_44] at he
            replace hk := hk.2 c_44
            refine r_aload_n rfl rfl ?_
            refine r_iload rfl rfl ?_
            obtain ⟨hb1, hk⟩ := hk
            refine q_iald rfl (cT_9 htt) hb1 ?_
            refine r_istore rfl (Nat.le_of_ble_eq_true rfl) rfl ?_
            refine r_iinc (b := x4 + 1) rfl rfl rfl (Nat.le_of_ble_eq_true rfl) rfl ?_
            refine r_iload rfl rfl ?_
            refine r_if_lt rfl (fun c_58 => ?_) (fun c_58 => ?_)
            · rw [if_pos c_58] at he
              replace hk := hk.1 c_58
              refine r_iload rfl rfl ?_
              refine r_bipush_ (a := -7) rfl (by decide) ?_
              refine r_icmp_gt rfl (fun c_80 => ?_) (fun c_80 => ?_)
              · rw [if_pos c_80] at he
                replace hk := hk.1 c_80
                refine r_iload rfl rfl ?_
                refine r_bipush_ (a := -6) rfl (by decide) ?_
                refine r_icmp_ne rfl (fun c_106 => ?_) (fun c_106 => ?_)
                · rw [if_neg c_106] at he
                  replace hk := hk.2 c_106
                  refine r_iload rfl rfl ?_
                  refine r_iconst_ (a := 2) rfl (by decide) ?_
                  refine r_icmp_lt rfl (fun c_131 => ?_) (fun c_131 => ?_)
                  · rw [if_pos c_131] at he
                    replace hk := hk.1 c_131
                    subst he
                    exact r_weak (L1 := [none, none, none, none, none, none, none, none]) trivial (lp_X1_value_161 htt _ _ hk)
                  · rw [if_neg c_131] at he
                    replace hk := hk.2 c_131
                    refine r_iload rfl rfl ?_
                    refine r_sipush_ (a := 408) rfl (by decide) ?_
                    refine r_icmp_ge rfl (fun c_139 => ?_) (fun c_139 => ?_)
                    · rw [if_pos c_139] at he
                      replace hk := hk.1 c_139
                      subst he
                      exact r_weak (L1 := [none, none, none, none, none, none, none, none]) trivial (lp_X1_value_161 htt _ _ hk)
                    · rw [if_neg c_139] at he
                      replace hk := hk.2 c_139
                      refine r_iload rfl rfl ?_
                      refine r_bipush_ (a := -4) rfl (by decide) ?_
                      refine r_icmp_ne rfl (fun c_146 => ?_) (fun c_146 => ?_)
                      · rw [if_neg c_146] at he
                        replace hk := hk.2 c_146
                        subst he
                        exact r_weak (L1 := [some (.ref 47), none, none, some (.ref (t + 9)), some (.int (x4 + 1)), some (.int x5), some (.int x6), some (.int (s (t + 9) x4.toNatClampNeg))]) ⟨rfl, rfl, rfl, rfl, rfl, rfl, trivial⟩ (lp_X1_value_163 htt _ _ (fun _ _ _ _ _ h9 => ih _ _ _ _ _ h9) _ _ _ _ _ _ hk)
                      · rw [if_pos c_146] at he
                        replace hk := hk.1 c_146
                        refine r_aload_n rfl rfl ?_
                        refine q_getfield rfl (cc_47 _) rfl ?_
                        refine r_iload rfl rfl ?_
                        refine r_iconst_ (a := 1) rfl (by decide) ?_
                        refine r_isub rfl ?_
                        obtain ⟨hb9, hk⟩ := hk
                        refine q_iald rfl (cc_49 _) hb9 ?_
                        refine r_if_ne rfl (fun c_158 => ?_) (fun c_158 => ?_)
                        · rw [if_neg c_158] at he
                          replace hk := hk.2 c_158
                          subst he
                          exact r_weak (L1 := [some (.ref 47), none, none, some (.ref (t + 9)), some (.int (x4 + 1)), some (.int x5), some (.int x6), some (.int (s (t + 9) x4.toNatClampNeg))]) ⟨rfl, rfl, rfl, rfl, rfl, rfl, trivial⟩ (lp_X1_value_163 htt _ _ (fun _ _ _ _ _ h9 => ih _ _ _ _ _ h9) _ _ _ _ _ _ hk)
                        · rw [if_pos c_158] at he
                          replace hk := hk.1 c_158
                          subst he
                          exact r_weak (L1 := [none, none, none, none, none, none, none, none]) trivial (lp_X1_value_161 htt _ _ hk)
                · rw [if_pos c_106] at he
                  replace hk := hk.1 c_106
                  refine r_iload rfl rfl ?_
                  refine r_if_le rfl (fun c_111 => ?_) (fun c_111 => ?_)
                  · rw [if_pos c_111] at he
                    replace hk := hk.1 c_111
                    refine r_iconst_ (a := 0) rfl (by decide) ?_
                    refine r_iret rfl rfl rfl ?_
                    first | with_reducible exact fin_i he | exact fin_i he
                  · rw [if_neg c_111] at he
                    replace hk := hk.2 c_111
                    refine r_aload_n rfl rfl ?_
                    refine q_getfield rfl (cc_47 _) rfl ?_
                    refine r_iload rfl rfl ?_
                    refine r_iconst_ (a := 1) rfl (by decide) ?_
                    refine r_isub rfl ?_
                    obtain ⟨hb10, hk⟩ := hk
                    refine q_iald rfl (cc_49 _) hb10 ?_
                    refine r_goto rfl ?_
                    refine r_iret rfl rfl rfl ?_
                    first | with_reducible exact fin_i he | exact fin_i he
              · rw [if_neg c_80] at he
                replace hk := hk.2 c_80
                refine r_aload_n rfl rfl ?_
                refine q_getfield rfl (cc_47 _) rfl ?_
                refine r_iload rfl rfl ?_
                refine r_aload_n rfl rfl ?_
                refine r_iload rfl rfl ?_
                obtain ⟨hb11, hk⟩ := hk
                refine q_callV0 [_] _ rfl kY_X1_varOf kT_X1_varOf rfl rfl (Nat.le_of_ble_eq_true rfl) (Nat.le_of_ble_eq_true rfl) (cc_47 _) (s_X1_varOf hb11) (fun r h q => ?_)
                obtain ⟨rfl, rfl⟩ := q
                simp only [Option.toList, List.cons_append, List.nil_append]
                obtain ⟨hb12, hk⟩ := hk
                refine w_iast rfl (cc_49 _) hb12 ?_
                refine r_iinc (b := x5 + 1) rfl rfl rfl (Nat.le_of_ble_eq_true rfl) rfl ?_
                refine r_goto rfl ?_
                subst he
                exact r_weak (L1 := [some (.ref 47), none, none, some (.ref (t + 9)), some (.int (x4 + 1)), some (.int (x5 + 1)), some (.int x6), none]) ⟨rfl, rfl, rfl, rfl, rfl, trivial⟩ (lp_X1_value_241 htt _ _ (fun _ _ _ _ _ h9 => ih _ _ _ _ _ h9) _ _ _ _ _ hk)
            · rw [if_neg c_58] at he
              replace hk := hk.2 c_58
              refine r_aload_n rfl rfl ?_
              refine q_getfield rfl (cc_47 _) rfl ?_
              refine r_iload rfl rfl ?_
              refine r_iload rfl rfl ?_
              obtain ⟨hb13, hk⟩ := hk
              refine w_iast rfl (cc_49 _) hb13 ?_
              refine r_iinc (b := x5 + 1) rfl rfl rfl (Nat.le_of_ble_eq_true rfl) rfl ?_
              refine r_goto rfl ?_
              subst he
              exact r_weak (L1 := [some (.ref 47), none, none, some (.ref (t + 9)), some (.int (x4 + 1)), some (.int (x5 + 1)), some (.int x6), none]) ⟨rfl, rfl, rfl, rfl, rfl, trivial⟩ (lp_X1_value_241 htt _ _ (fun _ _ _ _ _ h9 => ih _ _ _ _ _ h9) _ _ _ _ _ hk)

def f_X1_value (fu : Nat) (v1 : Int32) (t : Nat) (s : fl_I) (l : fl_L) : Int32 × fl_I × fl_L :=
  f_X1_value_19 fu fu (s (t + 10) v1.toNatClampNeg) (0 : Int32) (0 : Int32) t s l

def p_X1_value (fu : Nat) (v1 : Int32) (t : Nat) (s : fl_I) (l : fl_L) : Prop :=
  (vp_in v1 3) ∧ p_X1_value_19 fu fu (s (t + 10) v1.toNatClampNeg) (0 : Int32) (0 : Int32) t s l

set_option maxRecDepth 100000 in
set_option maxHeartbeats 1000000 in
theorem s_X1_value {G : ab_G} {fu : Nat} {d : Nat} {D : fl_D} {s : fl_I} {l : fl_L} {t : Nat} (htt : isT t) {v1 : Int32} (hk : p_X1_value fu v1 t s l) : ab_C G (d + 1) 0 0 M_X1_value 0 (ab_ent [.ref 47, .ref t, .int v1]) [] (hp D s l) (rt (some (.int (f_X1_value fu v1 t s l).1)) (hp D (f_X1_value fu v1 t s l).2.1 (f_X1_value fu v1 t s l).2.2)) := by
  generalize he : (f_X1_value fu v1 t s l) = res
  unfold f_X1_value at he
  unfold p_X1_value at hk
  refine r_weak (L1 := [some (.ref 47), some (.ref t), some (.int v1), none, none, none, none, none]) ⟨rfl, rfl, rfl, trivial⟩ ?_
  refine r_aload_n rfl rfl ?_
  refine q_getfield rfl (cT_0 htt) rfl ?_
  refine r_astore_n rfl (Nat.le_of_ble_eq_true rfl) rfl ?_
  refine r_aload_n rfl rfl ?_
  refine q_getfield rfl (cT_0 htt) rfl ?_
  refine r_iload_n rfl rfl ?_
  obtain ⟨hb0, hk⟩ := hk
  refine q_iald rfl (cT_10 htt) hb0 ?_
  refine r_istore rfl (Nat.le_of_ble_eq_true rfl) rfl ?_
  refine r_iconst_ (a := 0) rfl (by decide) ?_
  refine r_istore rfl (Nat.le_of_ble_eq_true rfl) rfl ?_
  refine r_iconst_ (a := 0) rfl (by decide) ?_
  refine r_istore rfl (Nat.le_of_ble_eq_true rfl) rfl ?_
  subst he
  exact r_weak (L1 := [some (.ref 47), none, none, some (.ref (t + 9)), some (.int (s (t + 10) v1.toNatClampNeg)), some (.int (0 : Int32)), some (.int (0 : Int32)), none]) ⟨rfl, rfl, rfl, rfl, rfl, trivial⟩ (lp_X1_value_19 htt fu _ _ _ _ _ hk)

