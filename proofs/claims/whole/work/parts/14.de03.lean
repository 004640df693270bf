def f_X1_value_247 (t : Nat) (s : fl_I) (l : fl_L) : Int32 × fl_I × fl_L :=
    ((0 : Int32), s, l)

def p_X1_value_247 (t : Nat) (s : fl_I) (l : fl_L) : Prop :=
    True

set_option maxRecDepth 100000 in
set_option maxHeartbeats 4000000 in
theorem lp_X1_value_247 {G : ab_G} {d : Nat} {D : fl_D} {t : Nat} (htt : isT t) : ∀ (s : fl_I) (l : fl_L), p_X1_value_247  t s l → ab_C G (d + 1) 0 0 M_X1_value 247 [none, none, none, none, none, none, none, none] [] (hp D s l) (rt (some (.int (f_X1_value_247  t s l).1)) (hp D (f_X1_value_247  t s l).2.1 (f_X1_value_247  t s l).2.2)) := by
  intro  s l hk
  generalize he : f_X1_value_247  t s l = res
  unfold f_X1_value_247 at he
  unfold p_X1_value_247 at hk
  refine r_iconst_ (a := 0) rfl (by decide) ?_
  refine r_iret rfl rfl rfl ?_
  subst he
  exact ⟨rfl, rfl⟩

def f_X1_value_161 (t : Nat) (s : fl_I) (l : fl_L) : Int32 × fl_I × fl_L :=
    ((0 : Int32), s, l)

def p_X1_value_161 (t : Nat) (s : fl_I) (l : fl_L) : Prop :=
    True

set_option maxRecDepth 100000 in
set_option maxHeartbeats 4000000 in
theorem lp_X1_value_161 {G : ab_G} {d : Nat} {D : fl_D} {t : Nat} (htt : isT t) : ∀ (s : fl_I) (l : fl_L), p_X1_value_161  t s l → ab_C G (d + 1) 0 0 M_X1_value 161 [none, none, none, none, none, none, none, none] [] (hp D s l) (rt (some (.int (f_X1_value_161  t s l).1)) (hp D (f_X1_value_161  t s l).2.1 (f_X1_value_161  t s l).2.2)) := by
  intro  s l hk
  generalize he : f_X1_value_161  t s l = res
  unfold f_X1_value_161 at he
  unfold p_X1_value_161 at hk
  refine r_iconst_ (a := 0) rfl (by decide) ?_
  refine r_iret rfl rfl rfl ?_
  subst he
  exact ⟨rfl, rfl⟩

def f_X1_value_241 (K19 : Int32 → Int32 → Int32 → fl_I → fl_L → Int32 × fl_I × fl_L) (x4 : Int32) (x5 : Int32) (x6 : Int32) (t : Nat) (s : fl_I) (l : fl_L) : Int32 × fl_I × fl_L :=
    K19 x4 x5 (x6 + 1) s l

def p_X1_value_241 (P19 : Int32 → Int32 → Int32 → fl_I → fl_L → Prop) (x4 : Int32) (x5 : Int32) (x6 : Int32) (t : Nat) (s : fl_I) (l : fl_L) : Prop :=
    P19 x4 x5 (x6 + 1) s l

set_option maxRecDepth 100000 in
set_option maxHeartbeats 4000000 in
theorem lp_X1_value_241 {G : ab_G} {d : Nat} {D : fl_D} {t : Nat} (htt : isT t) (K19 : Int32 → Int32 → Int32 → fl_I → fl_L → Int32 × fl_I × fl_L) (P19 : Int32 → Int32 → Int32 → fl_I → fl_L → Prop) (hK19 : ∀ (x4 : Int32) (x5 : Int32) (x6 : Int32) (s : fl_I) (l : fl_L), P19 x4 x5 x6 s l → ab_C G (d + 1) 0 0 M_X1_value 19 [some (.ref 47), none, none, some (.ref (t + 9)), some (.int x4), some (.int x5), some (.int x6), none] [] (hp D s l) (rt (some (.int (K19 x4 x5 x6 s l).1)) (hp D (K19 x4 x5 x6 s l).2.1 (K19 x4 x5 x6 s l).2.2))) : ∀ (x4 : Int32) (x5 : Int32) (x6 : Int32) (s : fl_I) (l : fl_L), p_X1_value_241 P19 x4 x5 x6 t s l → ab_C G (d + 1) 0 0 M_X1_value 241 [some (.ref 47), none, none, some (.ref (t + 9)), some (.int x4), some (.int x5), some (.int x6), none] [] (hp D s l) (rt (some (.int (f_X1_value_241 K19 x4 x5 x6 t s l).1)) (hp D (f_X1_value_241 K19 x4 x5 x6 t s l).2.1 (f_X1_value_241 K19 x4 x5 x6 t s l).2.2)) := by
  intro x4 x5 x6 s l hk
  generalize he : f_X1_value_241 K19 x4 x5 x6 t s l = res
  unfold f_X1_value_241 at he
  unfold p_X1_value_241 at hk
  refine r_iinc (b := x6 + 1) rfl rfl rfl (Nat.le_of_ble_eq_true rfl) rfl ?_
  refine r_goto rfl ?_
  subst he
  exact r_weak (L1 := [some (.ref 47), none, none, some (.ref (t + 9)), some (.int x4), some (.int x5), some (.int (x6 + 1)), none]) ⟨rfl, rfl, rfl, rfl, rfl, trivial⟩ (hK19 _ _ _ _ _ hk)

def f_X1_value_163 (K19 : Int32 → Int32 → Int32 → fl_I → fl_L → Int32 × fl_I × fl_L) (x4 : Int32) (x5 : Int32) (x6 : Int32) (x7 : Int32) (t : Nat) (s : fl_I) (l : fl_L) : Int32 × fl_I × fl_L :=
    if (x7 = (-5 : Int32)) then if ((s 49 ((x5 + (-2)) + (1 : Int32)).toNatClampNeg) ≤ (s 49 (x5 + (-2)).toNatClampNeg)) then f_X1_value_241 K19 (s (t + 9) x4.toNatClampNeg) (x5 + (-2)) x6 t s l else f_X1_value_241 K19 (x4 + (1 : Int32)) (x5 + (-2)) x6 t s l else f_X1_value_241 K19 x4 (x5 + (-1)) x6 t (wi s 49 ((x5 + (-1)) - (1 : Int32)).toNatClampNeg (f_X1_joined x7 (s 49 ((x5 + (-1)) - (1 : Int32)).toNatClampNeg) (s 49 (x5 + (-1)).toNatClampNeg))) l

def p_X1_value_163 (P19 : Int32 → Int32 → Int32 → fl_I → fl_L → Prop) (x4 : Int32) (x5 : Int32) (x6 : Int32) (x7 : Int32) (t : Nat) (s : fl_I) (l : fl_L) : Prop :=
    (((x7 = (-5 : Int32)) → (vp_in (x5 + (-2)) 32) ∧ (vp_in ((x5 + (-2)) + (1 : Int32)) 32) ∧ ((((s 49 ((x5 + (-2)) + (1 : Int32)).toNatClampNeg) ≤ (s 49 (x5 + (-2)).toNatClampNeg)) → (vp_in x4 408) ∧ p_X1_value_241 P19 (s (t + 9) x4.toNatClampNeg) (x5 + (-2)) x6 t s l) ∧ (¬ ((s 49 ((x5 + (-2)) + (1 : Int32)).toNatClampNeg) ≤ (s 49 (x5 + (-2)).toNatClampNeg)) → p_X1_value_241 P19 (x4 + (1 : Int32)) (x5 + (-2)) x6 t s l))) ∧ (¬ (x7 = (-5 : Int32)) → (vp_in ((x5 + (-1)) - (1 : Int32)) 32) ∧ (vp_in (x5 + (-1)) 32) ∧ (p_X1_joined x7 (s 49 ((x5 + (-1)) - (1 : Int32)).toNatClampNeg) (s 49 (x5 + (-1)).toNatClampNeg)) ∧ (vp_in ((x5 + (-1)) - (1 : Int32)) 32) ∧ p_X1_value_241 P19 x4 (x5 + (-1)) x6 t (wi s 49 ((x5 + (-1)) - (1 : Int32)).toNatClampNeg (f_X1_joined x7 (s 49 ((x5 + (-1)) - (1 : Int32)).toNatClampNeg) (s 49 (x5 + (-1)).toNatClampNeg))) l))

set_option maxRecDepth 100000 in
set_option maxHeartbeats 4000000 in
theorem lp_X1_value_163 {G : ab_G} {d : Nat} {D : fl_D} {t : Nat} (htt : isT t) (K19 : Int32 → Int32 → Int32 → fl_I → fl_L → Int32 × fl_I × fl_L) (P19 : Int32 → Int32 → Int32 → fl_I → fl_L → Prop) (hK19 : ∀ (x4 : Int32) (x5 : Int32) (x6 : Int32) (s : fl_I) (l : fl_L), P19 x4 x5 x6 s l → ab_C G (d + 1) 0 0 M_X1_value 19 [some (.ref 47), none, none, some (.ref (t + 9)), some (.int x4), some (.int x5), some (.int x6), none] [] (hp D s l) (rt (some (.int (K19 x4 x5 x6 s l).1)) (hp D (K19 x4 x5 x6 s l).2.1 (K19 x4 x5 x6 s l).2.2))) : ∀ (x4 : Int32) (x5 : Int32) (x6 : Int32) (x7 : Int32) (s : fl_I) (l : fl_L), p_X1_value_163 P19 x4 x5 x6 x7 t s l → ab_C G (d + 1) 0 0 M_X1_value 163 [some (.ref 47), none, none, some (.ref (t + 9)), some (.int x4), some (.int x5), some (.int x6), some (.int x7)] [] (hp D s l) (rt (some (.int (f_X1_value_163 K19 x4 x5 x6 x7 t s l).1)) (hp D (f_X1_value_163 K19 x4 x5 x6 x7 t s l).2.1 (f_X1_value_163 K19 x4 x5 x6 x7 t s l).2.2)) := by
  intro x4 x5 x6 x7 s l hk
  generalize he : f_X1_value_163 K19 x4 x5 x6 x7 t s l = res
  unfold f_X1_value_163 at he
  unfold p_X1_value_163 at hk
  refine r_iload rfl rfl ?_
  refine r_bipush_ (a := -5) rfl (by decide) ?_
  refine r_icmp_ne rfl (fun c_167 => ?_) (fun c_167 => ?_)
  · rw [if_neg c_167] at he
    replace hk := hk.2 c_167
    refine r_iinc (b := x5 + (-1)) rfl rfl rfl (Nat.le_of_ble_eq_true rfl) rfl ?_
    refine r_aload_n rfl rfl ?_
    refine q_getfield rfl (cc_47 _) rfl ?_
    refine r_iload rfl rfl ?_
    refine r_iconst_ (a := 1) rfl (by decide) ?_
    refine r_isub rfl ?_
    refine r_iload rfl rfl ?_
    refine r_aload_n rfl rfl ?_
    refine q_getfield rfl (cc_47 _) rfl ?_
    refine r_iload rfl rfl ?_
    refine r_iconst_ (a := 1) rfl (by decide) ?_
    refine r_isub rfl ?_
    obtain ⟨hb2, hk⟩ := hk
    refine q_iald rfl (cc_49 _) hb2 ?_
    refine r_aload_n rfl rfl ?_
    refine q_getfield rfl (cc_47 _) rfl ?_
    refine r_iload rfl rfl ?_
    obtain ⟨hb3, hk⟩ := hk
    refine q_iald rfl (cc_49 _) hb3 ?_
    obtain ⟨hb4, hk⟩ := hk
    refine r_callS0 [_, _, _] _ rfl kY_X1_joined kT_X1_joined rfl rfl (Nat.le_of_ble_eq_true rfl) (Nat.le_of_ble_eq_true rfl) (s_X1_joined hb4) (fun r h q => ?_)
    obtain ⟨rfl, rfl⟩ := q
    simp only [Option.toList, List.cons_append, List.nil_append]
    obtain ⟨hb5, hk⟩ := hk
    refine w_iast rfl (cc_49 _) hb5 ?_
    subst he
    exact r_weak (L1 := [some (.ref 47), none, none, some (.ref (t + 9)), some (.int x4), some (.int (x5 + (-1))), some (.int x6), none]) ⟨rfl, rfl, rfl, rfl, rfl, trivial⟩ (lp_X1_value_241 htt _ _ hK19 _ _ _ _ _ hk)
  · rw [if_pos c_167] at he
    replace hk := hk.1 c_167
    refine r_iinc (b := x5 + (-2)) rfl rfl rfl (Nat.le_of_ble_eq_true rfl) rfl ?_
    refine r_aload_n rfl rfl ?_
    refine q_getfield rfl (cc_47 _) rfl ?_
    refine r_iload rfl rfl ?_
    obtain ⟨hb6, hk⟩ := hk
    refine q_iald rfl (cc_49 _) hb6 ?_
    refine r_aload_n rfl rfl ?_
    refine q_getfield rfl (cc_47 _) rfl ?_
    refine r_iload rfl rfl ?_
    refine r_iconst_ (a := 1) rfl (by decide) ?_
    refine r_iadd rfl ?_
    obtain ⟨hb7, hk⟩ := hk
    refine q_iald rfl (cc_49 _) hb7 ?_
    refine r_icmp_ge rfl (fun c_189 => ?_) (fun c_189 => ?_)
    · rw [if_pos c_189] at he
      replace hk := hk.1 c_189
      refine r_aload_n rfl rfl ?_
      refine r_iload rfl rfl ?_
      obtain ⟨hb8, hk⟩ := hk
      refine q_iald rfl (cT_9 htt) hb8 ?_
      refine r_istore rfl (Nat.le_of_ble_eq_true rfl) rfl ?_
      refine r_goto rfl ?_
      subst he
      exact r_weak (L1 := [some (.ref 47), none, none, some (.ref (t + 9)), some (.int (s (t + 9) x4.toNatClampNeg)), some (.int (x5 + (-2))), some (.int x6), none]) ⟨rfl, rfl, rfl, rfl, rfl, trivial⟩ (lp_X1_value_241 htt _ _ hK19 _ _ _ _ _ hk)
    · rw [if_neg c_189] at he
      replace hk := hk.2 c_189
      refine r_iload rfl rfl ?_
      refine r_iconst_ (a := 1) rfl (by decide) ?_
      refine r_iadd rfl ?_
      refine r_goto rfl ?_
      refine r_istore rfl (Nat.le_of_ble_eq_true rfl) rfl ?_
      refine r_goto rfl ?_
      subst he
      exact r_weak (L1 := [some (.ref 47), none, none, some (.ref (t + 9)), some (.int (x4 + (1 : Int32))), some (.int (x5 + (-2))), some (.int x6), none]) ⟨rfl, rfl, rfl, rfl, rfl, trivial⟩ (lp_X1_value_241 htt _ _ hK19 _ _ _ _ _ hk)

def f_X1_value_19 : Nat → Int32 → Int32 → Int32 → Nat → fl_I → fl_L → Int32 × fl_I × fl_L
  | 0, x4, x5, x6, t, s, l => (0, s, l)
  | n + 1, x4, x5, x6, t, s, l =>
    if ((408 : Int32) ≤ x6) then f_X1_value_247  t s l else if (x4 < 0) then f_X1_value_247  t s l else if ((408 : Int32) ≤ x4) then f_X1_value_247  t s l else if ((32 : Int32) ≤ x5) then f_X1_value_247  t s l else if ((s (t + 9) x4.toNatClampNeg) < 0) then if ((-7 : Int32) < (s (t + 9) x4.toNatClampNeg)) then if ((s (t + 9) x4.toNatClampNeg) = (-6 : Int32)) then if (x5 ≤ 0) then ((0 : Int32), s, l) else ((s 49 (x5 - (1 : Int32)).toNatClampNeg), s, l) else if (x5 < (2 : Int32)) then f_X1_value_161  t s l else if ((408 : Int32) ≤ (x4 + 1)) then f_X1_value_161  t s l else if ((s (t + 9) x4.toNatClampNeg) = (-4 : Int32)) then if ((s 49 (x5 - (1 : Int32)).toNatClampNeg) = 0) then f_X1_value_161  t s l else f_X1_value_163 (fun x4 x5 x6 s l => f_X1_value_19 n x4 x5 x6 t s l) (x4 + 1) x5 x6 (s (t + 9) x4.toNatClampNeg) t s l else f_X1_value_163 (fun x4 x5 x6 s l => f_X1_value_19 n x4 x5 x6 t s l) (x4 + 1) x5 x6 (s (t + 9) x4.toNatClampNeg) t s l else f_X1_value_241 (fun x4 x5 x6 s l => f_X1_value_19 n x4 x5 x6 t s l) (x4 + 1) (x5 + 1) x6 t (wi s 49 x5.toNatClampNeg (f_X1_varOf (s (t + 9) x4.toNatClampNeg) s l)) l else f_X1_value_241 (fun x4 x5 x6 s l => f_X1_value_19 n x4 x5 x6 t s l) (x4 + 1) (x5 + 1) x6 t (wi s 49 x5.toNatClampNeg (s (t + 9) x4.toNatClampNeg)) l

def p_X1_value_19 : Nat → Int32 → Int32 → Int32 → Nat → fl_I → fl_L → Prop
  | 0, _, _, _, _, _, _ => False
  | n + 1, x4, x5, x6, t, s, l =>
    ((((408 : Int32) ≤ x6) → p_X1_value_247  t s l) ∧ (¬ ((408 : Int32) ≤ x6) → (((x4 < 0) → p_X1_value_247  t s l) ∧ (¬ (x4 < 0) → ((((408 : Int32) ≤ x4) → p_X1_value_247  t s l) ∧ (¬ ((408 : Int32) ≤ x4) → ((((32 : Int32) ≤ x5) → p_X1_value_247  t s l) ∧ (¬ ((32 : Int32) ≤ x5) → (vp_in x4 408) ∧ ((((s (t + 9) x4.toNatClampNeg) < 0) → ((((-7 : Int32) < (s (t + 9) x4.toNatClampNeg)) → ((((s (t + 9) x4.toNatClampNeg) = (-6 : Int32)) → (((x5 ≤ 0) → True) ∧ (¬ (x5 ≤ 0) → (vp_in (x5 - (1 : Int32)) 32) ∧ True))) ∧ (¬ ((s (t + 9) x4.toNatClampNeg) = (-6 : Int32)) → (((x5 < (2 : Int32)) → p_X1_value_161  t s l) ∧ (¬ (x5 < (2 : Int32)) → ((((408 : Int32) ≤ (x4 + 1)) → p_X1_value_161  t s l) ∧ (¬ ((408 : Int32) ≤ (x4 + 1)) → ((((s (t + 9) x4.toNatClampNeg) = (-4 : Int32)) → (vp_in (x5 - (1 : Int32)) 32) ∧ ((((s 49 (x5 - (1 : Int32)).toNatClampNeg) = 0) → p_X1_value_161  t s l) ∧ (¬ ((s 49 (x5 - (1 : Int32)).toNatClampNeg) = 0) → p_X1_value_163 (fun x4 x5 x6 s l => p_X1_value_19 n x4 x5 x6 t s l) (x4 + 1) x5 x6 (s (t + 9) x4.toNatClampNeg) t s l))) ∧ (¬ ((s (t + 9) x4.toNatClampNeg) = (-4 : Int32)) → p_X1_value_163 (fun x4 x5 x6 s l => p_X1_value_19 n x4 x5 x6 t s l) (x4 + 1) x5 x6 (s (t + 9) x4.toNatClampNeg) t s l))))))))) ∧ (¬ ((-7 : Int32) < (s (t + 9) x4.toNatClampNeg)) → (p_X1_varOf (s (t + 9) x4.toNatClampNeg) s l) ∧ (vp_in x5 32) ∧ p_X1_value_241 (fun x4 x5 x6 s l => p_X1_value_19 n x4 x5 x6 t s l) (x4 + 1) (x5 + 1) x6 t (wi s 49 x5.toNatClampNeg (f_X1_varOf (s (t + 9) x4.toNatClampNeg) s l)) l))) ∧ (¬ ((s (t + 9) x4.toNatClampNeg) < 0) → (vp_in x5 32) ∧ p_X1_value_241 (fun x4 x5 x6 s l => p_X1_value_19 n x4 x5 x6 t s l) (x4 + 1) (x5 + 1) x6 t (wi s 49 x5.toNatClampNeg (s (t + 9) x4.toNatClampNeg)) l))))))))))

set_option maxRecDepth 100000 in
set_option maxHeartbeats 4000000 in
theorem lp_X1_value_19 {G : ab_G} {d : Nat} {D : fl_D} {t : Nat} (htt : isT t) : ∀ (n : Nat) (x4 : Int32) (x5 : Int32) (x6 : Int32) (s : fl_I) (l : fl_L), p_X1_value_19 n x4 x5 x6 t s l → ab_C G (d + 1) 0 0 M_X1_value 19 [some (.ref 47), none, none, some (.ref (t + 9)), some (.int x4), some (.int x5), some (.int x6), none] [] (hp D s l) (rt (some (.int (f_X1_value_19 n x4 x5 x6 t s l).1)) (hp D (f_X1_value_19 n x4 x5 x6 t s l).2.1 (f_X1_value_19 n x4 x5 x6 t s l).2.2)) := by
  intro n
  induction n with
  | zero => intro x4 x5 x6 s l hk; exact hk.elim
  | succ n ih =>
    intro x4 x5 x6 s l hk
    generalize he : f_X1_value_19 (n + 1) x4 x5 x6 t s l = res
    unfold f_X1_value_19 at he
    unfold p_X1_value_19 at hk
    refine r_iload rfl rfl ?_
    refine r_sipush_ (a := 408) rfl (by decide) ?_
    refine r_icmp_ge rfl (fun c_24 => ?_) (fun c_24 => ?_)
    · rw [if_pos c_24] at he
      replace hk := hk.1 c_24
      subst he
      exact r_weak (L1 := [none, none, none, none, none, none, none, none]) trivial (lp_X1_value_247 htt _ _ hk)
    · rw [if_neg c_24] at he
      replace hk := hk.2 c_24
      refine r_iload rfl rfl ?_
      refine r_if_lt rfl (fun c_29 => ?_) (fun c_29 => ?_)
      · rw [if_pos c_29] at he
        replace hk := hk.1 c_29
        subst he
        exact r_weak (L1 := [none, none, none, none, none, none, none, none]) trivial (lp_X1_value_247 htt _ _ hk)
      · rw [if_neg c_29] at he
        replace hk := hk.2 c_29
        refine r_iload rfl rfl ?_
        refine r_sipush_ (a := 408) rfl (by decide) ?_
        refine r_icmp_ge rfl (fun c_37 => ?_) (fun c_37 => ?_)
        · rw [if_pos c_37] at he
          replace hk := hk.1 c_37
          subst he
          exact r_weak (L1 := [none, none, none, none, none, none, none, none]) trivial (lp_X1_value_247 htt _ _ hk)
        · rw [if_neg c_37] at he
          replace hk := hk.2 c_37
          refine r_iload rfl rfl ?_
          refine r_bipush_ (a := 32) rfl (by decide) ?_
          refine r_icmp_ge rfl (fun c_44 => ?_) (fun c_44 => ?_)
          · rw [if_pos c_44] at he
            replace hk := hk.1 c_44
            subst he
            exact r_weak (L1 := [none, none, none, none, none, none, none, none]) trivial (lp_X1_value_247 htt _ _ hk)
          · rw [if_neg c_44] at he
            replace hk := hk.2 c_44
            refine r_aload_n rfl rfl ?_
            refine r_iload rfl rfl ?_
            obtain ⟨hb1, hk⟩ := hk
            refine q_iald rfl (cT_9 htt) hb1 ?_
            refine r_istore rfl (Nat.le_of_ble_eq_true rfl) rfl ?_
            refine r_iinc (b := x4 + 1) rfl rfl rfl (Nat.le_of_ble_eq_true rfl) rfl ?_
            refine r_iload rfl rfl ?_
            refine r_if_lt rfl (fun c_58 => ?_) (fun c_58 => ?_)
            · rw [if_pos c_58] at he
              replace hk := hk.1 c_58
              refine r_iload rfl rfl ?_
              refine r_bipush_ (a := -7) rfl (by decide) ?_
              refine r_icmp_gt rfl (fun c_80 => ?_) (fun c_80 => ?_)
              · rw [if_pos c_80] at he
                replace hk := hk.1 c_80
                refine r_iload rfl rfl ?_
                refine r_bipush_ (a := -6) rfl (by decide) ?_
                refine r_icmp_ne rfl (fun c_106 => ?_) (fun c_106 => ?_)
                · rw [if_neg c_106] at he
                  replace hk := hk.2 c_106
                  refine r_iload rfl rfl ?_
                  refine r_iconst_ (a := 2) rfl (by decide) ?_
                  refine r_icmp_lt rfl (fun c_131 => ?_) (fun c_131 => ?_)
                  · rw [if_pos c_131] at he
                    replace hk := hk.1 c_131
                    subst he
                    exact r_weak (L1 := [none, none, none, none, none, none, none, none]) trivial (lp_X1_value_161 htt _ _ hk)
                  · rw [if_neg c_131] at he
                    replace hk := hk.2 c_131
                    refine r_iload rfl rfl ?_
                    refine r_sipush_ (a := 408) rfl (by decide) ?_
                    refine r_icmp_ge rfl (fun c_139 => ?_) (fun c_139 => ?_)
                    · rw [if_pos c_139] at he
                      replace hk := hk.1 c_139
                      subst he
                      exact r_weak (L1 := [none, none, none, none, none, none, none, none]) trivial (lp_X1_value_161 htt _ _ hk)
                    · rw [if_neg c_139] at he
                      replace hk := hk.2 c_139
                      refine r_iload rfl rfl ?_
                      refine r_bipush_ (a := -4) rfl (by decide) ?_
                      refine r_icmp_ne rfl (fun c_146 => ?_) (fun c_146 => ?_)
                      · rw [if_neg c_146] at he
                        replace hk := hk.2 c_146
                        subst he
                        exact r_weak (L1 := [some (.ref 47), none, none, some (.ref (t + 9)), some (.int (x4 + 1)), some (.int x5), some (.int x6), some (.int (s (t + 9) x4.toNatClampNeg))]) ⟨rfl, rfl, rfl, rfl, rfl, rfl, trivial⟩ (lp_X1_value_163 htt _ _ (fun _ _ _ _ _ h9 => ih _ _ _ _ _ h9) _ _ _ _ _ _ hk)
                      · rw [if_pos c_146] at he
                        replace hk := hk.1 c_146
                        refine r_aload_n rfl rfl ?_
                        refine q_getfield rfl (cc_47 _) rfl ?_
                        refine r_iload rfl rfl ?_
                        refine r_iconst_ (a := 1) rfl (by decide) ?_
                        refine r_isub rfl ?_
                        obtain ⟨hb9, hk⟩ := hk
                        refine q_iald rfl (cc_49 _) hb9 ?_
                        refine r_if_ne rfl (fun c_158 => ?_) (fun c_158 => ?_)
                        · rw [if_neg c_158] at he
                          replace hk := hk.2 c_158
                          subst he
                          exact r_weak (L1 := [some (.ref 47), none, none, some (.ref (t + 9)), some (.int (x4 + 1)), some (.int x5), some (.int x6), some (.int (s (t + 9) x4.toNatClampNeg))]) ⟨rfl, rfl, rfl, rfl, rfl, rfl, trivial⟩ (lp_X1_value_163 htt _ _ (fun _ _ _ _ _ h9 => ih _ _ _ _ _ h9) _ _ _ _ _ _ hk)
                        · rw [if_pos c_158] at he
                          replace hk := hk.1 c_158
                          subst he
                          exact r_weak (L1 := [none, none, none, none, none, none, none, none]) trivial (lp_X1_value_161 htt _ _ hk)
                · rw [if_pos c_106] at he
                  replace hk := hk.1 c_106
                  refine r_iload rfl rfl ?_
                  refine r_if_le rfl (fun c_111 => ?_) (fun c_111 => ?_)
                  · rw [if_pos c_111] at he
                    replace hk := hk.1 c_111
                    refine r_iconst_ (a := 0) rfl (by decide) ?_
                    refine r_iret rfl rfl rfl ?_
                    subst he
                    exact ⟨rfl, rfl⟩
                  · rw [if_neg c_111] at he
                    replace hk := hk.2 c_111
                    refine r_aload_n rfl rfl ?_
                    refine q_getfield rfl (cc_47 _) rfl ?_
                    refine r_iload rfl rfl ?_
                    refine r_iconst_ (a := 1) rfl (by decide) ?_
                    refine r_isub rfl ?_
                    obtain ⟨hb10, hk⟩ := hk
                    refine q_iald rfl (cc_49 _) hb10 ?_
                    refine r_goto rfl ?_
                    refine r_iret rfl rfl rfl ?_
                    subst he
                    exact ⟨rfl, rfl⟩
              · rw [if_neg c_80] at he
                replace hk := hk.2 c_80
                refine r_aload_n rfl rfl ?_
                refine q_getfield rfl (cc_47 _) rfl ?_
                refine r_iload rfl rfl ?_
                refine r_aload_n rfl rfl ?_
                refine r_iload rfl rfl ?_
                obtain ⟨hb11, hk⟩ := hk
                refine q_callV0 [_] _ rfl kY_X1_varOf kT_X1_varOf rfl rfl (Nat.le_of_ble_eq_true rfl) (Nat.le_of_ble_eq_true rfl) (cc_47 _) (s_X1_varOf hb11) (fun r h q => ?_)
                obtain ⟨rfl, rfl⟩ := q
                simp only [Option.toList, List.cons_append, List.nil_append]
                obtain ⟨hb12, hk⟩ := hk
                refine w_iast rfl (cc_49 _) hb12 ?_
                refine r_iinc (b := x5 + 1) rfl rfl rfl (Nat.le_of_ble_eq_true rfl) rfl ?_
                refine r_goto rfl ?_
                subst he
                exact r_weak (L1 := [some (.ref 47), none, none, some (.ref (t + 9)), some (.int (x4 + 1)), some (.int (x5 + 1)), some (.int x6), none]) ⟨rfl, rfl, rfl, rfl, rfl, trivial⟩ (lp_X1_value_241 htt _ _ (fun _ _ _ _ _ h9 => ih _ _ _ _ _ h9) _ _ _ _ _ hk)
            · rw [if_neg c_58] at he
              replace hk := hk.2 c_58
              refine r_aload_n rfl rfl ?_
              refine q_getfield rfl (cc_47 _) rfl ?_
              refine r_iload rfl rfl ?_
              refine r_iload rfl rfl ?_
              obtain ⟨hb13, hk⟩ := hk
              refine w_iast rfl (cc_49 _) hb13 ?_
              refine r_iinc (b := x5 + 1) rfl rfl rfl (Nat.le_of_ble_eq_true rfl) rfl ?_
              refine r_goto rfl ?_
              subst he
              exact r_weak (L1 := [some (.ref 47), none, none, some (.ref (t + 9)), some (.int (x4 + 1)), some (.int (x5 + 1)), some (.int x6), none]) ⟨rfl, rfl, rfl, rfl, rfl, trivial⟩ (lp_X1_value_241 htt _ _ (fun _ _ _ _ _ h9 => ih _ _ _ _ _ h9) _ _ _ _ _ hk)

def f_X1_value (v1 : Int32) (t : Nat) (s : fl_I) (l : fl_L) : Int32 × fl_I × fl_L :=
  f_X1_value_19 fu (s (t + 10) v1.toNatClampNeg) (0 : Int32) (0 : Int32) t s l

def p_X1_value (v1 : Int32) (t : Nat) (s : fl_I) (l : fl_L) : Prop :=
  (vp_in v1 3) ∧ p_X1_value_19 fu (s (t + 10) v1.toNatClampNeg) (0 : Int32) (0 : Int32) t s l

set_option maxRecDepth 100000 in
set_option maxHeartbeats 4000000 in
theorem s_X1_value {G : ab_G} {d : Nat} {D : fl_D} {s : fl_I} {l : fl_L} {t : Nat} (htt : isT t) {v1 : Int32} (hk : p_X1_value v1 t s l) : ab_C G (d + 1) 0 0 M_X1_value 0 (ab_ent [.ref 47, .ref t, .int v1]) [] (hp D s l) (rt (some (.int (f_X1_value v1 t s l).1)) (hp D (f_X1_value v1 t s l).2.1 (f_X1_value v1 t s l).2.2)) := by
  generalize he : (f_X1_value v1 t s l) = res
  unfold f_X1_value at he
  unfold p_X1_value at hk
  refine r_weak (L1 := [some (.ref 47), some (.ref t), some (.int v1), none, none, none, none, none]) ⟨rfl, rfl, rfl, trivial⟩ ?_
  refine r_aload_n rfl rfl ?_
  refine q_getfield rfl (cT_0 htt) rfl ?_
  refine r_astore_n rfl (Nat.le_of_ble_eq_true rfl) rfl ?_
  refine r_aload_n rfl rfl ?_
  refine q_getfield rfl (cT_0 htt) rfl ?_
  refine r_iload_n rfl rfl ?_
  obtain ⟨hb0, hk⟩ := hk
  refine q_iald rfl (cT_10 htt) hb0 ?_
  refine r_istore rfl (Nat.le_of_ble_eq_true rfl) rfl ?_
  refine r_iconst_ (a := 0) rfl (by decide) ?_
  refine r_istore rfl (Nat.le_of_ble_eq_true rfl) rfl ?_
  refine r_iconst_ (a := 0) rfl (by decide) ?_
  refine r_istore rfl (Nat.le_of_ble_eq_true rfl) rfl ?_
  subst he
  exact r_weak (L1 := [some (.ref 47), none, none, some (.ref (t + 9)), some (.int (s (t + 10) v1.toNatClampNeg)), some (.int (0 : Int32)), some (.int (0 : Int32)), none]) ⟨rfl, rfl, rfl, rfl, rfl, trivial⟩ (lp_X1_value_19 htt fu _ _ _ _ _ hk)

def f_X12_expression_272 (s : fl_I) (l : fl_L) : fl_I × fl_L :=
    (s, l)

def p_X12_expression_272 (s : fl_I) (l : fl_L) : Prop :=
    True

set_option maxRecDepth 100000 in
set_option maxHeartbeats 4000000 in
theorem lp_X12_expression_272 {G : ab_G} {d : Nat} {D : fl_D} : ∀ (s : fl_I) (l : fl_L), p_X12_expression_272  s l → ab_C G (d + 3) 0 0 M_X12_expression 272 [none, none, none] [] (hp D s l) (rt none (hp D (f_X12_expression_272  s l).1 (f_X12_expression_272  s l).2)) := by
  intro  s l hk
  generalize he : f_X12_expression_272  s l = res
  unfold f_X12_expression_272 at he
  unfold p_X12_expression_272 at hk
  refine r_ret rfl rfl ?_
  subst he
  exact ⟨rfl, rfl⟩

def f_X12_expression_269 (K12 : Int32 → Int32 → fl_I → fl_L → fl_I × fl_L) (x1 : Int32) (x2 : Int32) (s : fl_I) (l : fl_L) : fl_I × fl_L :=
    K12 x1 x2 s l

def p_X12_expression_269 (P12 : Int32 → Int32 → fl_I → fl_L → Prop) (x1 : Int32) (x2 : Int32) (s : fl_I) (l : fl_L) : Prop :=
    P12 x1 x2 s l

set_option maxRecDepth 100000 in
set_option maxHeartbeats 4000000 in
theorem lp_X12_expression_269 {G : ab_G} {d : Nat} {D : fl_D} (K12 : Int32 → Int32 → fl_I → fl_L → fl_I × fl_L) (P12 : Int32 → Int32 → fl_I → fl_L → Prop) (hK12 : ∀ (x1 : Int32) (x2 : Int32) (s : fl_I) (l : fl_L), P12 x1 x2 s l → ab_C G (d + 3) 0 0 M_X12_expression 12 [some (.ref 60), some (.int x1), some (.int x2)] [] (hp D s l) (rt none (hp D (K12 x1 x2 s l).1 (K12 x1 x2 s l).2))) : ∀ (x1 : Int32) (x2 : Int32) (s : fl_I) (l : fl_L), p_X12_expression_269 P12 x1 x2 s l → ab_C G (d + 3) 0 0 M_X12_expression 269 [some (.ref 60), some (.int x1), some (.int x2)] [] (hp D s l) (rt none (hp D (f_X12_expression_269 K12 x1 x2 s l).1 (f_X12_expression_269 K12 x1 x2 s l).2)) := by
  intro x1 x2 s l hk
  generalize he : f_X12_expression_269 K12 x1 x2 s l = res
  unfold f_X12_expression_269 at he
  unfold p_X12_expression_269 at hk
  refine r_goto rfl ?_
  subst he
  exact r_weak (L1 := [some (.ref 60), some (.int x1), some (.int x2)]) ⟨rfl, rfl, rfl, trivial⟩ (hK12 _ _ _ _ hk)

def f_X12_expression_237 (K12 : Int32 → Int32 → fl_I → fl_L → fl_I × fl_L) (x1 : Int32) (x2 : Int32) (s : fl_I) (l : fl_L) : fl_I × fl_L :=
    f_X12_expression_269 K12 x1 x2 (f_X12_goesOn (wi (wi s 91 (s 60 46).toNatClampNeg (s 63 (s 60 11).toNatClampNeg)) 60 46 (((wi s 91 (s 60 46).toNatClampNeg (s 63 (s 60 11).toNatClampNeg)) 60 46) + (1 : Int32))) l).1 (f_X12_goesOn (wi (wi s 91 (s 60 46).toNatClampNeg (s 63 (s 60 11).toNatClampNeg)) 60 46 (((wi s 91 (s 60 46).toNatClampNeg (s 63 (s 60 11).toNatClampNeg)) 60 46) + (1 : Int32))) l).2

def p_X12_expression_237 (P12 : Int32 → Int32 → fl_I → fl_L → Prop) (x1 : Int32) (x2 : Int32) (s : fl_I) (l : fl_L) : Prop :=
    (vp_in (s 60 11) 403) ∧ (vp_in (s 60 46) 64) ∧ (p_X12_goesOn (wi (wi s 91 (s 60 46).toNatClampNeg (s 63 (s 60 11).toNatClampNeg)) 60 46 (((wi s 91 (s 60 46).toNatClampNeg (s 63 (s 60 11).toNatClampNeg)) 60 46) + (1 : Int32))) l) ∧ p_X12_expression_269 P12 x1 x2 (f_X12_goesOn (wi (wi s 91 (s 60 46).toNatClampNeg (s 63 (s 60 11).toNatClampNeg)) 60 46 (((wi s 91 (s 60 46).toNatClampNeg (s 63 (s 60 11).toNatClampNeg)) 60 46) + (1 : Int32))) l).1 (f_X12_goesOn (wi (wi s 91 (s 60 46).toNatClampNeg (s 63 (s 60 11).toNatClampNeg)) 60 46 (((wi s 91 (s 60 46).toNatClampNeg (s 63 (s 60 11).toNatClampNeg)) 60 46) + (1 : Int32))) l).2

set_option maxRecDepth 100000 in
set_option maxHeartbeats 4000000 in
theorem lp_X12_expression_237 {G : ab_G} {d : Nat} {D : fl_D} (K12 : Int32 → Int32 → fl_I → fl_L → fl_I × fl_L) (P12 : Int32 → Int32 → fl_I → fl_L → Prop) (hK12 : ∀ (x1 : Int32) (x2 : Int32) (s : fl_I) (l : fl_L), P12 x1 x2 s l → ab_C G (d + 3) 0 0 M_X12_expression 12 [some (.ref 60), some (.int x1), some (.int x2)] [] (hp D s l) (rt none (hp D (K12 x1 x2 s l).1 (K12 x1 x2 s l).2))) : ∀ (x1 : Int32) (x2 : Int32) (s : fl_I) (l : fl_L), p_X12_expression_237 P12 x1 x2 s l → ab_C G (d + 3) 0 0 M_X12_expression 237 [some (.ref 60), some (.int x1), some (.int x2)] [] (hp D s l) (rt none (hp D (f_X12_expression_237 K12 x1 x2 s l).1 (f_X12_expression_237 K12 x1 x2 s l).2)) := by
  intro x1 x2 s l hk
  generalize he : f_X12_expression_237 K12 x1 x2 s l = res
  unfold f_X12_expression_237 at he
  unfold p_X12_expression_237 at hk
  refine r_aload_n rfl rfl ?_
  refine q_getfield rfl (cc_60 _) rfl ?_
  refine r_aload_n rfl rfl ?_
  refine q_getfield rfl (cc_60 _) rfl ?_
  refine r_aload_n rfl rfl ?_
  refine q_getfield rfl (cc_60 _) rfl ?_
  refine r_aload_n rfl rfl ?_
  refine q_getfield rfl (cc_60 _) rfl ?_
  obtain ⟨hb6, hk⟩ := hk
  refine q_iald rfl (cc_63 _) hb6 ?_
  obtain ⟨hb7, hk⟩ := hk
  refine w_iast rfl (cc_91 _) hb7 ?_
  refine r_aload_n rfl rfl ?_
  refine r_dup rfl rfl ?_
  refine q_getfield rfl (cc_60 _) rfl ?_
  refine r_iconst_ (a := 1) rfl (by decide) ?_
  refine r_iadd rfl ?_
  refine w_put rfl (cc_60 _) ff_12_46 ft_12_46 (Nat.le_of_ble_eq_true rfl) rfl ?_
  refine r_aload_n rfl rfl ?_
  obtain ⟨hb8, hk⟩ := hk
  refine q_callV0 [] _ rfl kY_X12_goesOn kT_X12_goesOn rfl rfl (Nat.le_of_ble_eq_true rfl) (Nat.le_of_ble_eq_true rfl) (cc_60 _) (s_X12_goesOn hb8) (fun r h q => ?_)
  obtain ⟨rfl, rfl⟩ := q
  simp only [Option.toList, List.cons_append, List.nil_append]
  subst he
  exact r_weak (L1 := [some (.ref 60), some (.int x1), some (.int x2)]) ⟨rfl, rfl, rfl, trivial⟩ (lp_X12_expression_269 _ _ hK12 _ _ _ _ hk)

def f_X12_expression_209 (s : fl_I) (l : fl_L) : fl_I × fl_L :=
    (s, l)

def p_X12_expression_209 (s : fl_I) (l : fl_L) : Prop :=
    True

set_option maxRecDepth 100000 in
set_option maxHeartbeats 4000000 in
theorem lp_X12_expression_209 {G : ab_G} {d : Nat} {D : fl_D} : ∀ (s : fl_I) (l : fl_L), p_X12_expression_209  s l → ab_C G (d + 3) 0 0 M_X12_expression 209 [none, none, none] [] (hp D s l) (rt none (hp D (f_X12_expression_209  s l).1 (f_X12_expression_209  s l).2)) := by
  intro  s l hk
  generalize he : f_X12_expression_209  s l = res
  unfold f_X12_expression_209 at he
  unfold p_X12_expression_209 at hk
  refine r_ret rfl rfl ?_
  subst he
  exact ⟨rfl, rfl⟩

def f_X12_expression_204 (s : fl_I) (l : fl_L) : fl_I × fl_L :=
    f_X12_expression_209  (f_X12_comesOut (0 : Int32) s l).1 (f_X12_comesOut (0 : Int32) s l).2

def p_X12_expression_204 (s : fl_I) (l : fl_L) : Prop :=
    (p_X12_comesOut (0 : Int32) s l) ∧ p_X12_expression_209  (f_X12_comesOut (0 : Int32) s l).1 (f_X12_comesOut (0 : Int32) s l).2

set_option maxRecDepth 100000 in
set_option maxHeartbeats 4000000 in
theorem lp_X12_expression_204 {G : ab_G} {d : Nat} {D : fl_D} : ∀ (s : fl_I) (l : fl_L), p_X12_expression_204  s l → ab_C G (d + 3) 0 0 M_X12_expression 204 [some (.ref 60), none, none] [] (hp D s l) (rt none (hp D (f_X12_expression_204  s l).1 (f_X12_expression_204  s l).2)) := by
  intro  s l hk
  generalize he : f_X12_expression_204  s l = res
  unfold f_X12_expression_204 at he
  unfold p_X12_expression_204 at hk
  refine r_aload_n rfl rfl ?_
  refine r_iconst_ (a := 0) rfl (by decide) ?_
  obtain ⟨hb12, hk⟩ := hk
  refine q_callV0 [_] _ rfl kY_X12_comesOut kT_X12_comesOut rfl rfl (Nat.le_of_ble_eq_true rfl) (Nat.le_of_ble_eq_true rfl) (cc_60 _) (s_X12_comesOut hb12) (fun r h q => ?_)
  obtain ⟨rfl, rfl⟩ := q
  simp only [Option.toList, List.cons_append, List.nil_append]
  subst he
  exact r_weak (L1 := [none, none, none]) trivial (lp_X12_expression_209 _ _ hk)

def f_X12_expression_181 (K12 : Int32 → Int32 → fl_I → fl_L → fl_I × fl_L) (x1 : Int32) (s : fl_I) (l : fl_L) : fl_I × fl_L :=
    if ((1 : Int32) = 0) then if ((s 60 12) ≤ x1) then f_X12_expression_204  s l else f_X12_expression_204  (f_X12_fail (1 : Int32) s l).1 (f_X12_fail (1 : Int32) s l).2 else if ((f_X12_is (10 : Int32) s l) = 0) then if ((f_X12_is (15 : Int32) s l) = 0) then f_X12_expression_237 K12 x1 (1 : Int32) (f_X12_comesOut (0 : Int32) s l).1 (f_X12_comesOut (0 : Int32) s l).2 else f_X12_expression_237 K12 x1 (1 : Int32) (f_X12_comesOut (1 : Int32) s l).1 (f_X12_comesOut (1 : Int32) s l).2 else f_X12_expression_237 K12 x1 (1 : Int32) (f_X12_comesOut (1 : Int32) s l).1 (f_X12_comesOut (1 : Int32) s l).2

def p_X12_expression_181 (P12 : Int32 → Int32 → fl_I → fl_L → Prop) (x1 : Int32) (s : fl_I) (l : fl_L) : Prop :=
    ((((1 : Int32) = 0) → ((((s 60 12) ≤ x1) → p_X12_expression_204  s l) ∧ (¬ ((s 60 12) ≤ x1) → (p_X12_fail (1 : Int32) s l) ∧ p_X12_expression_204  (f_X12_fail (1 : Int32) s l).1 (f_X12_fail (1 : Int32) s l).2))) ∧ (¬ ((1 : Int32) = 0) → (p_X12_is (10 : Int32) s l) ∧ ((((f_X12_is (10 : Int32) s l) = 0) → (p_X12_is (15 : Int32) s l) ∧ ((((f_X12_is (15 : Int32) s l) = 0) → (p_X12_comesOut (0 : Int32) s l) ∧ p_X12_expression_237 P12 x1 (1 : Int32) (f_X12_comesOut (0 : Int32) s l).1 (f_X12_comesOut (0 : Int32) s l).2) ∧ (¬ ((f_X12_is (15 : Int32) s l) = 0) → (p_X12_comesOut (1 : Int32) s l) ∧ p_X12_expression_237 P12 x1 (1 : Int32) (f_X12_comesOut (1 : Int32) s l).1 (f_X12_comesOut (1 : Int32) s l).2))) ∧ (¬ ((f_X12_is (10 : Int32) s l) = 0) → (p_X12_comesOut (1 : Int32) s l) ∧ p_X12_expression_237 P12 x1 (1 : Int32) (f_X12_comesOut (1 : Int32) s l).1 (f_X12_comesOut (1 : Int32) s l).2))))

set_option maxRecDepth 100000 in
set_option maxHeartbeats 4000000 in
theorem lp_X12_expression_181 {G : ab_G} {d : Nat} {D : fl_D} (K12 : Int32 → Int32 → fl_I → fl_L → fl_I × fl_L) (P12 : Int32 → Int32 → fl_I → fl_L → Prop) (hK12 : ∀ (x1 : Int32) (x2 : Int32) (s : fl_I) (l : fl_L), P12 x1 x2 s l → ab_C G (d + 3) 0 0 M_X12_expression 12 [some (.ref 60), some (.int x1), some (.int x2)] [] (hp D s l) (rt none (hp D (K12 x1 x2 s l).1 (K12 x1 x2 s l).2))) : ∀ (x1 : Int32) (s : fl_I) (l : fl_L), p_X12_expression_181 P12 x1 s l → ab_C G (d + 3) 0 0 M_X12_expression 181 [some (.ref 60), some (.int x1), none] [] (hp D s l) (rt none (hp D (f_X12_expression_181 K12 x1 s l).1 (f_X12_expression_181 K12 x1 s l).2)) := by
  intro x1 s l hk
  generalize he : f_X12_expression_181 K12 x1 s l = res
  unfold f_X12_expression_181 at he
  unfold p_X12_expression_181 at hk
  refine r_iconst_ (a := 1) rfl (by decide) ?_
  refine r_goto rfl ?_
  refine r_istore_n rfl (Nat.le_of_ble_eq_true rfl) rfl ?_
  refine r_iload_n rfl rfl ?_
  refine r_if_ne rfl (fun c_188 => ?_) (fun c_188 => ?_)
  · rw [if_neg c_188] at he
    replace hk := hk.2 c_188
    refine r_aload_n rfl rfl ?_
    refine r_aload_n rfl rfl ?_
    refine r_bipush_ (a := 10) rfl (by decide) ?_
    obtain ⟨hb4, hk⟩ := hk
    refine q_callV0 [_] _ rfl kY_X12_is kT_X12_is rfl rfl (Nat.le_of_ble_eq_true rfl) (Nat.le_of_ble_eq_true rfl) (cc_60 _) (s_X12_is hb4) (fun r h q => ?_)
    obtain ⟨rfl, rfl⟩ := q
    simp only [Option.toList, List.cons_append, List.nil_append]
    refine r_if_ne rfl (fun c_217 => ?_) (fun c_217 => ?_)
    · rw [if_neg c_217] at he
      replace hk := hk.2 c_217
      refine r_iconst_ (a := 1) rfl (by decide) ?_
      refine r_goto rfl ?_
      obtain ⟨hb5, hk⟩ := hk
      refine q_callV0 [_] _ rfl kY_X12_comesOut kT_X12_comesOut rfl rfl (Nat.le_of_ble_eq_true rfl) (Nat.le_of_ble_eq_true rfl) (cc_60 _) (s_X12_comesOut hb5) (fun r h q => ?_)
      obtain ⟨rfl, rfl⟩ := q
      simp only [Option.toList, List.cons_append, List.nil_append]
      subst he
      exact r_weak (L1 := [some (.ref 60), some (.int x1), some (.int (1 : Int32))]) ⟨rfl, rfl, rfl, trivial⟩ (lp_X12_expression_237 _ _ hK12 _ _ _ _ hk)
    · rw [if_pos c_217] at he
      replace hk := hk.1 c_217
      refine r_aload_n rfl rfl ?_
      refine r_bipush_ (a := 15) rfl (by decide) ?_
      obtain ⟨hb9, hk⟩ := hk
      refine q_callV0 [_] _ rfl kY_X12_is kT_X12_is rfl rfl (Nat.le_of_ble_eq_true rfl) (Nat.le_of_ble_eq_true rfl) (cc_60 _) (s_X12_is hb9) (fun r h q => ?_)
      obtain ⟨rfl, rfl⟩ := q
      simp only [Option.toList, List.cons_append, List.nil_append]
      refine r_if_eq rfl (fun c_226 => ?_) (fun c_226 => ?_)
      · rw [if_pos c_226] at he
        replace hk := hk.1 c_226
        refine r_iconst_ (a := 0) rfl (by decide) ?_
        obtain ⟨hb10, hk⟩ := hk
        refine q_callV0 [_] _ rfl kY_X12_comesOut kT_X12_comesOut rfl rfl (Nat.le_of_ble_eq_true rfl) (Nat.le_of_ble_eq_true rfl) (cc_60 _) (s_X12_comesOut hb10) (fun r h q => ?_)
        obtain ⟨rfl, rfl⟩ := q
        simp only [Option.toList, List.cons_append, List.nil_append]
        subst he
        exact r_weak (L1 := [some (.ref 60), some (.int x1), some (.int (1 : Int32))]) ⟨rfl, rfl, rfl, trivial⟩ (lp_X12_expression_237 _ _ hK12 _ _ _ _ hk)
      · rw [if_neg c_226] at he
        replace hk := hk.2 c_226
        refine r_iconst_ (a := 1) rfl (by decide) ?_
        refine r_goto rfl ?_
        obtain ⟨hb11, hk⟩ := hk
        refine q_callV0 [_] _ rfl kY_X12_comesOut kT_X12_comesOut rfl rfl (Nat.le_of_ble_eq_true rfl) (Nat.le_of_ble_eq_true rfl) (cc_60 _) (s_X12_comesOut hb11) (fun r h q => ?_)
        obtain ⟨rfl, rfl⟩ := q
        simp only [Option.toList, List.cons_append, List.nil_append]
        subst he
        exact r_weak (L1 := [some (.ref 60), some (.int x1), some (.int (1 : Int32))]) ⟨rfl, rfl, rfl, trivial⟩ (lp_X12_expression_237 _ _ hK12 _ _ _ _ hk)
  · rw [if_pos c_188] at he
    replace hk := hk.1 c_188
    refine r_aload_n rfl rfl ?_
    refine q_getfield rfl (cc_60 _) rfl ?_
    refine r_iload_n rfl rfl ?_
    refine r_icmp_le rfl (fun c_196 => ?_) (fun c_196 => ?_)
    · rw [if_pos c_196] at he
      replace hk := hk.1 c_196
      subst he
      exact r_weak (L1 := [some (.ref 60), none, none]) ⟨rfl, trivial⟩ (lp_X12_expression_204 _ _ hk)
    · rw [if_neg c_196] at he
      replace hk := hk.2 c_196
      refine r_aload_n rfl rfl ?_
      refine r_iconst_ (a := 1) rfl (by decide) ?_
      obtain ⟨hb13, hk⟩ := hk
      refine q_callV0 [_] _ rfl kY_X12_fail kT_X12_fail rfl rfl (Nat.le_of_ble_eq_true rfl) (Nat.le_of_ble_eq_true rfl) (cc_60 _) (s_X12_fail hb13) (fun r h q => ?_)
      obtain ⟨rfl, rfl⟩ := q
      simp only [Option.toList, List.cons_append, List.nil_append]
      subst he
      exact r_weak (L1 := [some (.ref 60), none, none]) ⟨rfl, trivial⟩ (lp_X12_expression_204 _ _ hk)

def f_X12_expression_145 (K12 : Int32 → Int32 → fl_I → fl_L → fl_I × fl_L) (x1 : Int32) (s : fl_I) (l : fl_L) : fl_I × fl_L :=
    if ((f_X12_is (8 : Int32) s l) = 0) then if ((f_X12_is (9 : Int32) s l) = 0) then if ((f_X12_is (10 : Int32) s l) = 0) then if ((f_X12_is (15 : Int32) s l) = 0) then if ((0 : Int32) = 0) then if ((s 60 12) ≤ x1) then f_X12_expression_204  s l else f_X12_expression_204  (f_X12_fail (1 : Int32) s l).1 (f_X12_fail (1 : Int32) s l).2 else if ((f_X12_is (10 : Int32) s l) = 0) then if ((f_X12_is (15 : Int32) s l) = 0) then f_X12_expression_237 K12 x1 (0 : Int32) (f_X12_comesOut (0 : Int32) s l).1 (f_X12_comesOut (0 : Int32) s l).2 else f_X12_expression_237 K12 x1 (0 : Int32) (f_X12_comesOut (1 : Int32) s l).1 (f_X12_comesOut (1 : Int32) s l).2 else f_X12_expression_237 K12 x1 (0 : Int32) (f_X12_comesOut (1 : Int32) s l).1 (f_X12_comesOut (1 : Int32) s l).2 else f_X12_expression_181 K12 x1 s l else f_X12_expression_181 K12 x1 s l else f_X12_expression_181 K12 x1 s l else f_X12_expression_181 K12 x1 s l

def p_X12_expression_145 (P12 : Int32 → Int32 → fl_I → fl_L → Prop) (x1 : Int32) (s : fl_I) (l : fl_L) : Prop :=
    (p_X12_is (8 : Int32) s l) ∧ ((((f_X12_is (8 : Int32) s l) = 0) → (p_X12_is (9 : Int32) s l) ∧ ((((f_X12_is (9 : Int32) s l) = 0) → (p_X12_is (10 : Int32) s l) ∧ ((((f_X12_is (10 : Int32) s l) = 0) → (p_X12_is (15 : Int32) s l) ∧ ((((f_X12_is (15 : Int32) s l) = 0) → ((((0 : Int32) = 0) → ((((s 60 12) ≤ x1) → p_X12_expression_204  s l) ∧ (¬ ((s 60 12) ≤ x1) → (p_X12_fail (1 : Int32) s l) ∧ p_X12_expression_204  (f_X12_fail (1 : Int32) s l).1 (f_X12_fail (1 : Int32) s l).2))) ∧ (¬ ((0 : Int32) = 0) → (p_X12_is (10 : Int32) s l) ∧ ((((f_X12_is (10 : Int32) s l) = 0) → (p_X12_is (15 : Int32) s l) ∧ ((((f_X12_is (15 : Int32) s l) = 0) → (p_X12_comesOut (0 : Int32) s l) ∧ p_X12_expression_237 P12 x1 (0 : Int32) (f_X12_comesOut (0 : Int32) s l).1 (f_X12_comesOut (0 : Int32) s l).2) ∧ (¬ ((f_X12_is (15 : Int32) s l) = 0) → (p_X12_comesOut (1 : Int32) s l) ∧ p_X12_expression_237 P12 x1 (0 : Int32) (f_X12_comesOut (1 : Int32) s l).1 (f_X12_comesOut (1 : Int32) s l).2))) ∧ (¬ ((f_X12_is (10 : Int32) s l) = 0) → (p_X12_comesOut (1 : Int32) s l) ∧ p_X12_expression_237 P12 x1 (0 : Int32) (f_X12_comesOut (1 : Int32) s l).1 (f_X12_comesOut (1 : Int32) s l).2))))) ∧ (¬ ((f_X12_is (15 : Int32) s l) = 0) → p_X12_expression_181 P12 x1 s l))) ∧ (¬ ((f_X12_is (10 : Int32) s l) = 0) → p_X12_expression_181 P12 x1 s l))) ∧ (¬ ((f_X12_is (9 : Int32) s l) = 0) → p_X12_expression_181 P12 x1 s l))) ∧ (¬ ((f_X12_is (8 : Int32) s l) = 0) → p_X12_expression_181 P12 x1 s l))

set_option maxRecDepth 100000 in
set_option maxHeartbeats 4000000 in
theorem lp_X12_expression_145 {G : ab_G} {d : Nat} {D : fl_D} (K12 : Int32 → Int32 → fl_I → fl_L → fl_I × fl_L) (P12 : Int32 → Int32 → fl_I → fl_L → Prop) (hK12 : ∀ (x1 : Int32) (x2 : Int32) (s : fl_I) (l : fl_L), P12 x1 x2 s l → ab_C G (d + 3) 0 0 M_X12_expression 12 [some (.ref 60), some (.int x1), some (.int x2)] [] (hp D s l) (rt none (hp D (K12 x1 x2 s l).1 (K12 x1 x2 s l).2))) : ∀ (x1 : Int32) (s : fl_I) (l : fl_L), p_X12_expression_145 P12 x1 s l → ab_C G (d + 3) 0 0 M_X12_expression 145 [some (.ref 60), some (.int x1), none] [] (hp D s l) (rt none (hp D (f_X12_expression_145 K12 x1 s l).1 (f_X12_expression_145 K12 x1 s l).2)) := by
  intro x1 s l hk
  generalize he : f_X12_expression_145 K12 x1 s l = res
  unfold f_X12_expression_145 at he
  unfold p_X12_expression_145 at hk
  refine r_aload_n rfl rfl ?_
  refine r_bipush_ (a := 8) rfl (by decide) ?_
  obtain ⟨hb3, hk⟩ := hk
  refine q_callV0 [_] _ rfl kY_X12_is kT_X12_is rfl rfl (Nat.le_of_ble_eq_true rfl) (Nat.le_of_ble_eq_true rfl) (cc_60 _) (s_X12_is hb3) (fun r h q => ?_)
  obtain ⟨rfl, rfl⟩ := q
  simp only [Option.toList, List.cons_append, List.nil_append]
  refine r_if_ne rfl (fun c_151 => ?_) (fun c_151 => ?_)
  · rw [if_neg c_151] at he
    replace hk := hk.2 c_151
    subst he
    exact r_weak (L1 := [some (.ref 60), some (.int x1), none]) ⟨rfl, rfl, trivial⟩ (lp_X12_expression_181 _ _ hK12 _ _ _ hk)
  · rw [if_pos c_151] at he
    replace hk := hk.1 c_151
    refine r_aload_n rfl rfl ?_
    refine r_bipush_ (a := 9) rfl (by decide) ?_
    obtain ⟨hb14, hk⟩ := hk
    refine q_callV0 [_] _ rfl kY_X12_is kT_X12_is rfl rfl (Nat.le_of_ble_eq_true rfl) (Nat.le_of_ble_eq_true rfl) (cc_60 _) (s_X12_is hb14) (fun r h q => ?_)
    obtain ⟨rfl, rfl⟩ := q
    simp only [Option.toList, List.cons_append, List.nil_append]
    refine r_if_ne rfl (fun c_160 => ?_) (fun c_160 => ?_)
    · rw [if_neg c_160] at he
      replace hk := hk.2 c_160
      subst he
      exact r_weak (L1 := [some (.ref 60), some (.int x1), none]) ⟨rfl, rfl, trivial⟩ (lp_X12_expression_181 _ _ hK12 _ _ _ hk)
    · rw [if_pos c_160] at he
      replace hk := hk.1 c_160
      refine r_aload_n rfl rfl ?_
      refine r_bipush_ (a := 10) rfl (by decide) ?_
      obtain ⟨hb15, hk⟩ := hk
      refine q_callV0 [_] _ rfl kY_X12_is kT_X12_is rfl rfl (Nat.le_of_ble_eq_true rfl) (Nat.le_of_ble_eq_true rfl) (cc_60 _) (s_X12_is hb15) (fun r h q => ?_)
      obtain ⟨rfl, rfl⟩ := q
      simp only [Option.toList, List.cons_append, List.nil_append]
      refine r_if_ne rfl (fun c_169 => ?_) (fun c_169 => ?_)
      · rw [if_neg c_169] at he
        replace hk := hk.2 c_169
        subst he
        exact r_weak (L1 := [some (.ref 60), some (.int x1), none]) ⟨rfl, rfl, trivial⟩ (lp_X12_expression_181 _ _ hK12 _ _ _ hk)
      · rw [if_pos c_169] at he
        replace hk := hk.1 c_169
        refine r_aload_n rfl rfl ?_
        refine r_bipush_ (a := 15) rfl (by decide) ?_
        obtain ⟨hb16, hk⟩ := hk
        refine q_callV0 [_] _ rfl kY_X12_is kT_X12_is rfl rfl (Nat.le_of_ble_eq_true rfl) (Nat.le_of_ble_eq_true rfl) (cc_60 _) (s_X12_is hb16) (fun r h q => ?_)
        obtain ⟨rfl, rfl⟩ := q
        simp only [Option.toList, List.cons_append, List.nil_append]
        refine r_if_eq rfl (fun c_178 => ?_) (fun c_178 => ?_)
        · rw [if_pos c_178] at he
          replace hk := hk.1 c_178
          refine r_iconst_ (a := 0) rfl (by decide) ?_
          refine r_istore_n rfl (Nat.le_of_ble_eq_true rfl) rfl ?_
          refine r_iload_n rfl rfl ?_
          refine r_if_ne rfl (fun c_188 => ?_) (fun c_188 => ?_)
          · rw [if_neg c_188] at he
            replace hk := hk.2 c_188
            refine r_aload_n rfl rfl ?_
            refine r_aload_n rfl rfl ?_
            refine r_bipush_ (a := 10) rfl (by decide) ?_
            obtain ⟨hb17, hk⟩ := hk
            refine q_callV0 [_] _ rfl kY_X12_is kT_X12_is rfl rfl (Nat.le_of_ble_eq_true rfl) (Nat.le_of_ble_eq_true rfl) (cc_60 _) (s_X12_is hb17) (fun r h q => ?_)
            obtain ⟨rfl, rfl⟩ := q
            simp only [Option.toList, List.cons_append, List.nil_append]
            refine r_if_ne rfl (fun c_217 => ?_) (fun c_217 => ?_)
            · rw [if_neg c_217] at he
              replace hk := hk.2 c_217
              refine r_iconst_ (a := 1) rfl (by decide) ?_
              refine r_goto rfl ?_
              obtain ⟨hb18, hk⟩ := hk
              refine q_callV0 [_] _ rfl kY_X12_comesOut kT_X12_comesOut rfl rfl (Nat.le_of_ble_eq_true rfl) (Nat.le_of_ble_eq_true rfl) (cc_60 _) (s_X12_comesOut hb18) (fun r h q => ?_)
              obtain ⟨rfl, rfl⟩ := q
              simp only [Option.toList, List.cons_append, List.nil_append]
              subst he
              exact r_weak (L1 := [some (.ref 60), some (.int x1), some (.int (0 : Int32))]) ⟨rfl, rfl, rfl, trivial⟩ (lp_X12_expression_237 _ _ hK12 _ _ _ _ hk)
            · rw [if_pos c_217] at he
              replace hk := hk.1 c_217
              refine r_aload_n rfl rfl ?_
              refine r_bipush_ (a := 15) rfl (by decide) ?_
              obtain ⟨hb19, hk⟩ := hk
              refine q_callV0 [_] _ rfl kY_X12_is kT_X12_is rfl rfl (Nat.le_of_ble_eq_true rfl) (Nat.le_of_ble_eq_true rfl) (cc_60 _) (s_X12_is hb19) (fun r h q => ?_)
              obtain ⟨rfl, rfl⟩ := q
              simp only [Option.toList, List.cons_append, List.nil_append]
              refine r_if_eq rfl (fun c_226 => ?_) (fun c_226 => ?_)
              · rw [if_pos c_226] at he
                replace hk := hk.1 c_226
                refine r_iconst_ (a := 0) rfl (by decide) ?_
                obtain ⟨hb20, hk⟩ := hk
                refine q_callV0 [_] _ rfl kY_X12_comesOut kT_X12_comesOut rfl rfl (Nat.le_of_ble_eq_true rfl) (Nat.le_of_ble_eq_true rfl) (cc_60 _) (s_X12_comesOut hb20) (fun r h q => ?_)
                obtain ⟨rfl, rfl⟩ := q
                simp only [Option.toList, List.cons_append, List.nil_append]
                subst he
                exact r_weak (L1 := [some (.ref 60), some (.int x1), some (.int (0 : Int32))]) ⟨rfl, rfl, rfl, trivial⟩ (lp_X12_expression_237 _ _ hK12 _ _ _ _ hk)
              · rw [if_neg c_226] at he
                replace hk := hk.2 c_226
                refine r_iconst_ (a := 1) rfl (by decide) ?_
                refine r_goto rfl ?_
                obtain ⟨hb21, hk⟩ := hk
                refine q_callV0 [_] _ rfl kY_X12_comesOut kT_X12_comesOut rfl rfl (Nat.le_of_ble_eq_true rfl) (Nat.le_of_ble_eq_true rfl) (cc_60 _) (s_X12_comesOut hb21) (fun r h q => ?_)
                obtain ⟨rfl, rfl⟩ := q
                simp only [Option.toList, List.cons_append, List.nil_append]
                subst he
                exact r_weak (L1 := [some (.ref 60), some (.int x1), some (.int (0 : Int32))]) ⟨rfl, rfl, rfl, trivial⟩ (lp_X12_expression_237 _ _ hK12 _ _ _ _ hk)
          · rw [if_pos c_188] at he
            replace hk := hk.1 c_188
            refine r_aload_n rfl rfl ?_
            refine q_getfield rfl (cc_60 _) rfl ?_
            refine r_iload_n rfl rfl ?_
            refine r_icmp_le rfl (fun c_196 => ?_) (fun c_196 => ?_)
            · rw [if_pos c_196] at he
              replace hk := hk.1 c_196
              subst he
              exact r_weak (L1 := [some (.ref 60), none, none]) ⟨rfl, trivial⟩ (lp_X12_expression_204 _ _ hk)
            · rw [if_neg c_196] at he
              replace hk := hk.2 c_196
              refine r_aload_n rfl rfl ?_
              refine r_iconst_ (a := 1) rfl (by decide) ?_
              obtain ⟨hb22, hk⟩ := hk
              refine q_callV0 [_] _ rfl kY_X12_fail kT_X12_fail rfl rfl (Nat.le_of_ble_eq_true rfl) (Nat.le_of_ble_eq_true rfl) (cc_60 _) (s_X12_fail hb22) (fun r h q => ?_)
              obtain ⟨rfl, rfl⟩ := q
              simp only [Option.toList, List.cons_append, List.nil_append]
              subst he
              exact r_weak (L1 := [some (.ref 60), none, none]) ⟨rfl, trivial⟩ (lp_X12_expression_204 _ _ hk)
        · rw [if_neg c_178] at he
          replace hk := hk.2 c_178
          subst he
          exact r_weak (L1 := [some (.ref 60), some (.int x1), none]) ⟨rfl, rfl, trivial⟩ (lp_X12_expression_181 _ _ hK12 _ _ _ hk)

def f_X12_expression_142 (K12 : Int32 → Int32 → fl_I → fl_L → fl_I × fl_L) (K96 : Int32 → fl_I → fl_L → fl_I × fl_L) (x1 : Int32) (s : fl_I) (l : fl_L) : fl_I × fl_L :=
    K96 x1 s l

def p_X12_expression_142 (P12 : Int32 → Int32 → fl_I → fl_L → Prop) (P96 : Int32 → fl_I → fl_L → Prop) (x1 : Int32) (s : fl_I) (l : fl_L) : Prop :=
    P96 x1 s l

set_option maxRecDepth 100000 in
set_option maxHeartbeats 4000000 in
theorem lp_X12_expression_142 {G : ab_G} {d : Nat} {D : fl_D} (K12 : Int32 → Int32 → fl_I → fl_L → fl_I × fl_L) (P12 : Int32 → Int32 → fl_I → fl_L → Prop) (hK12 : ∀ (x1 : Int32) (x2 : Int32) (s : fl_I) (l : fl_L), P12 x1 x2 s l → ab_C G (d + 3) 0 0 M_X12_expression 12 [some (.ref 60), some (.int x1), some (.int x2)] [] (hp D s l) (rt none (hp D (K12 x1 x2 s l).1 (K12 x1 x2 s l).2))) (K96 : Int32 → fl_I → fl_L → fl_I × fl_L) (P96 : Int32 → fl_I → fl_L → Prop) (hK96 : ∀ (x1 : Int32) (s : fl_I) (l : fl_L), P96 x1 s l → ab_C G (d + 3) 0 0 M_X12_expression 96 [some (.ref 60), some (.int x1), none] [] (hp D s l) (rt none (hp D (K96 x1 s l).1 (K96 x1 s l).2))) : ∀ (x1 : Int32) (s : fl_I) (l : fl_L), p_X12_expression_142 P12 P96 x1 s l → ab_C G (d + 3) 0 0 M_X12_expression 142 [some (.ref 60), some (.int x1), none] [] (hp D s l) (rt none (hp D (f_X12_expression_142 K12 K96 x1 s l).1 (f_X12_expression_142 K12 K96 x1 s l).2)) := by
  intro x1 s l hk
  generalize he : f_X12_expression_142 K12 K96 x1 s l = res
  unfold f_X12_expression_142 at he
  unfold p_X12_expression_142 at hk
  refine r_goto rfl ?_
  subst he
  exact r_weak (L1 := [some (.ref 60), some (.int x1), none]) ⟨rfl, rfl, trivial⟩ (hK96 _ _ _ hk)

def f_X12_expression_118 (K12 : Int32 → Int32 → fl_I → fl_L → fl_I × fl_L) (K96 : Int32 → fl_I → fl_L → fl_I × fl_L) (x1 : Int32) (s : fl_I) (l : fl_L) : fl_I × fl_L :=
    f_X12_expression_142 K12 K96 x1 (f_X12_goesOn (wi (wi s 60 46 ((s 60 46) - (1 : Int32))) 60 12 (((wi s 60 46 ((s 60 46) - (1 : Int32))) 60 12) - (1 : Int32))) l).1 (f_X12_goesOn (wi (wi s 60 46 ((s 60 46) - (1 : Int32))) 60 12 (((wi s 60 46 ((s 60 46) - (1 : Int32))) 60 12) - (1 : Int32))) l).2

def p_X12_expression_118 (P12 : Int32 → Int32 → fl_I → fl_L → Prop) (P96 : Int32 → fl_I → fl_L → Prop) (x1 : Int32) (s : fl_I) (l : fl_L) : Prop :=
    (p_X12_goesOn (wi (wi s 60 46 ((s 60 46) - (1 : Int32))) 60 12 (((wi s 60 46 ((s 60 46) - (1 : Int32))) 60 12) - (1 : Int32))) l) ∧ p_X12_expression_142 P12 P96 x1 (f_X12_goesOn (wi (wi s 60 46 ((s 60 46) - (1 : Int32))) 60 12 (((wi s 60 46 ((s 60 46) - (1 : Int32))) 60 12) - (1 : Int32))) l).1 (f_X12_goesOn (wi (wi s 60 46 ((s 60 46) - (1 : Int32))) 60 12 (((wi s 60 46 ((s 60 46) - (1 : Int32))) 60 12) - (1 : Int32))) l).2

set_option maxRecDepth 100000 in
set_option maxHeartbeats 4000000 in
theorem lp_X12_expression_118 {G : ab_G} {d : Nat} {D : fl_D} (K12 : Int32 → Int32 → fl_I → fl_L → fl_I × fl_L) (P12 : Int32 → Int32 → fl_I → fl_L → Prop) (hK12 : ∀ (x1 : Int32) (x2 : Int32) (s : fl_I) (l : fl_L), P12 x1 x2 s l → ab_C G (d + 3) 0 0 M_X12_expression 12 [some (.ref 60), some (.int x1), some (.int x2)] [] (hp D s l) (rt none (hp D (K12 x1 x2 s l).1 (K12 x1 x2 s l).2))) (K96 : Int32 → fl_I → fl_L → fl_I × fl_L) (P96 : Int32 → fl_I → fl_L → Prop) (hK96 : ∀ (x1 : Int32) (s : fl_I) (l : fl_L), P96 x1 s l → ab_C G (d + 3) 0 0 M_X12_expression 96 [some (.ref 60), some (.int x1), none] [] (hp D s l) (rt none (hp D (K96 x1 s l).1 (K96 x1 s l).2))) : ∀ (x1 : Int32) (s : fl_I) (l : fl_L), p_X12_expression_118 P12 P96 x1 s l → ab_C G (d + 3) 0 0 M_X12_expression 118 [some (.ref 60), some (.int x1), none] [] (hp D s l) (rt none (hp D (f_X12_expression_118 K12 K96 x1 s l).1 (f_X12_expression_118 K12 K96 x1 s l).2)) := by
  intro x1 s l hk
  generalize he : f_X12_expression_118 K12 K96 x1 s l = res
  unfold f_X12_expression_118 at he
  unfold p_X12_expression_118 at hk
  refine r_aload_n rfl rfl ?_
  refine r_dup rfl rfl ?_
  refine q_getfield rfl (cc_60 _) rfl ?_
  refine r_iconst_ (a := 1) rfl (by decide) ?_
  refine r_isub rfl ?_
  refine w_put rfl (cc_60 _) ff_12_46 ft_12_46 (Nat.le_of_ble_eq_true rfl) rfl ?_
  refine r_aload_n rfl rfl ?_
  refine r_dup rfl rfl ?_
  refine q_getfield rfl (cc_60 _) rfl ?_
  refine r_iconst_ (a := 1) rfl (by decide) ?_
  refine r_isub rfl ?_
  refine w_put rfl (cc_60 _) ff_12_12 ft_12_12 (Nat.le_of_ble_eq_true rfl) rfl ?_
  refine r_aload_n rfl rfl ?_
  obtain ⟨hb24, hk⟩ := hk
  refine q_callV0 [] _ rfl kY_X12_goesOn kT_X12_goesOn rfl rfl (Nat.le_of_ble_eq_true rfl) (Nat.le_of_ble_eq_true rfl) (cc_60 _) (s_X12_goesOn hb24) (fun r h q => ?_)
  obtain ⟨rfl, rfl⟩ := q
  simp only [Option.toList, List.cons_append, List.nil_append]
  subst he
  exact r_weak (L1 := [some (.ref 60), some (.int x1), none]) ⟨rfl, rfl, trivial⟩ (lp_X12_expression_142 _ _ hK12 _ _ hK96 _ _ _ hk)

def f_X12_expression_96 (K12 : Int32 → Int32 → fl_I → fl_L → fl_I × fl_L) : Nat → Int32 → fl_I → fl_L → fl_I × fl_L
  | 0, x1, s, l => (s, l)
  | n + 1, x1, s, l =>
    if ((f_X12_is (7 : Int32) s l) = 0) then f_X12_expression_145 K12 x1 s l else if ((s 60 12) ≤ x1) then f_X12_expression_145 K12 x1 s l else f_X12_expression_118 K12 (fun x1 s l => f_X12_expression_96 K12 n x1 s l) x1 (f_X12_comesOut (0 : Int32) s l).1 (f_X12_comesOut (0 : Int32) s l).2

def p_X12_expression_96 (P12 : Int32 → Int32 → fl_I → fl_L → Prop) : Nat → Int32 → fl_I → fl_L → Prop
  | 0, _, _, _ => False
  | n + 1, x1, s, l =>
    (p_X12_is (7 : Int32) s l) ∧ ((((f_X12_is (7 : Int32) s l) = 0) → p_X12_expression_145 P12 x1 s l) ∧ (¬ ((f_X12_is (7 : Int32) s l) = 0) → ((((s 60 12) ≤ x1) → p_X12_expression_145 P12 x1 s l) ∧ (¬ ((s 60 12) ≤ x1) → (p_X12_comesOut (0 : Int32) s l) ∧ p_X12_expression_118 P12 (fun x1 s l => p_X12_expression_96 P12 n x1 s l) x1 (f_X12_comesOut (0 : Int32) s l).1 (f_X12_comesOut (0 : Int32) s l).2))))

set_option maxRecDepth 100000 in
set_option maxHeartbeats 4000000 in
theorem lp_X12_expression_96 {G : ab_G} {d : Nat} {D : fl_D} (K12 : Int32 → Int32 → fl_I → fl_L → fl_I × fl_L) (P12 : Int32 → Int32 → fl_I → fl_L → Prop) (hK12 : ∀ (x1 : Int32) (x2 : Int32) (s : fl_I) (l : fl_L), P12 x1 x2 s l → ab_C G (d + 3) 0 0 M_X12_expression 12 [some (.ref 60), some (.int x1), some (.int x2)] [] (hp D s l) (rt none (hp D (K12 x1 x2 s l).1 (K12 x1 x2 s l).2))) : ∀ (n : Nat) (x1 : Int32) (s : fl_I) (l : fl_L), p_X12_expression_96 P12 n x1 s l → ab_C G (d + 3) 0 0 M_X12_expression 96 [some (.ref 60), some (.int x1), none] [] (hp D s l) (rt none (hp D (f_X12_expression_96 K12 n x1 s l).1 (f_X12_expression_96 K12 n x1 s l).2)) := by
  intro n
  induction n with
  | zero => intro x1 s l hk; exact hk.elim
  | succ n ih =>
    intro x1 s l hk
    generalize he : f_X12_expression_96 K12 (n + 1) x1 s l = res
    unfold f_X12_expression_96 at he
    unfold p_X12_expression_96 at hk
    refine r_aload_n rfl rfl ?_
    refine r_bipush_ (a := 7) rfl (by decide) ?_
    obtain ⟨hb2, hk⟩ := hk
    refine q_callV0 [_] _ rfl kY_X12_is kT_X12_is rfl rfl (Nat.le_of_ble_eq_true rfl) (Nat.le_of_ble_eq_true rfl) (cc_60 _) (s_X12_is hb2) (fun r h q => ?_)
    obtain ⟨rfl, rfl⟩ := q
    simp only [Option.toList, List.cons_append, List.nil_append]
    refine r_if_eq rfl (fun c_102 => ?_) (fun c_102 => ?_)
    · rw [if_pos c_102] at he
      replace hk := hk.1 c_102
      subst he
      exact r_weak (L1 := [some (.ref 60), some (.int x1), none]) ⟨rfl, rfl, trivial⟩ (lp_X12_expression_145 _ _ hK12 _ _ _ hk)
    · rw [if_neg c_102] at he
      replace hk := hk.2 c_102
      refine r_aload_n rfl rfl ?_
      refine q_getfield rfl (cc_60 _) rfl ?_
      refine r_iload_n rfl rfl ?_
      refine r_icmp_le rfl (fun c_110 => ?_) (fun c_110 => ?_)
      · rw [if_pos c_110] at he
        replace hk := hk.1 c_110
        subst he
        exact r_weak (L1 := [some (.ref 60), some (.int x1), none]) ⟨rfl, rfl, trivial⟩ (lp_X12_expression_145 _ _ hK12 _ _ _ hk)
      · rw [if_neg c_110] at he
        replace hk := hk.2 c_110
        refine r_aload_n rfl rfl ?_
        refine r_iconst_ (a := 0) rfl (by decide) ?_
        obtain ⟨hb23, hk⟩ := hk
        refine q_callV0 [_] _ rfl kY_X12_comesOut kT_X12_comesOut rfl rfl (Nat.le_of_ble_eq_true rfl) (Nat.le_of_ble_eq_true rfl) (cc_60 _) (s_X12_comesOut hb23) (fun r h q => ?_)
        obtain ⟨rfl, rfl⟩ := q
        simp only [Option.toList, List.cons_append, List.nil_append]
        subst he
        exact r_weak (L1 := [some (.ref 60), some (.int x1), none]) ⟨rfl, rfl, trivial⟩ (lp_X12_expression_118 _ _ hK12 _ _ (fun _ _ _ h9 => ih _ _ _ h9) _ _ _ hk)

def f_X12_expression_88 (K12 : Int32 → Int32 → fl_I → fl_L → fl_I × fl_L) (x1 : Int32) (s : fl_I) (l : fl_L) : fl_I × fl_L :=
    if ((s 60 13) ≤ 0) then f_X12_expression_96 K12 fu x1 s l else (s, l)

def p_X12_expression_88 (P12 : Int32 → Int32 → fl_I → fl_L → Prop) (x1 : Int32) (s : fl_I) (l : fl_L) : Prop :=
    ((((s 60 13) ≤ 0) → p_X12_expression_96 P12 fu x1 s l) ∧ (¬ ((s 60 13) ≤ 0) → True))

set_option maxRecDepth 100000 in
set_option maxHeartbeats 4000000 in
theorem lp_X12_expression_88 {G : ab_G} {d : Nat} {D : fl_D} (K12 : Int32 → Int32 → fl_I → fl_L → fl_I × fl_L) (P12 : Int32 → Int32 → fl_I → fl_L → Prop) (hK12 : ∀ (x1 : Int32) (x2 : Int32) (s : fl_I) (l : fl_L), P12 x1 x2 s l → ab_C G (d + 3) 0 0 M_X12_expression 12 [some (.ref 60), some (.int x1), some (.int x2)] [] (hp D s l) (rt none (hp D (K12 x1 x2 s l).1 (K12 x1 x2 s l).2))) : ∀ (x1 : Int32) (s : fl_I) (l : fl_L), p_X12_expression_88 P12 x1 s l → ab_C G (d + 3) 0 0 M_X12_expression 88 [some (.ref 60), some (.int x1), none] [] (hp D s l) (rt none (hp D (f_X12_expression_88 K12 x1 s l).1 (f_X12_expression_88 K12 x1 s l).2)) := by
  intro x1 s l hk
  generalize he : f_X12_expression_88 K12 x1 s l = res
  unfold f_X12_expression_88 at he
  unfold p_X12_expression_88 at hk
  refine r_aload_n rfl rfl ?_
  refine q_getfield rfl (cc_60 _) rfl ?_
  refine r_if_le rfl (fun c_92 => ?_) (fun c_92 => ?_)
  · rw [if_pos c_92] at he
    replace hk := hk.1 c_92
    subst he
    exact r_weak (L1 := [some (.ref 60), some (.int x1), none]) ⟨rfl, rfl, trivial⟩ (lp_X12_expression_96 _ _ hK12 fu _ _ _ hk)
  · rw [if_neg c_92] at he
    replace hk := hk.2 c_92
    refine r_ret rfl rfl ?_
    subst he
    exact ⟨rfl, rfl⟩

def f_X12_expression_60 (K12 : Int32 → Int32 → fl_I → fl_L → fl_I × fl_L) (K23 : Int32 → fl_I → fl_L → fl_I × fl_L) (x1 : Int32) (s : fl_I) (l : fl_L) : fl_I × fl_L :=
    K23 x1 (wi (wi s 91 (s 60 46).toNatClampNeg (6 : Int32)) 60 46 (((wi s 91 (s 60 46).toNatClampNeg (6 : Int32)) 60 46) + (1 : Int32))) l

def p_X12_expression_60 (P12 : Int32 → Int32 → fl_I → fl_L → Prop) (P23 : Int32 → fl_I → fl_L → Prop) (x1 : Int32) (s : fl_I) (l : fl_L) : Prop :=
    (vp_in (s 60 46) 64) ∧ P23 x1 (wi (wi s 91 (s 60 46).toNatClampNeg (6 : Int32)) 60 46 (((wi s 91 (s 60 46).toNatClampNeg (6 : Int32)) 60 46) + (1 : Int32))) l

set_option maxRecDepth 100000 in
set_option maxHeartbeats 4000000 in
theorem lp_X12_expression_60 {G : ab_G} {d : Nat} {D : fl_D} (K12 : Int32 → Int32 → fl_I → fl_L → fl_I × fl_L) (P12 : Int32 → Int32 → fl_I → fl_L → Prop) (hK12 : ∀ (x1 : Int32) (x2 : Int32) (s : fl_I) (l : fl_L), P12 x1 x2 s l → ab_C G (d + 3) 0 0 M_X12_expression 12 [some (.ref 60), some (.int x1), some (.int x2)] [] (hp D s l) (rt none (hp D (K12 x1 x2 s l).1 (K12 x1 x2 s l).2))) (K23 : Int32 → fl_I → fl_L → fl_I × fl_L) (P23 : Int32 → fl_I → fl_L → Prop) (hK23 : ∀ (x1 : Int32) (s : fl_I) (l : fl_L), P23 x1 s l → ab_C G (d + 3) 0 0 M_X12_expression 23 [some (.ref 60), some (.int x1), none] [] (hp D s l) (rt none (hp D (K23 x1 s l).1 (K23 x1 s l).2))) : ∀ (x1 : Int32) (s : fl_I) (l : fl_L), p_X12_expression_60 P12 P23 x1 s l → ab_C G (d + 3) 0 0 M_X12_expression 60 [some (.ref 60), some (.int x1), none] [] (hp D s l) (rt none (hp D (f_X12_expression_60 K12 K23 x1 s l).1 (f_X12_expression_60 K12 K23 x1 s l).2)) := by
  intro x1 s l hk
  generalize he : f_X12_expression_60 K12 K23 x1 s l = res
  unfold f_X12_expression_60 at he
  unfold p_X12_expression_60 at hk
  refine r_aload_n rfl rfl ?_
  refine q_getfield rfl (cc_60 _) rfl ?_
  refine r_aload_n rfl rfl ?_
  refine q_getfield rfl (cc_60 _) rfl ?_
  refine r_bipush_ (a := 6) rfl (by decide) ?_
  obtain ⟨hb26, hk⟩ := hk
  refine w_iast rfl (cc_91 _) hb26 ?_
  refine r_aload_n rfl rfl ?_
  refine r_dup rfl rfl ?_
  refine q_getfield rfl (cc_60 _) rfl ?_
  refine r_iconst_ (a := 1) rfl (by decide) ?_
  refine r_iadd rfl ?_
  refine w_put rfl (cc_60 _) ff_12_46 ft_12_46 (Nat.le_of_ble_eq_true rfl) rfl ?_
  refine r_goto rfl ?_
  subst he
  exact r_weak (L1 := [some (.ref 60), some (.int x1), none]) ⟨rfl, rfl, trivial⟩ (hK23 _ _ _ hk)

def f_X12_expression_46 (K12 : Int32 → Int32 → fl_I → fl_L → fl_I × fl_L) (K23 : Int32 → fl_I → fl_L → fl_I × fl_L) (x1 : Int32) (s : fl_I) (l : fl_L) : fl_I × fl_L :=
    f_X12_expression_60 K12 K23 x1 (f_X12_goesOn (wi s 60 12 ((s 60 12) + (1 : Int32))) l).1 (f_X12_goesOn (wi s 60 12 ((s 60 12) + (1 : Int32))) l).2

def p_X12_expression_46 (P12 : Int32 → Int32 → fl_I → fl_L → Prop) (P23 : Int32 → fl_I → fl_L → Prop) (x1 : Int32) (s : fl_I) (l : fl_L) : Prop :=
    (p_X12_goesOn (wi s 60 12 ((s 60 12) + (1 : Int32))) l) ∧ p_X12_expression_60 P12 P23 x1 (f_X12_goesOn (wi s 60 12 ((s 60 12) + (1 : Int32))) l).1 (f_X12_goesOn (wi s 60 12 ((s 60 12) + (1 : Int32))) l).2

set_option maxRecDepth 100000 in
set_option maxHeartbeats 4000000 in
theorem lp_X12_expression_46 {G : ab_G} {d : Nat} {D : fl_D} (K12 : Int32 → Int32 → fl_I → fl_L → fl_I × fl_L) (P12 : Int32 → Int32 → fl_I → fl_L → Prop) (hK12 : ∀ (x1 : Int32) (x2 : Int32) (s : fl_I) (l : fl_L), P12 x1 x2 s l → ab_C G (d + 3) 0 0 M_X12_expression 12 [some (.ref 60), some (.int x1), some (.int x2)] [] (hp D s l) (rt none (hp D (K12 x1 x2 s l).1 (K12 x1 x2 s l).2))) (K23 : Int32 → fl_I → fl_L → fl_I × fl_L) (P23 : Int32 → fl_I → fl_L → Prop) (hK23 : ∀ (x1 : Int32) (s : fl_I) (l : fl_L), P23 x1 s l → ab_C G (d + 3) 0 0 M_X12_expression 23 [some (.ref 60), some (.int x1), none] [] (hp D s l) (rt none (hp D (K23 x1 s l).1 (K23 x1 s l).2))) : ∀ (x1 : Int32) (s : fl_I) (l : fl_L), p_X12_expression_46 P12 P23 x1 s l → ab_C G (d + 3) 0 0 M_X12_expression 46 [some (.ref 60), some (.int x1), none] [] (hp D s l) (rt none (hp D (f_X12_expression_46 K12 K23 x1 s l).1 (f_X12_expression_46 K12 K23 x1 s l).2)) := by
  intro x1 s l hk
  generalize he : f_X12_expression_46 K12 K23 x1 s l = res
  unfold f_X12_expression_46 at he
  unfold p_X12_expression_46 at hk
  refine r_aload_n rfl rfl ?_
  refine r_dup rfl rfl ?_
  refine q_getfield rfl (cc_60 _) rfl ?_
  refine r_iconst_ (a := 1) rfl (by decide) ?_
  refine r_iadd rfl ?_
  refine w_put rfl (cc_60 _) ff_12_12 ft_12_12 (Nat.le_of_ble_eq_true rfl) rfl ?_
  refine r_aload_n rfl rfl ?_
  obtain ⟨hb25, hk⟩ := hk
  refine q_callV0 [] _ rfl kY_X12_goesOn kT_X12_goesOn rfl rfl (Nat.le_of_ble_eq_true rfl) (Nat.le_of_ble_eq_true rfl) (cc_60 _) (s_X12_goesOn hb25) (fun r h q => ?_)
  obtain ⟨rfl, rfl⟩ := q
  simp only [Option.toList, List.cons_append, List.nil_append]
  subst he
  exact r_weak (L1 := [some (.ref 60), some (.int x1), none]) ⟨rfl, rfl, trivial⟩ (lp_X12_expression_60 _ _ hK12 _ _ hK23 _ _ _ hk)

def f_X12_expression_23 (K12 : Int32 → Int32 → fl_I → fl_L → fl_I × fl_L) : Nat → Int32 → fl_I → fl_L → fl_I × fl_L
  | 0, x1, s, l => (s, l)
  | n + 1, x1, s, l =>
    if ((f_X12_is (6 : Int32) s l) = 0) then f_X12_expression_88 K12 x1 (f_X12_unit s l).1 (f_X12_unit s l).2 else if ((s 60 12) = (6 : Int32)) then f_X12_expression_46 K12 (fun x1 s l => f_X12_expression_23 K12 n x1 s l) x1 (f_X12_fail (2 : Int32) s l).1 (f_X12_fail (2 : Int32) s l).2 else f_X12_expression_46 K12 (fun x1 s l => f_X12_expression_23 K12 n x1 s l) x1 s l

def p_X12_expression_23 (P12 : Int32 → Int32 → fl_I → fl_L → Prop) : Nat → Int32 → fl_I → fl_L → Prop
  | 0, _, _, _ => False
  | n + 1, x1, s, l =>
    (p_X12_is (6 : Int32) s l) ∧ ((((f_X12_is (6 : Int32) s l) = 0) → (p_X12_unit s l) ∧ p_X12_expression_88 P12 x1 (f_X12_unit s l).1 (f_X12_unit s l).2) ∧ (¬ ((f_X12_is (6 : Int32) s l) = 0) → ((((s 60 12) = (6 : Int32)) → (p_X12_fail (2 : Int32) s l) ∧ p_X12_expression_46 P12 (fun x1 s l => p_X12_expression_23 P12 n x1 s l) x1 (f_X12_fail (2 : Int32) s l).1 (f_X12_fail (2 : Int32) s l).2) ∧ (¬ ((s 60 12) = (6 : Int32)) → p_X12_expression_46 P12 (fun x1 s l => p_X12_expression_23 P12 n x1 s l) x1 s l))))

set_option maxRecDepth 100000 in
set_option maxHeartbeats 4000000 in
theorem lp_X12_expression_23 {G : ab_G} {d : Nat} {D : fl_D} (K12 : Int32 → Int32 → fl_I → fl_L → fl_I × fl_L) (P12 : Int32 → Int32 → fl_I → fl_L → Prop) (hK12 : ∀ (x1 : Int32) (x2 : Int32) (s : fl_I) (l : fl_L), P12 x1 x2 s l → ab_C G (d + 3) 0 0 M_X12_expression 12 [some (.ref 60), some (.int x1), some (.int x2)] [] (hp D s l) (rt none (hp D (K12 x1 x2 s l).1 (K12 x1 x2 s l).2))) : ∀ (n : Nat) (x1 : Int32) (s : fl_I) (l : fl_L), p_X12_expression_23 P12 n x1 s l → ab_C G (d + 3) 0 0 M_X12_expression 23 [some (.ref 60), some (.int x1), none] [] (hp D s l) (rt none (hp D (f_X12_expression_23 K12 n x1 s l).1 (f_X12_expression_23 K12 n x1 s l).2)) := by
  intro n
  induction n with
  | zero => intro x1 s l hk; exact hk.elim
  | succ n ih =>
    intro x1 s l hk
    generalize he : f_X12_expression_23 K12 (n + 1) x1 s l = res
    unfold f_X12_expression_23 at he
    unfold p_X12_expression_23 at hk
    refine r_aload_n rfl rfl ?_
    refine r_bipush_ (a := 6) rfl (by decide) ?_
    obtain ⟨hb0, hk⟩ := hk
    refine q_callV0 [_] _ rfl kY_X12_is kT_X12_is rfl rfl (Nat.le_of_ble_eq_true rfl) (Nat.le_of_ble_eq_true rfl) (cc_60 _) (s_X12_is hb0) (fun r h q => ?_)
    obtain ⟨rfl, rfl⟩ := q
    simp only [Option.toList, List.cons_append, List.nil_append]
    refine r_if_eq rfl (fun c_29 => ?_) (fun c_29 => ?_)
    · rw [if_pos c_29] at he
      replace hk := hk.1 c_29
      refine r_aload_n rfl rfl ?_
      obtain ⟨hb1, hk⟩ := hk
      refine q_callV0 [] _ rfl kY_X12_unit kT_X12_unit rfl rfl (Nat.le_of_ble_eq_true rfl) (Nat.le_of_ble_eq_true rfl) (cc_60 _) (s_X12_unit hb1) (fun r h q => ?_)
      obtain ⟨rfl, rfl⟩ := q
      simp only [Option.toList, List.cons_append, List.nil_append]
      subst he
      exact r_weak (L1 := [some (.ref 60), some (.int x1), none]) ⟨rfl, rfl, trivial⟩ (lp_X12_expression_88 _ _ hK12 _ _ _ hk)
    · rw [if_neg c_29] at he
      replace hk := hk.2 c_29
      refine r_aload_n rfl rfl ?_
      refine q_getfield rfl (cc_60 _) rfl ?_
      refine r_bipush_ (a := 6) rfl (by decide) ?_
      refine r_icmp_ne rfl (fun c_38 => ?_) (fun c_38 => ?_)
      · rw [if_neg c_38] at he
        replace hk := hk.2 c_38
        subst he
        exact r_weak (L1 := [some (.ref 60), some (.int x1), none]) ⟨rfl, rfl, trivial⟩ (lp_X12_expression_46 _ _ hK12 _ _ (fun _ _ _ h9 => ih _ _ _ h9) _ _ _ hk)
      · rw [if_pos c_38] at he
        replace hk := hk.1 c_38
        refine r_aload_n rfl rfl ?_
        refine r_iconst_ (a := 2) rfl (by decide) ?_
        obtain ⟨hb27, hk⟩ := hk
        refine q_callV0 [_] _ rfl kY_X12_fail kT_X12_fail rfl rfl (Nat.le_of_ble_eq_true rfl) (Nat.le_of_ble_eq_true rfl) (cc_60 _) (s_X12_fail hb27) (fun r h q => ?_)
        obtain ⟨rfl, rfl⟩ := q
        simp only [Option.toList, List.cons_append, List.nil_append]
        subst he
        exact r_weak (L1 := [some (.ref 60), some (.int x1), none]) ⟨rfl, rfl, trivial⟩ (lp_X12_expression_46 _ _ hK12 _ _ (fun _ _ _ h9 => ih _ _ _ h9) _ _ _ hk)

def f_X12_expression_12 : Nat → Int32 → Int32 → fl_I → fl_L → fl_I × fl_L
  | 0, x1, x2, s, l => (s, l)
  | n + 1, x1, x2, s, l =>
    if (x2 = 0) then f_X12_expression_272  s l else if ((s 60 13) = 0) then f_X12_expression_23 (fun x1 x2 s l => f_X12_expression_12 n x1 x2 s l) fu x1 s l else f_X12_expression_272  s l

def p_X12_expression_12 : Nat → Int32 → Int32 → fl_I → fl_L → Prop
  | 0, _, _, _, _ => False
  | n + 1, x1, x2, s, l =>
    (((x2 = 0) → p_X12_expression_272  s l) ∧ (¬ (x2 = 0) → ((((s 60 13) = 0) → p_X12_expression_23 (fun x1 x2 s l => p_X12_expression_12 n x1 x2 s l) fu x1 s l) ∧ (¬ ((s 60 13) = 0) → p_X12_expression_272  s l))))

set_option maxRecDepth 100000 in
set_option maxHeartbeats 4000000 in
theorem lp_X12_expression_12 {G : ab_G} {d : Nat} {D : fl_D} : ∀ (n : Nat) (x1 : Int32) (x2 : Int32) (s : fl_I) (l : fl_L), p_X12_expression_12 n x1 x2 s l → ab_C G (d + 3) 0 0 M_X12_expression 12 [some (.ref 60), some (.int x1), some (.int x2)] [] (hp D s l) (rt none (hp D (f_X12_expression_12 n x1 x2 s l).1 (f_X12_expression_12 n x1 x2 s l).2)) := by
  intro n
  induction n with
  | zero => intro x1 x2 s l hk; exact hk.elim
  | succ n ih =>
    intro x1 x2 s l hk
    generalize he : f_X12_expression_12 (n + 1) x1 x2 s l = res
    unfold f_X12_expression_12 at he
    unfold p_X12_expression_12 at hk
    refine r_iload_n rfl rfl ?_
    refine r_if_eq rfl (fun c_13 => ?_) (fun c_13 => ?_)
    · rw [if_pos c_13] at he
      replace hk := hk.1 c_13
      subst he
      exact r_weak (L1 := [none, none, none]) trivial (lp_X12_expression_272 _ _ hk)
    · rw [if_neg c_13] at he
      replace hk := hk.2 c_13
      refine r_aload_n rfl rfl ?_
      refine q_getfield rfl (cc_60 _) rfl ?_
      refine r_if_ne rfl (fun c_20 => ?_) (fun c_20 => ?_)
      · rw [if_neg c_20] at he
        replace hk := hk.2 c_20
        subst he
        exact r_weak (L1 := [none, none, none]) trivial (lp_X12_expression_272 _ _ hk)
      · rw [if_pos c_20] at he
        replace hk := hk.1 c_20
        subst he
        exact r_weak (L1 := [some (.ref 60), some (.int x1), none]) ⟨rfl, rfl, trivial⟩ (lp_X12_expression_23 _ _ (fun _ _ _ _ h9 => ih _ _ _ _ h9) fu _ _ _ hk)

def f_X12_expression (s : fl_I) (l : fl_L) : fl_I × fl_L :=
  f_X12_expression_12 fu ((wi s 60 46 (0 : Int32)) 60 12) (1 : Int32) (wi s 60 46 (0 : Int32)) l

def p_X12_expression (s : fl_I) (l : fl_L) : Prop :=
  p_X12_expression_12 fu ((wi s 60 46 (0 : Int32)) 60 12) (1 : Int32) (wi s 60 46 (0 : Int32)) l

set_option maxRecDepth 100000 in
set_option maxHeartbeats 4000000 in
theorem s_X12_expression {G : ab_G} {d : Nat} {D : fl_D} {s : fl_I} {l : fl_L}  (hk : p_X12_expression s l) : ab_C G (d + 3) 0 0 M_X12_expression 0 (ab_ent [.ref 60]) [] (hp D s l) (rt none (hp D (f_X12_expression s l).1 (f_X12_expression s l).2)) := by
  generalize he : (f_X12_expression s l) = res
  unfold f_X12_expression at he
  unfold p_X12_expression at hk
  refine r_weak (L1 := [some (.ref 60), none, none]) ⟨rfl, trivial⟩ ?_
  refine r_aload_n rfl rfl ?_
  refine r_iconst_ (a := 0) rfl (by decide) ?_
  refine w_put rfl (cc_60 _) ff_12_46 ft_12_46 (Nat.le_of_ble_eq_true rfl) rfl ?_
  refine r_aload_n rfl rfl ?_
  refine q_getfield rfl (cc_60 _) rfl ?_
  refine r_istore_n rfl (Nat.le_of_ble_eq_true rfl) rfl ?_
  refine r_iconst_ (a := 1) rfl (by decide) ?_
  refine r_istore_n rfl (Nat.le_of_ble_eq_true rfl) rfl ?_
  subst he
  exact r_weak (L1 := [some (.ref 60), some (.int ((wi s 60 46 (0 : Int32)) 60 12)), some (.int (1 : Int32))]) ⟨rfl, rfl, rfl, trivial⟩ (lp_X12_expression_12 fu _ _ _ _ hk)

def f_X12_begins_171 : Nat → Int32 → fl_I → fl_L → fl_I × fl_L
  | 0, x1, s, l => (s, l)
  | n + 1, x1, s, l =>
    if ((s 74 (s 60 18).toNatClampNeg) ≤ x1) then ((wi (wi s 60 52 (s 81 (s 60 18).toNatClampNeg)) 60 53 (0 : Int32)), l) else f_X12_begins_171 n (x1 + 1) (wi (wi (wi s 95 ((128 : Int32) + x1).toNatClampNeg (s 76 (((4 : Int32) * (s 60 18)) + x1).toNatClampNeg)) 95 ((132 : Int32) + x1).toNatClampNeg ((wi s 95 ((128 : Int32) + x1).toNatClampNeg (s 76 (((4 : Int32) * (s 60 18)) + x1).toNatClampNeg)) 77 (((4 : Int32) * ((wi s 95 ((128 : Int32) + x1).toNatClampNeg (s 76 (((4 : Int32) * (s 60 18)) + x1).toNatClampNeg)) 60 18)) + x1).toNatClampNeg)) 95 ((136 : Int32) + x1).toNatClampNeg (-2 : Int32)) l

def p_X12_begins_171 : Nat → Int32 → fl_I → fl_L → Prop
  | 0, _, _, _ => False
  | n + 1, x1, s, l =>
    (vp_in (s 60 18) 2) ∧ ((((s 74 (s 60 18).toNatClampNeg) ≤ x1) → (vp_in (s 60 18) 2) ∧ True) ∧ (¬ ((s 74 (s 60 18).toNatClampNeg) ≤ x1) → (vp_in (((4 : Int32) * (s 60 18)) + x1) 8) ∧ (vp_in ((128 : Int32) + x1) 141) ∧ (vp_in (((4 : Int32) * ((wi s 95 ((128 : Int32) + x1).toNatClampNeg (s 76 (((4 : Int32) * (s 60 18)) + x1).toNatClampNeg)) 60 18)) + x1) 8) ∧ (vp_in ((132 : Int32) + x1) 141) ∧ (vp_in ((136 : Int32) + x1) 141) ∧ p_X12_begins_171 n (x1 + 1) (wi (wi (wi s 95 ((128 : Int32) + x1).toNatClampNeg (s 76 (((4 : Int32) * (s 60 18)) + x1).toNatClampNeg)) 95 ((132 : Int32) + x1).toNatClampNeg ((wi s 95 ((128 : Int32) + x1).toNatClampNeg (s 76 (((4 : Int32) * (s 60 18)) + x1).toNatClampNeg)) 77 (((4 : Int32) * ((wi s 95 ((128 : Int32) + x1).toNatClampNeg (s 76 (((4 : Int32) * (s 60 18)) + x1).toNatClampNeg)) 60 18)) + x1).toNatClampNeg)) 95 ((136 : Int32) + x1).toNatClampNeg (-2 : Int32)) l))

set_option maxRecDepth 100000 in
set_option maxHeartbeats 4000000 in
theorem lp_X12_begins_171 {G : ab_G} {d : Nat} {D : fl_D} : ∀ (n : Nat) (x1 : Int32) (s : fl_I) (l : fl_L), p_X12_begins_171 n x1 s l → ab_C G (d + 2) 0 0 M_X12_begins 171 [some (.ref 60), some (.int x1), none, none] [] (hp D s l) (rt none (hp D (f_X12_begins_171 n x1 s l).1 (f_X12_begins_171 n x1 s l).2)) := by
  intro n
  induction n with
  | zero => intro x1 s l hk; exact hk.elim
  | succ n ih =>
    intro x1 s l hk
    generalize he : f_X12_begins_171 (n + 1) x1 s l = res
    unfold f_X12_begins_171 at he
    unfold p_X12_begins_171 at hk
    refine r_iload_n rfl rfl ?_
    refine r_aload_n rfl rfl ?_
    refine q_getfield rfl (cc_60 _) rfl ?_
    refine r_aload_n rfl rfl ?_
    refine q_getfield rfl (cc_60 _) rfl ?_
    obtain ⟨hb1, hk⟩ := hk
    refine q_iald rfl (cc_74 _) hb1 ?_
    refine r_icmp_ge rfl (fun c_181 => ?_) (fun c_181 => ?_)
    · rw [if_pos c_181] at he
      replace hk := hk.1 c_181
      refine r_aload_n rfl rfl ?_
      refine r_aload_n rfl rfl ?_
      refine q_getfield rfl (cc_60 _) rfl ?_
      refine r_aload_n rfl rfl ?_
      refine q_getfield rfl (cc_60 _) rfl ?_
      obtain ⟨hb2, hk⟩ := hk
      refine q_iald rfl (cc_81 _) hb2 ?_
      refine w_put rfl (cc_60 _) ff_12_52 ft_12_52 (Nat.le_of_ble_eq_true rfl) rfl ?_
      refine r_aload_n rfl rfl ?_
      refine r_iconst_ (a := 0) rfl (by decide) ?_
      refine w_putZ rfl (cc_60 _) ff_12_53 ft_12_53 (by decide) (Nat.le_of_ble_eq_true rfl) rfl ?_
      refine r_ret rfl rfl ?_
      subst he
      exact ⟨rfl, rfl⟩
    · rw [if_neg c_181] at he
      replace hk := hk.2 c_181
      refine r_aload_n rfl rfl ?_
      refine q_getfield rfl (cc_60 _) rfl ?_
      refine r_sipush_ (a := 128) rfl (by decide) ?_
      refine r_iload_n rfl rfl ?_
      refine r_iadd rfl ?_
      refine r_aload_n rfl rfl ?_
      refine q_getfield rfl (cc_60 _) rfl ?_
      refine r_iconst_ (a := 4) rfl (by decide) ?_
      refine r_aload_n rfl rfl ?_
      refine q_getfield rfl (cc_60 _) rfl ?_
      refine r_imul rfl ?_
      refine r_iload_n rfl rfl ?_
      refine r_iadd rfl ?_
      obtain ⟨hb3, hk⟩ := hk
      refine q_iald rfl (cc_76 _) hb3 ?_
      obtain ⟨hb4, hk⟩ := hk
      refine w_iast rfl (cc_95 _) hb4 ?_
      refine r_aload_n rfl rfl ?_
      refine q_getfield rfl (cc_60 _) rfl ?_
      refine r_sipush_ (a := 132) rfl (by decide) ?_
      refine r_iload_n rfl rfl ?_
      refine r_iadd rfl ?_
      refine r_aload_n rfl rfl ?_
      refine q_getfield rfl (cc_60 _) rfl ?_
      refine r_iconst_ (a := 4) rfl (by decide) ?_
      refine r_aload_n rfl rfl ?_
      refine q_getfield rfl (cc_60 _) rfl ?_
      refine r_imul rfl ?_
      refine r_iload_n rfl rfl ?_
      refine r_iadd rfl ?_
      obtain ⟨hb5, hk⟩ := hk
      refine q_iald rfl (cc_77 _) hb5 ?_
      obtain ⟨hb6, hk⟩ := hk
      refine w_iast rfl (cc_95 _) hb6 ?_
      refine r_aload_n rfl rfl ?_
      refine q_getfield rfl (cc_60 _) rfl ?_
      refine r_sipush_ (a := 136) rfl (by decide) ?_
      refine r_iload_n rfl rfl ?_
      refine r_iadd rfl ?_
      refine r_bipush_ (a := -2) rfl (by decide) ?_
      obtain ⟨hb7, hk⟩ := hk
      refine w_iast rfl (cc_95 _) hb7 ?_
      refine r_iinc (b := x1 + 1) rfl rfl rfl (Nat.le_of_ble_eq_true rfl) rfl ?_
      refine r_goto rfl ?_
      subst he
      exact r_weak (L1 := [some (.ref 60), some (.int (x1 + 1)), none, none]) ⟨rfl, rfl, trivial⟩ (ih _ _ _ hk)

def f_X12_begins_53 (K29 : Int32 → fl_I → fl_L → fl_I × fl_L) : Nat → Int32 → Int32 → Int32 → fl_I → fl_L → fl_I × fl_L
  | 0, x1, x2, x3, s, l => (s, l)
  | n + 1, x1, x2, x3, s, l =>
    if ((f_X12_lengthOf (l 69 x2.toNatClampNeg)) ≤ x3) then K29 (x1 + 1) s l else f_X12_begins_53 K29 n x1 x2 (x3 + 1) (wi (wi (wi (wi (wi (wi s 96 (s 60 54).toNatClampNeg (f_X12_signAt (l 69 x2.toNatClampNeg) x3)) 97 ((wi s 96 (s 60 54).toNatClampNeg (f_X12_signAt (l 69 x2.toNatClampNeg) x3)) 60 54).toNatClampNeg x1) 95 ((wi (wi s 96 (s 60 54).toNatClampNeg (f_X12_signAt (l 69 x2.toNatClampNeg) x3)) 97 ((wi s 96 (s 60 54).toNatClampNeg (f_X12_signAt (l 69 x2.toNatClampNeg) x3)) 60 54).toNatClampNeg x1) 60 54).toNatClampNeg ((((wi (wi s 96 (s 60 54).toNatClampNeg (f_X12_signAt (l 69 x2.toNatClampNeg) x3)) 97 ((wi s 96 (s 60 54).toNatClampNeg (f_X12_signAt (l 69 x2.toNatClampNeg) x3)) 60 54).toNatClampNeg x1) 70 x2.toNatClampNeg) + x3) - (((wi (wi s 96 (s 60 54).toNatClampNeg (f_X12_signAt (l 69 x2.toNatClampNeg) x3)) 97 ((wi s 96 (s 60 54).toNatClampNeg (f_X12_signAt (l 69 x2.toNatClampNeg) x3)) 60 54).toNatClampNeg x1) 70 x2.toNatClampNeg) + x3) / (10 : Int32) * (10 : Int32))) 95 ((32 : Int32) + ((wi (wi (wi s 96 (s 60 54).toNatClampNeg (f_X12_signAt (l 69 x2.toNatClampNeg) x3)) 97 ((wi s 96 (s 60 54).toNatClampNeg (f_X12_signAt (l 69 x2.toNatClampNeg) x3)) 60 54).toNatClampNeg x1) 95 ((wi (wi s 96 (s 60 54).toNatClampNeg (f_X12_signAt (l 69 x2.toNatClampNeg) x3)) 97 ((wi s 96 (s 60 54).toNatClampNeg (f_X12_signAt (l 69 x2.toNatClampNeg) x3)) 60 54).toNatClampNeg x1) 60 54).toNatClampNeg ((((wi (wi s 96 (s 60 54).toNatClampNeg (f_X12_signAt (l 69 x2.toNatClampNeg) x3)) 97 ((wi s 96 (s 60 54).toNatClampNeg (f_X12_signAt (l 69 x2.toNatClampNeg) x3)) 60 54).toNatClampNeg x1) 70 x2.toNatClampNeg) + x3) - (((wi (wi s 96 (s 60 54).toNatClampNeg (f_X12_signAt (l 69 x2.toNatClampNeg) x3)) 97 ((wi s 96 (s 60 54).toNatClampNeg (f_X12_signAt (l 69 x2.toNatClampNeg) x3)) 60 54).toNatClampNeg x1) 70 x2.toNatClampNeg) + x3) / (10 : Int32) * (10 : Int32))) 60 54)).toNatClampNeg ((wi (wi (wi s 96 (s 60 54).toNatClampNeg (f_X12_signAt (l 69 x2.toNatClampNeg) x3)) 97 ((wi s 96 (s 60 54).toNatClampNeg (f_X12_signAt (l 69 x2.toNatClampNeg) x3)) 60 54).toNatClampNeg x1) 95 ((wi (wi s 96 (s 60 54).toNatClampNeg (f_X12_signAt (l 69 x2.toNatClampNeg) x3)) 97 ((wi s 96 (s 60 54).toNatClampNeg (f_X12_signAt (l 69 x2.toNatClampNeg) x3)) 60 54).toNatClampNeg x1) 60 54).toNatClampNeg ((((wi (wi s 96 (s 60 54).toNatClampNeg (f_X12_signAt (l 69 x2.toNatClampNeg) x3)) 97 ((wi s 96 (s 60 54).toNatClampNeg (f_X12_signAt (l 69 x2.toNatClampNeg) x3)) 60 54).toNatClampNeg x1) 70 x2.toNatClampNeg) + x3) - (((wi (wi s 96 (s 60 54).toNatClampNeg (f_X12_signAt (l 69 x2.toNatClampNeg) x3)) 97 ((wi s 96 (s 60 54).toNatClampNeg (f_X12_signAt (l 69 x2.toNatClampNeg) x3)) 60 54).toNatClampNeg x1) 70 x2.toNatClampNeg) + x3) / (10 : Int32) * (10 : Int32))) 71 x2.toNatClampNeg)) 95 ((64 : Int32) + ((wi (wi (wi (wi s 96 (s 60 54).toNatClampNeg (f_X12_signAt (l 69 x2.toNatClampNeg) x3)) 97 ((wi s 96 (s 60 54).toNatClampNeg (f_X12_signAt (l 69 x2.toNatClampNeg) x3)) 60 54).toNatClampNeg x1) 95 ((wi (wi s 96 (s 60 54).toNatClampNeg (f_X12_signAt (l 69 x2.toNatClampNeg) x3)) 97 ((wi s 96 (s 60 54).toNatClampNeg (f_X12_signAt (l 69 x2.toNatClampNeg) x3)) 60 54).toNatClampNeg x1) 60 54).toNatClampNeg ((((wi (wi s 96 (s 60 54).toNatClampNeg (f_X12_signAt (l 69 x2.toNatClampNeg) x3)) 97 ((wi s 96 (s 60 54).toNatClampNeg (f_X12_signAt (l 69 x2.toNatClampNeg) x3)) 60 54).toNatClampNeg x1) 70 x2.toNatClampNeg) + x3) - (((wi (wi s 96 (s 60 54).toNatClampNeg (f_X12_signAt (l 69 x2.toNatClampNeg) x3)) 97 ((wi s 96 (s 60 54).toNatClampNeg (f_X12_signAt (l 69 x2.toNatClampNeg) x3)) 60 54).toNatClampNeg x1) 70 x2.toNatClampNeg) + x3) / (10 : Int32) * (10 : Int32))) 95 ((32 : Int32) + ((wi (wi (wi s 96 (s 60 54).toNatClampNeg (f_X12_signAt (l 69 x2.toNatClampNeg) x3)) 97 ((wi s 96 (s 60 54).toNatClampNeg (f_X12_signAt (l 69 x2.toNatClampNeg) x3)) 60 54).toNatClampNeg x1) 95 ((wi (wi s 96 (s 60 54).toNatClampNeg (f_X12_signAt (l 69 x2.toNatClampNeg) x3)) 97 ((wi s 96 (s 60 54).toNatClampNeg (f_X12_signAt (l 69 x2.toNatClampNeg) x3)) 60 54).toNatClampNeg x1) 60 54).toNatClampNeg ((((wi (wi s 96 (s 60 54).toNatClampNeg (f_X12_signAt (l 69 x2.toNatClampNeg) x3)) 97 ((wi s 96 (s 60 54).toNatClampNeg (f_X12_signAt (l 69 x2.toNatClampNeg) x3)) 60 54).toNatClampNeg x1) 70 x2.toNatClampNeg) + x3) - (((wi (wi s 96 (s 60 54).toNatClampNeg (f_X12_signAt (l 69 x2.toNatClampNeg) x3)) 97 ((wi s 96 (s 60 54).toNatClampNeg (f_X12_signAt (l 69 x2.toNatClampNeg) x3)) 60 54).toNatClampNeg x1) 70 x2.toNatClampNeg) + x3) / (10 : Int32) * (10 : Int32))) 60 54)).toNatClampNeg ((wi (wi (wi s 96 (s 60 54).toNatClampNeg (f_X12_signAt (l 69 x2.toNatClampNeg) x3)) 97 ((wi s 96 (s 60 54).toNatClampNeg (f_X12_signAt (l 69 x2.toNatClampNeg) x3)) 60 54).toNatClampNeg x1) 95 ((wi (wi s 96 (s 60 54).toNatClampNeg (f_X12_signAt (l 69 x2.toNatClampNeg) x3)) 97 ((wi s 96 (s 60 54).toNatClampNeg (f_X12_signAt (l 69 x2.toNatClampNeg) x3)) 60 54).toNatClampNeg x1) 60 54).toNatClampNeg ((((wi (wi s 96 (s 60 54).toNatClampNeg (f_X12_signAt (l 69 x2.toNatClampNeg) x3)) 97 ((wi s 96 (s 60 54).toNatClampNeg (f_X12_signAt (l 69 x2.toNatClampNeg) x3)) 60 54).toNatClampNeg x1) 70 x2.toNatClampNeg) + x3) - (((wi (wi s 96 (s 60 54).toNatClampNeg (f_X12_signAt (l 69 x2.toNatClampNeg) x3)) 97 ((wi s 96 (s 60 54).toNatClampNeg (f_X12_signAt (l 69 x2.toNatClampNeg) x3)) 60 54).toNatClampNeg x1) 70 x2.toNatClampNeg) + x3) / (10 : Int32) * (10 : Int32))) 71 x2.toNatClampNeg)) 60 54)).toNatClampNeg (-2 : Int32)) 60 54 (((wi (wi (wi (wi (wi s 96 (s 60 54).toNatClampNeg (f_X12_signAt (l 69 x2.toNatClampNeg) x3)) 97 ((wi s 96 (s 60 54).toNatClampNeg (f_X12_signAt (l 69 x2.toNatClampNeg) x3)) 60 54).toNatClampNeg x1) 95 ((wi (wi s 96 (s 60 54).toNatClampNeg (f_X12_signAt (l 69 x2.toNatClampNeg) x3)) 97 ((wi s 96 (s 60 54).toNatClampNeg (f_X12_signAt (l 69 x2.toNatClampNeg) x3)) 60 54).toNatClampNeg x1) 60 54).toNatClampNeg ((((wi (wi s 96 (s 60 54).toNatClampNeg (f_X12_signAt (l 69 x2.toNatClampNeg) x3)) 97 ((wi s 96 (s 60 54).toNatClampNeg (f_X12_signAt (l 69 x2.toNatClampNeg) x3)) 60 54).toNatClampNeg x1) 70 x2.toNatClampNeg) + x3) - (((wi (wi s 96 (s 60 54).toNatClampNeg (f_X12_signAt (l 69 x2.toNatClampNeg) x3)) 97 ((wi s 96 (s 60 54).toNatClampNeg (f_X12_signAt (l 69 x2.toNatClampNeg) x3)) 60 54).toNatClampNeg x1) 70 x2.toNatClampNeg) + x3) / (10 : Int32) * (10 : Int32))) 95 ((32 : Int32) + ((wi (wi (wi s 96 (s 60 54).toNatClampNeg (f_X12_signAt (l 69 x2.toNatClampNeg) x3)) 97 ((wi s 96 (s 60 54).toNatClampNeg (f_X12_signAt (l 69 x2.toNatClampNeg) x3)) 60 54).toNatClampNeg x1) 95 ((wi (wi s 96 (s 60 54).toNatClampNeg (f_X12_signAt (l 69 x2.toNatClampNeg) x3)) 97 ((wi s 96 (s 60 54).toNatClampNeg (f_X12_signAt (l 69 x2.toNatClampNeg) x3)) 60 54).toNatClampNeg x1) 60 54).toNatClampNeg ((((wi (wi s 96 (s 60 54).toNatClampNeg (f_X12_signAt (l 69 x2.toNatClampNeg) x3)) 97 ((wi s 96 (s 60 54).toNatClampNeg (f_X12_signAt (l 69 x2.toNatClampNeg) x3)) 60 54).toNatClampNeg x1) 70 x2.toNatClampNeg) + x3) - (((wi (wi s 96 (s 60 54).toNatClampNeg (f_X12_signAt (l 69 x2.toNatClampNeg) x3)) 97 ((wi s 96 (s 60 54).toNatClampNeg (f_X12_signAt (l 69 x2.toNatClampNeg) x3)) 60 54).toNatClampNeg x1) 70 x2.toNatClampNeg) + x3) / (10 : Int32) * (10 : Int32))) 60 54)).toNatClampNeg ((wi (wi (wi s 96 (s 60 54).toNatClampNeg (f_X12_signAt (l 69 x2.toNatClampNeg) x3)) 97 ((wi s 96 (s 60 54).toNatClampNeg (f_X12_signAt (l 69 x2.toNatClampNeg) x3)) 60 54).toNatClampNeg x1) 95 ((wi (wi s 96 (s 60 54).toNatClampNeg (f_X12_signAt (l 69 x2.toNatClampNeg) x3)) 97 ((wi s 96 (s 60 54).toNatClampNeg (f_X12_signAt (l 69 x2.toNatClampNeg) x3)) 60 54).toNatClampNeg x1) 60 54).toNatClampNeg ((((wi (wi s 96 (s 60 54).toNatClampNeg (f_X12_signAt (l 69 x2.toNatClampNeg) x3)) 97 ((wi s 96 (s 60 54).toNatClampNeg (f_X12_signAt (l 69 x2.toNatClampNeg) x3)) 60 54).toNatClampNeg x1) 70 x2.toNatClampNeg) + x3) - (((wi (wi s 96 (s 60 54).toNatClampNeg (f_X12_signAt (l 69 x2.toNatClampNeg) x3)) 97 ((wi s 96 (s 60 54).toNatClampNeg (f_X12_signAt (l 69 x2.toNatClampNeg) x3)) 60 54).toNatClampNeg x1) 70 x2.toNatClampNeg) + x3) / (10 : Int32) * (10 : Int32))) 71 x2.toNatClampNeg)) 95 ((64 : Int32) + ((wi (wi (wi (wi s 96 (s 60 54).toNatClampNeg (f_X12_signAt (l 69 x2.toNatClampNeg) x3)) 97 ((wi s 96 (s 60 54).toNatClampNeg (f_X12_signAt (l 69 x2.toNatClampNeg) x3)) 60 54).toNatClampNeg x1) 95 ((wi (wi s 96 (s 60 54).toNatClampNeg (f_X12_signAt (l 69 x2.toNatClampNeg) x3)) 97 ((wi s 96 (s 60 54).toNatClampNeg (f_X12_signAt (l 69 x2.toNatClampNeg) x3)) 60 54).toNatClampNeg x1) 60 54).toNatClampNeg ((((wi (wi s 96 (s 60 54).toNatClampNeg (f_X12_signAt (l 69 x2.toNatClampNeg) x3)) 97 ((wi s 96 (s 60 54).toNatClampNeg (f_X12_signAt (l 69 x2.toNatClampNeg) x3)) 60 54).toNatClampNeg x1) 70 x2.toNatClampNeg) + x3) - (((wi (wi s 96 (s 60 54).toNatClampNeg (f_X12_signAt (l 69 x2.toNatClampNeg) x3)) 97 ((wi s 96 (s 60 54).toNatClampNeg (f_X12_signAt (l 69 x2.toNatClampNeg) x3)) 60 54).toNatClampNeg x1) 70 x2.toNatClampNeg) + x3) / (10 : Int32) * (10 : Int32))) 95 ((32 : Int32) + ((wi (wi (wi s 96 (s 60 54).toNatClampNeg (f_X12_signAt (l 69 x2.toNatClampNeg) x3)) 97 ((wi s 96 (s 60 54).toNatClampNeg (f_X12_signAt (l 69 x2.toNatClampNeg) x3)) 60 54).toNatClampNeg x1) 95 ((wi (wi s 96 (s 60 54).toNatClampNeg (f_X12_signAt (l 69 x2.toNatClampNeg) x3)) 97 ((wi s 96 (s 60 54).toNatClampNeg (f_X12_signAt (l 69 x2.toNatClampNeg) x3)) 60 54).toNatClampNeg x1) 60 54).toNatClampNeg ((((wi (wi s 96 (s 60 54).toNatClampNeg (f_X12_signAt (l 69 x2.toNatClampNeg) x3)) 97 ((wi s 96 (s 60 54).toNatClampNeg (f_X12_signAt (l 69 x2.toNatClampNeg) x3)) 60 54).toNatClampNeg x1) 70 x2.toNatClampNeg) + x3) - (((wi (wi s 96 (s 60 54).toNatClampNeg (f_X12_signAt (l 69 x2.toNatClampNeg) x3)) 97 ((wi s 96 (s 60 54).toNatClampNeg (f_X12_signAt (l 69 x2.toNatClampNeg) x3)) 60 54).toNatClampNeg x1) 70 x2.toNatClampNeg) + x3) / (10 : Int32) * (10 : Int32))) 60 54)).toNatClampNeg ((wi (wi (wi s 96 (s 60 54).toNatClampNeg (f_X12_signAt (l 69 x2.toNatClampNeg) x3)) 97 ((wi s 96 (s 60 54).toNatClampNeg (f_X12_signAt (l 69 x2.toNatClampNeg) x3)) 60 54).toNatClampNeg x1) 95 ((wi (wi s 96 (s 60 54).toNatClampNeg (f_X12_signAt (l 69 x2.toNatClampNeg) x3)) 97 ((wi s 96 (s 60 54).toNatClampNeg (f_X12_signAt (l 69 x2.toNatClampNeg) x3)) 60 54).toNatClampNeg x1) 60 54).toNatClampNeg ((((wi (wi s 96 (s 60 54).toNatClampNeg (f_X12_signAt (l 69 x2.toNatClampNeg) x3)) 97 ((wi s 96 (s 60 54).toNatClampNeg (f_X12_signAt (l 69 x2.toNatClampNeg) x3)) 60 54).toNatClampNeg x1) 70 x2.toNatClampNeg) + x3) - (((wi (wi s 96 (s 60 54).toNatClampNeg (f_X12_signAt (l 69 x2.toNatClampNeg) x3)) 97 ((wi s 96 (s 60 54).toNatClampNeg (f_X12_signAt (l 69 x2.toNatClampNeg) x3)) 60 54).toNatClampNeg x1) 70 x2.toNatClampNeg) + x3) / (10 : Int32) * (10 : Int32))) 71 x2.toNatClampNeg)) 60 54)).toNatClampNeg (-2 : Int32)) 60 54) + (1 : Int32))) l

def p_X12_begins_53 (P29 : Int32 → fl_I → fl_L → Prop) : Nat → Int32 → Int32 → Int32 → fl_I → fl_L → Prop
  | 0, _, _, _, _, _ => False
  | n + 1, x1, x2, x3, s, l =>
    (vp_in x2 8) ∧ (p_X12_lengthOf (l 69 x2.toNatClampNeg)) ∧ ((((f_X12_lengthOf (l 69 x2.toNatClampNeg)) ≤ x3) → P29 (x1 + 1) s l) ∧ (¬ ((f_X12_lengthOf (l 69 x2.toNatClampNeg)) ≤ x3) → (vp_in x2 8) ∧ (p_X12_signAt (l 69 x2.toNatClampNeg) x3) ∧ (vp_in (s 60 54) 32) ∧ (vp_in ((wi s 96 (s 60 54).toNatClampNeg (f_X12_signAt (l 69 x2.toNatClampNeg) x3)) 60 54) 32) ∧ (vp_in x2 8) ∧ (vp_in ((wi (wi s 96 (s 60 54).toNatClampNeg (f_X12_signAt (l 69 x2.toNatClampNeg) x3)) 97 ((wi s 96 (s 60 54).toNatClampNeg (f_X12_signAt (l 69 x2.toNatClampNeg) x3)) 60 54).toNatClampNeg x1) 60 54) 141) ∧ (vp_in x2 8) ∧ (vp_in ((32 : Int32) + ((wi (wi (wi s 96 (s 60 54).toNatClampNeg (f_X12_signAt (l 69 x2.toNatClampNeg) x3)) 97 ((wi s 96 (s 60 54).toNatClampNeg (f_X12_signAt (l 69 x2.toNatClampNeg) x3)) 60 54).toNatClampNeg x1) 95 ((wi (wi s 96 (s 60 54).toNatClampNeg (f_X12_signAt (l 69 x2.toNatClampNeg) x3)) 97 ((wi s 96 (s 60 54).toNatClampNeg (f_X12_signAt (l 69 x2.toNatClampNeg) x3)) 60 54).toNatClampNeg x1) 60 54).toNatClampNeg ((((wi (wi s 96 (s 60 54).toNatClampNeg (f_X12_signAt (l 69 x2.toNatClampNeg) x3)) 97 ((wi s 96 (s 60 54).toNatClampNeg (f_X12_signAt (l 69 x2.toNatClampNeg) x3)) 60 54).toNatClampNeg x1) 70 x2.toNatClampNeg) + x3) - (((wi (wi s 96 (s 60 54).toNatClampNeg (f_X12_signAt (l 69 x2.toNatClampNeg) x3)) 97 ((wi s 96 (s 60 54).toNatClampNeg (f_X12_signAt (l 69 x2.toNatClampNeg) x3)) 60 54).toNatClampNeg x1) 70 x2.toNatClampNeg) + x3) / (10 : Int32) * (10 : Int32))) 60 54)) 141) ∧ (vp_in ((64 : Int32) + ((wi (wi (wi (wi s 96 (s 60 54).toNatClampNeg (f_X12_signAt (l 69 x2.toNatClampNeg) x3)) 97 ((wi s 96 (s 60 54).toNatClampNeg (f_X12_signAt (l 69 x2.toNatClampNeg) x3)) 60 54).toNatClampNeg x1) 95 ((wi (wi s 96 (s 60 54).toNatClampNeg (f_X12_signAt (l 69 x2.toNatClampNeg) x3)) 97 ((wi s 96 (s 60 54).toNatClampNeg (f_X12_signAt (l 69 x2.toNatClampNeg) x3)) 60 54).toNatClampNeg x1) 60 54).toNatClampNeg ((((wi (wi s 96 (s 60 54).toNatClampNeg (f_X12_signAt (l 69 x2.toNatClampNeg) x3)) 97 ((wi s 96 (s 60 54).toNatClampNeg (f_X12_signAt (l 69 x2.toNatClampNeg) x3)) 60 54).toNatClampNeg x1) 70 x2.toNatClampNeg) + x3) - (((wi (wi s 96 (s 60 54).toNatClampNeg (f_X12_signAt (l 69 x2.toNatClampNeg) x3)) 97 ((wi s 96 (s 60 54).toNatClampNeg (f_X12_signAt (l 69 x2.toNatClampNeg) x3)) 60 54).toNatClampNeg x1) 70 x2.toNatClampNeg) + x3) / (10 : Int32) * (10 : Int32))) 95 ((32 : Int32) + ((wi (wi (wi s 96 (s 60 54).toNatClampNeg (f_X12_signAt (l 69 x2.toNatClampNeg) x3)) 97 ((wi s 96 (s 60 54).toNatClampNeg (f_X12_signAt (l 69 x2.toNatClampNeg) x3)) 60 54).toNatClampNeg x1) 95 ((wi (wi s 96 (s 60 54).toNatClampNeg (f_X12_signAt (l 69 x2.toNatClampNeg) x3)) 97 ((wi s 96 (s 60 54).toNatClampNeg (f_X12_signAt (l 69 x2.toNatClampNeg) x3)) 60 54).toNatClampNeg x1) 60 54).toNatClampNeg ((((wi (wi s 96 (s 60 54).toNatClampNeg (f_X12_signAt (l 69 x2.toNatClampNeg) x3)) 97 ((wi s 96 (s 60 54).toNatClampNeg (f_X12_signAt (l 69 x2.toNatClampNeg) x3)) 60 54).toNatClampNeg x1) 70 x2.toNatClampNeg) + x3) - (((wi (wi s 96 (s 60 54).toNatClampNeg (f_X12_signAt (l 69 x2.toNatClampNeg) x3)) 97 ((wi s 96 (s 60 54).toNatClampNeg (f_X12_signAt (l 69 x2.toNatClampNeg) x3)) 60 54).toNatClampNeg x1) 70 x2.toNatClampNeg) + x3) / (10 : Int32) * (10 : Int32))) 60 54)).toNatClampNeg ((wi (wi (wi s 96 (s 60 54).toNatClampNeg (f_X12_signAt (l 69 x2.toNatClampNeg) x3)) 97 ((wi s 96 (s 60 54).toNatClampNeg (f_X12_signAt (l 69 x2.toNatClampNeg) x3)) 60 54).toNatClampNeg x1) 95 ((wi (wi s 96 (s 60 54).toNatClampNeg (f_X12_signAt (l 69 x2.toNatClampNeg) x3)) 97 ((wi s 96 (s 60 54).toNatClampNeg (f_X12_signAt (l 69 x2.toNatClampNeg) x3)) 60 54).toNatClampNeg x1) 60 54).toNatClampNeg ((((wi (wi s 96 (s 60 54).toNatClampNeg (f_X12_signAt (l 69 x2.toNatClampNeg) x3)) 97 ((wi s 96 (s 60 54).toNatClampNeg (f_X12_signAt (l 69 x2.toNatClampNeg) x3)) 60 54).toNatClampNeg x1) 70 x2.toNatClampNeg) + x3) - (((wi (wi s 96 (s 60 54).toNatClampNeg (f_X12_signAt (l 69 x2.toNatClampNeg) x3)) 97 ((wi s 96 (s 60 54).toNatClampNeg (f_X12_signAt (l 69 x2.toNatClampNeg) x3)) 60 54).toNatClampNeg x1) 70 x2.toNatClampNeg) + x3) / (10 : Int32) * (10 : Int32))) 71 x2.toNatClampNeg)) 60 54)) 141) ∧ p_X12_begins_53 P29 n x1 x2 (x3 + 1) (wi (wi (wi (wi (wi (wi s 96 (s 60 54).toNatClampNeg (f_X12_signAt (l 69 x2.toNatClampNeg) x3)) 97 ((wi s 96 (s 60 54).toNatClampNeg (f_X12_signAt (l 69 x2.toNatClampNeg) x3)) 60 54).toNatClampNeg x1) 95 ((wi (wi s 96 (s 60 54).toNatClampNeg (f_X12_signAt (l 69 x2.toNatClampNeg) x3)) 97 ((wi s 96 (s 60 54).toNatClampNeg (f_X12_signAt (l 69 x2.toNatClampNeg) x3)) 60 54).toNatClampNeg x1) 60 54).toNatClampNeg ((((wi (wi s 96 (s 60 54).toNatClampNeg (f_X12_signAt (l 69 x2.toNatClampNeg) x3)) 97 ((wi s 96 (s 60 54).toNatClampNeg (f_X12_signAt (l 69 x2.toNatClampNeg) x3)) 60 54).toNatClampNeg x1) 70 x2.toNatClampNeg) + x3) - (((wi (wi s 96 (s 60 54).toNatClampNeg (f_X12_signAt (l 69 x2.toNatClampNeg) x3)) 97 ((wi s 96 (s 60 54).toNatClampNeg (f_X12_signAt (l 69 x2.toNatClampNeg) x3)) 60 54).toNatClampNeg x1) 70 x2.toNatClampNeg) + x3) / (10 : Int32) * (10 : Int32))) 95 ((32 : Int32) + ((wi (wi (wi s 96 (s 60 54).toNatClampNeg (f_X12_signAt (l 69 x2.toNatClampNeg) x3)) 97 ((wi s 96 (s 60 54).toNatClampNeg (f_X12_signAt (l 69 x2.toNatClampNeg) x3)) 60 54).toNatClampNeg x1) 95 ((wi (wi s 96 (s 60 54).toNatClampNeg (f_X12_signAt (l 69 x2.toNatClampNeg) x3)) 97 ((wi s 96 (s 60 54).toNatClampNeg (f_X12_signAt (l 69 x2.toNatClampNeg) x3)) 60 54).toNatClampNeg x1) 60 54).toNatClampNeg ((((wi (wi s 96 (s 60 54).toNatClampNeg (f_X12_signAt (l 69 x2.toNatClampNeg) x3)) 97 ((wi s 96 (s 60 54).toNatClampNeg (f_X12_signAt (l 69 x2.toNatClampNeg) x3)) 60 54).toNatClampNeg x1) 70 x2.toNatClampNeg) + x3) - (((wi (wi s 96 (s 60 54).toNatClampNeg (f_X12_signAt (l 69 x2.toNatClampNeg) x3)) 97 ((wi s 96 (s 60 54).toNatClampNeg (f_X12_signAt (l 69 x2.toNatClampNeg) x3)) 60 54).toNatClampNeg x1) 70 x2.toNatClampNeg) + x3) / (10 : Int32) * (10 : Int32))) 60 54)).toNatClampNeg ((wi (wi (wi s 96 (s 60 54).toNatClampNeg (f_X12_signAt (l 69 x2.toNatClampNeg) x3)) 97 ((wi s 96 (s 60 54).toNatClampNeg (f_X12_signAt (l 69 x2.toNatClampNeg) x3)) 60 54).toNatClampNeg x1) 95 ((wi (wi s 96 (s 60 54).toNatClampNeg (f_X12_signAt (l 69 x2.toNatClampNeg) x3)) 97 ((wi s 96 (s 60 54).toNatClampNeg (f_X12_signAt (l 69 x2.toNatClampNeg) x3)) 60 54).toNatClampNeg x1) 60 54).toNatClampNeg ((((wi (wi s 96 (s 60 54).toNatClampNeg (f_X12_signAt (l 69 x2.toNatClampNeg) x3)) 97 ((wi s 96 (s 60 54).toNatClampNeg (f_X12_signAt (l 69 x2.toNatClampNeg) x3)) 60 54).toNatClampNeg x1) 70 x2.toNatClampNeg) + x3) - (((wi (wi s 96 (s 60 54).toNatClampNeg (f_X12_signAt (l 69 x2.toNatClampNeg) x3)) 97 ((wi s 96 (s 60 54).toNatClampNeg (f_X12_signAt (l 69 x2.toNatClampNeg) x3)) 60 54).toNatClampNeg x1) 70 x2.toNatClampNeg) + x3) / (10 : Int32) * (10 : Int32))) 71 x2.toNatClampNeg)) 95 ((64 : Int32) + ((wi (wi (wi (wi s 96 (s 60 54).toNatClampNeg (f_X12_signAt (l 69 x2.toNatClampNeg) x3)) 97 ((wi s 96 (s 60 54).toNatClampNeg (f_X12_signAt (l 69 x2.toNatClampNeg) x3)) 60 54).toNatClampNeg x1) 95 ((wi (wi s 96 (s 60 54).toNatClampNeg (f_X12_signAt (l 69 x2.toNatClampNeg) x3)) 97 ((wi s 96 (s 60 54).toNatClampNeg (f_X12_signAt (l 69 x2.toNatClampNeg) x3)) 60 54).toNatClampNeg x1) 60 54).toNatClampNeg ((((wi (wi s 96 (s 60 54).toNatClampNeg (f_X12_signAt (l 69 x2.toNatClampNeg) x3)) 97 ((wi s 96 (s 60 54).toNatClampNeg (f_X12_signAt (l 69 x2.toNatClampNeg) x3)) 60 54).toNatClampNeg x1) 70 x2.toNatClampNeg) + x3) - (((wi (wi s 96 (s 60 54).toNatClampNeg (f_X12_signAt (l 69 x2.toNatClampNeg) x3)) 97 ((wi s 96 (s 60 54).toNatClampNeg (f_X12_signAt (l 69 x2.toNatClampNeg) x3)) 60 54).toNatClampNeg x1) 70 x2.toNatClampNeg) + x3) / (10 : Int32) * (10 : Int32))) 95 ((32 : Int32) + ((wi (wi (wi s 96 (s 60 54).toNatClampNeg (f_X12_signAt (l 69 x2.toNatClampNeg) x3)) 97 ((wi s 96 (s 60 54).toNatClampNeg (f_X12_signAt (l 69 x2.toNatClampNeg) x3)) 60 54).toNatClampNeg x1) 95 ((wi (wi s 96 (s 60 54).toNatClampNeg (f_X12_signAt (l 69 x2.toNatClampNeg) x3)) 97 ((wi s 96 (s 60 54).toNatClampNeg (f_X12_signAt (l 69 x2.toNatClampNeg) x3)) 60 54).toNatClampNeg x1) 60 54).toNatClampNeg ((((wi (wi s 96 (s 60 54).toNatClampNeg (f_X12_signAt (l 69 x2.toNatClampNeg) x3)) 97 ((wi s 96 (s 60 54).toNatClampNeg (f_X12_signAt (l 69 x2.toNatClampNeg) x3)) 60 54).toNatClampNeg x1) 70 x2.toNatClampNeg) + x3) - (((wi (wi s 96 (s 60 54).toNatClampNeg (f_X12_signAt (l 69 x2.toNatClampNeg) x3)) 97 ((wi s 96 (s 60 54).toNatClampNeg (f_X12_signAt (l 69 x2.toNatClampNeg) x3)) 60 54).toNatClampNeg x1) 70 x2.toNatClampNeg) + x3) / (10 : Int32) * (10 : Int32))) 60 54)).toNatClampNeg ((wi (wi (wi s 96 (s 60 54).toNatClampNeg (f_X12_signAt (l 69 x2.toNatClampNeg) x3)) 97 ((wi s 96 (s 60 54).toNatClampNeg (f_X12_signAt (l 69 x2.toNatClampNeg) x3)) 60 54).toNatClampNeg x1) 95 ((wi (wi s 96 (s 60 54).toNatClampNeg (f_X12_signAt (l 69 x2.toNatClampNeg) x3)) 97 ((wi s 96 (s 60 54).toNatClampNeg (f_X12_signAt (l 69 x2.toNatClampNeg) x3)) 60 54).toNatClampNeg x1) 60 54).toNatClampNeg ((((wi (wi s 96 (s 60 54).toNatClampNeg (f_X12_signAt (l 69 x2.toNatClampNeg) x3)) 97 ((wi s 96 (s 60 54).toNatClampNeg (f_X12_signAt (l 69 x2.toNatClampNeg) x3)) 60 54).toNatClampNeg x1) 70 x2.toNatClampNeg) + x3) - (((wi (wi s 96 (s 60 54).toNatClampNeg (f_X12_signAt (l 69 x2.toNatClampNeg) x3)) 97 ((wi s 96 (s 60 54).toNatClampNeg (f_X12_signAt (l 69 x2.toNatClampNeg) x3)) 60 54).toNatClampNeg x1) 70 x2.toNatClampNeg) + x3) / (10 : Int32) * (10 : Int32))) 71 x2.toNatClampNeg)) 60 54)).toNatClampNeg (-2 : Int32)) 60 54 (((wi (wi (wi (wi (wi s 96 (s 60 54).toNatClampNeg (f_X12_signAt (l 69 x2.toNatClampNeg) x3)) 97 ((wi s 96 (s 60 54).toNatClampNeg (f_X12_signAt (l 69 x2.toNatClampNeg) x3)) 60 54).toNatClampNeg x1) 95 ((wi (wi s 96 (s 60 54).toNatClampNeg (f_X12_signAt (l 69 x2.toNatClampNeg) x3)) 97 ((wi s 96 (s 60 54).toNatClampNeg (f_X12_signAt (l 69 x2.toNatClampNeg) x3)) 60 54).toNatClampNeg x1) 60 54).toNatClampNeg ((((wi (wi s 96 (s 60 54).toNatClampNeg (f_X12_signAt (l 69 x2.toNatClampNeg) x3)) 97 ((wi s 96 (s 60 54).toNatClampNeg (f_X12_signAt (l 69 x2.toNatClampNeg) x3)) 60 54).toNatClampNeg x1) 70 x2.toNatClampNeg) + x3) - (((wi (wi s 96 (s 60 54).toNatClampNeg (f_X12_signAt (l 69 x2.toNatClampNeg) x3)) 97 ((wi s 96 (s 60 54).toNatClampNeg (f_X12_signAt (l 69 x2.toNatClampNeg) x3)) 60 54).toNatClampNeg x1) 70 x2.toNatClampNeg) + x3) / (10 : Int32) * (10 : Int32))) 95 ((32 : Int32) + ((wi (wi (wi s 96 (s 60 54).toNatClampNeg (f_X12_signAt (l 69 x2.toNatClampNeg) x3)) 97 ((wi s 96 (s 60 54).toNatClampNeg (f_X12_signAt (l 69 x2.toNatClampNeg) x3)) 60 54).toNatClampNeg x1) 95 ((wi (wi s 96 (s 60 54).toNatClampNeg (f_X12_signAt (l 69 x2.toNatClampNeg) x3)) 97 ((wi s 96 (s 60 54).toNatClampNeg (f_X12_signAt (l 69 x2.toNatClampNeg) x3)) 60 54).toNatClampNeg x1) 60 54).toNatClampNeg ((((wi (wi s 96 (s 60 54).toNatClampNeg (f_X12_signAt (l 69 x2.toNatClampNeg) x3)) 97 ((wi s 96 (s 60 54).toNatClampNeg (f_X12_signAt (l 69 x2.toNatClampNeg) x3)) 60 54).toNatClampNeg x1) 70 x2.toNatClampNeg) + x3) - (((wi (wi s 96 (s 60 54).toNatClampNeg (f_X12_signAt (l 69 x2.toNatClampNeg) x3)) 97 ((wi s 96 (s 60 54).toNatClampNeg (f_X12_signAt (l 69 x2.toNatClampNeg) x3)) 60 54).toNatClampNeg x1) 70 x2.toNatClampNeg) + x3) / (10 : Int32) * (10 : Int32))) 60 54)).toNatClampNeg ((wi (wi (wi s 96 (s 60 54).toNatClampNeg (f_X12_signAt (l 69 x2.toNatClampNeg) x3)) 97 ((wi s 96 (s 60 54).toNatClampNeg (f_X12_signAt (l 69 x2.toNatClampNeg) x3)) 60 54).toNatClampNeg x1) 95 ((wi (wi s 96 (s 60 54).toNatClampNeg (f_X12_signAt (l 69 x2.toNatClampNeg) x3)) 97 ((wi s 96 (s 60 54).toNatClampNeg (f_X12_signAt (l 69 x2.toNatClampNeg) x3)) 60 54).toNatClampNeg x1) 60 54).toNatClampNeg ((((wi (wi s 96 (s 60 54).toNatClampNeg (f_X12_signAt (l 69 x2.toNatClampNeg) x3)) 97 ((wi s 96 (s 60 54).toNatClampNeg (f_X12_signAt (l 69 x2.toNatClampNeg) x3)) 60 54).toNatClampNeg x1) 70 x2.toNatClampNeg) + x3) - (((wi (wi s 96 (s 60 54).toNatClampNeg (f_X12_signAt (l 69 x2.toNatClampNeg) x3)) 97 ((wi s 96 (s 60 54).toNatClampNeg (f_X12_signAt (l 69 x2.toNatClampNeg) x3)) 60 54).toNatClampNeg x1) 70 x2.toNatClampNeg) + x3) / (10 : Int32) * (10 : Int32))) 71 x2.toNatClampNeg)) 95 ((64 : Int32) + ((wi (wi (wi (wi s 96 (s 60 54).toNatClampNeg (f_X12_signAt (l 69 x2.toNatClampNeg) x3)) 97 ((wi s 96 (s 60 54).toNatClampNeg (f_X12_signAt (l 69 x2.toNatClampNeg) x3)) 60 54).toNatClampNeg x1) 95 ((wi (wi s 96 (s 60 54).toNatClampNeg (f_X12_signAt (l 69 x2.toNatClampNeg) x3)) 97 ((wi s 96 (s 60 54).toNatClampNeg (f_X12_signAt (l 69 x2.toNatClampNeg) x3)) 60 54).toNatClampNeg x1) 60 54).toNatClampNeg ((((wi (wi s 96 (s 60 54).toNatClampNeg (f_X12_signAt (l 69 x2.toNatClampNeg) x3)) 97 ((wi s 96 (s 60 54).toNatClampNeg (f_X12_signAt (l 69 x2.toNatClampNeg) x3)) 60 54).toNatClampNeg x1) 70 x2.toNatClampNeg) + x3) - (((wi (wi s 96 (s 60 54).toNatClampNeg (f_X12_signAt (l 69 x2.toNatClampNeg) x3)) 97 ((wi s 96 (s 60 54).toNatClampNeg (f_X12_signAt (l 69 x2.toNatClampNeg) x3)) 60 54).toNatClampNeg x1) 70 x2.toNatClampNeg) + x3) / (10 : Int32) * (10 : Int32))) 95 ((32 : Int32) + ((wi (wi (wi s 96 (s 60 54).toNatClampNeg (f_X12_signAt (l 69 x2.toNatClampNeg) x3)) 97 ((wi s 96 (s 60 54).toNatClampNeg (f_X12_signAt (l 69 x2.toNatClampNeg) x3)) 60 54).toNatClampNeg x1) 95 ((wi (wi s 96 (s 60 54).toNatClampNeg (f_X12_signAt (l 69 x2.toNatClampNeg) x3)) 97 ((wi s 96 (s 60 54).toNatClampNeg (f_X12_signAt (l 69 x2.toNatClampNeg) x3)) 60 54).toNatClampNeg x1) 60 54).toNatClampNeg ((((wi (wi s 96 (s 60 54).toNatClampNeg (f_X12_signAt (l 69 x2.toNatClampNeg) x3)) 97 ((wi s 96 (s 60 54).toNatClampNeg (f_X12_signAt (l 69 x2.toNatClampNeg) x3)) 60 54).toNatClampNeg x1) 70 x2.toNatClampNeg) + x3) - (((wi (wi s 96 (s 60 54).toNatClampNeg (f_X12_signAt (l 69 x2.toNatClampNeg) x3)) 97 ((wi s 96 (s 60 54).toNatClampNeg (f_X12_signAt (l 69 x2.toNatClampNeg) x3)) 60 54).toNatClampNeg x1) 70 x2.toNatClampNeg) + x3) / (10 : Int32) * (10 : Int32))) 60 54)).toNatClampNeg ((wi (wi (wi s 96 (s 60 54).toNatClampNeg (f_X12_signAt (l 69 x2.toNatClampNeg) x3)) 97 ((wi s 96 (s 60 54).toNatClampNeg (f_X12_signAt (l 69 x2.toNatClampNeg) x3)) 60 54).toNatClampNeg x1) 95 ((wi (wi s 96 (s 60 54).toNatClampNeg (f_X12_signAt (l 69 x2.toNatClampNeg) x3)) 97 ((wi s 96 (s 60 54).toNatClampNeg (f_X12_signAt (l 69 x2.toNatClampNeg) x3)) 60 54).toNatClampNeg x1) 60 54).toNatClampNeg ((((wi (wi s 96 (s 60 54).toNatClampNeg (f_X12_signAt (l 69 x2.toNatClampNeg) x3)) 97 ((wi s 96 (s 60 54).toNatClampNeg (f_X12_signAt (l 69 x2.toNatClampNeg) x3)) 60 54).toNatClampNeg x1) 70 x2.toNatClampNeg) + x3) - (((wi (wi s 96 (s 60 54).toNatClampNeg (f_X12_signAt (l 69 x2.toNatClampNeg) x3)) 97 ((wi s 96 (s 60 54).toNatClampNeg (f_X12_signAt (l 69 x2.toNatClampNeg) x3)) 60 54).toNatClampNeg x1) 70 x2.toNatClampNeg) + x3) / (10 : Int32) * (10 : Int32))) 71 x2.toNatClampNeg)) 60 54)).toNatClampNeg (-2 : Int32)) 60 54) + (1 : Int32))) l))

set_option maxRecDepth 100000 in
set_option maxHeartbeats 4000000 in
theorem lp_X12_begins_53 {G : ab_G} {d : Nat} {D : fl_D} (K29 : Int32 → fl_I → fl_L → fl_I × fl_L) (P29 : Int32 → fl_I → fl_L → Prop) (hK29 : ∀ (x1 : Int32) (s : fl_I) (l : fl_L), P29 x1 s l → ab_C G (d + 2) 0 0 M_X12_begins 29 [some (.ref 60), some (.int x1), none, none] [] (hp D s l) (rt none (hp D (K29 x1 s l).1 (K29 x1 s l).2))) : ∀ (n : Nat) (x1 : Int32) (x2 : Int32) (x3 : Int32) (s : fl_I) (l : fl_L), p_X12_begins_53 P29 n x1 x2 x3 s l → ab_C G (d + 2) 0 0 M_X12_begins 53 [some (.ref 60), some (.int x1), some (.int x2), some (.int x3)] [] (hp D s l) (rt none (hp D (f_X12_begins_53 K29 n x1 x2 x3 s l).1 (f_X12_begins_53 K29 n x1 x2 x3 s l).2)) := by
  intro n
  induction n with
  | zero => intro x1 x2 x3 s l hk; exact hk.elim
  | succ n ih =>
    intro x1 x2 x3 s l hk
    generalize he : f_X12_begins_53 K29 (n + 1) x1 x2 x3 s l = res
    unfold f_X12_begins_53 at he
    unfold p_X12_begins_53 at hk
    refine r_iload_n rfl rfl ?_
    refine r_aload_n rfl rfl ?_
    refine q_getfield rfl (cc_60 _) rfl ?_
    refine r_iload_n rfl rfl ?_
    obtain ⟨hb8, hk⟩ := hk
    refine q_lald rfl (cc_69 _) hb8 ?_
    obtain ⟨hb9, hk⟩ := hk
    refine r_callS0 [_] _ rfl kY_X12_lengthOf kT_X12_lengthOf rfl rfl (Nat.le_of_ble_eq_true rfl) (Nat.le_of_ble_eq_true rfl) (s_X12_lengthOf hb9) (fun r h q => ?_)
    obtain ⟨rfl, rfl⟩ := q
    simp only [Option.toList, List.cons_append, List.nil_append]
    refine r_icmp_ge rfl (fun c_63 => ?_) (fun c_63 => ?_)
    · rw [if_pos c_63] at he
      replace hk := hk.1 c_63
      refine r_iinc (b := x1 + 1) rfl rfl rfl (Nat.le_of_ble_eq_true rfl) rfl ?_
      refine r_goto rfl ?_
      subst he
      exact r_weak (L1 := [some (.ref 60), some (.int (x1 + 1)), none, none]) ⟨rfl, rfl, trivial⟩ (hK29 _ _ _ hk)
    · rw [if_neg c_63] at he
      replace hk := hk.2 c_63
      refine r_aload_n rfl rfl ?_
      refine q_getfield rfl (cc_60 _) rfl ?_
      refine r_aload_n rfl rfl ?_
      refine q_getfield rfl (cc_60 _) rfl ?_
      refine r_aload_n rfl rfl ?_
      refine q_getfield rfl (cc_60 _) rfl ?_
      refine r_iload_n rfl rfl ?_
      obtain ⟨hb10, hk⟩ := hk
      refine q_lald rfl (cc_69 _) hb10 ?_
      refine r_iload_n rfl rfl ?_
      obtain ⟨hb11, hk⟩ := hk
      refine r_callS0 [_, _] _ rfl kY_X12_signAt kT_X12_signAt rfl rfl (Nat.le_of_ble_eq_true rfl) (Nat.le_of_ble_eq_true rfl) (s_X12_signAt hb11) (fun r h q => ?_)
      obtain ⟨rfl, rfl⟩ := q
      simp only [Option.toList, List.cons_append, List.nil_append]
      obtain ⟨hb12, hk⟩ := hk
      refine w_iast rfl (cc_96 _) hb12 ?_
      refine r_aload_n rfl rfl ?_
      refine q_getfield rfl (cc_60 _) rfl ?_
      refine r_aload_n rfl rfl ?_
      refine q_getfield rfl (cc_60 _) rfl ?_
      refine r_iload_n rfl rfl ?_
      obtain ⟨hb13, hk⟩ := hk
      refine w_iast rfl (cc_97 _) hb13 ?_
      refine r_aload_n rfl rfl ?_
      refine q_getfield rfl (cc_60 _) rfl ?_
      refine r_aload_n rfl rfl ?_
      refine q_getfield rfl (cc_60 _) rfl ?_
      refine r_aload_n rfl rfl ?_
      refine q_getfield rfl (cc_60 _) rfl ?_
      refine r_iload_n rfl rfl ?_
      obtain ⟨hb14, hk⟩ := hk
      refine q_iald rfl (cc_70 _) hb14 ?_
      refine r_iload_n rfl rfl ?_
      refine r_iadd rfl ?_
      refine r_bipush_ (a := 10) rfl (by decide) ?_
      refine r_irem rfl (by decide) ?_
      obtain ⟨hb15, hk⟩ := hk
      refine w_iast rfl (cc_95 _) hb15 ?_
      refine r_aload_n rfl rfl ?_
      refine q_getfield rfl (cc_60 _) rfl ?_
      refine r_bipush_ (a := 32) rfl (by decide) ?_
      refine r_aload_n rfl rfl ?_
      refine q_getfield rfl (cc_60 _) rfl ?_
      refine r_iadd rfl ?_
      refine r_aload_n rfl rfl ?_
      refine q_getfield rfl (cc_60 _) rfl ?_
      refine r_iload_n rfl rfl ?_
      obtain ⟨hb16, hk⟩ := hk
      refine q_iald rfl (cc_71 _) hb16 ?_
      obtain ⟨hb17, hk⟩ := hk
      refine w_iast rfl (cc_95 _) hb17 ?_
      refine r_aload_n rfl rfl ?_
      refine q_getfield rfl (cc_60 _) rfl ?_
      refine r_bipush_ (a := 64) rfl (by decide) ?_
      refine r_aload_n rfl rfl ?_
      refine q_getfield rfl (cc_60 _) rfl ?_
      refine r_iadd rfl ?_
      refine r_bipush_ (a := -2) rfl (by decide) ?_
      obtain ⟨hb18, hk⟩ := hk
      refine w_iast rfl (cc_95 _) hb18 ?_
      refine r_aload_n rfl rfl ?_
      refine r_dup rfl rfl ?_
      refine q_getfield rfl (cc_60 _) rfl ?_
      refine r_iconst_ (a := 1) rfl (by decide) ?_
      refine r_iadd rfl ?_
      refine w_put rfl (cc_60 _) ff_12_54 ft_12_54 (Nat.le_of_ble_eq_true rfl) rfl ?_
      refine r_iinc (b := x3 + 1) rfl rfl rfl (Nat.le_of_ble_eq_true rfl) rfl ?_
      refine r_goto rfl ?_
      subst he
      exact r_weak (L1 := [some (.ref 60), some (.int x1), some (.int x2), some (.int (x3 + 1))]) ⟨rfl, rfl, rfl, rfl, trivial⟩ (ih _ _ _ _ _ hk)

def f_X12_begins_29 : Nat → Int32 → fl_I → fl_L → fl_I × fl_L
  | 0, x1, s, l => (s, l)
  | n + 1, x1, s, l =>
    if ((s 68 (s 60 18).toNatClampNeg) ≤ x1) then f_X12_begins_171 fu (0 : Int32) s l else f_X12_begins_53 (fun x1 s l => f_X12_begins_29 n x1 s l) fu x1 (((4 : Int32) * (s 60 18)) + x1) (0 : Int32) s l

def p_X12_begins_29 : Nat → Int32 → fl_I → fl_L → Prop
  | 0, _, _, _ => False
  | n + 1, x1, s, l =>
    (vp_in (s 60 18) 2) ∧ ((((s 68 (s 60 18).toNatClampNeg) ≤ x1) → p_X12_begins_171 fu (0 : Int32) s l) ∧ (¬ ((s 68 (s 60 18).toNatClampNeg) ≤ x1) → p_X12_begins_53 (fun x1 s l => p_X12_begins_29 n x1 s l) fu x1 (((4 : Int32) * (s 60 18)) + x1) (0 : Int32) s l))

set_option maxRecDepth 100000 in
set_option maxHeartbeats 4000000 in
theorem lp_X12_begins_29 {G : ab_G} {d : Nat} {D : fl_D} : ∀ (n : Nat) (x1 : Int32) (s : fl_I) (l : fl_L), p_X12_begins_29 n x1 s l → ab_C G (d + 2) 0 0 M_X12_begins 29 [some (.ref 60), some (.int x1), none, none] [] (hp D s l) (rt none (hp D (f_X12_begins_29 n x1 s l).1 (f_X12_begins_29 n x1 s l).2)) := by
  intro n
  induction n with
  | zero => intro x1 s l hk; exact hk.elim
  | succ n ih =>
    intro x1 s l hk
    generalize he : f_X12_begins_29 (n + 1) x1 s l = res
    unfold f_X12_begins_29 at he
    unfold p_X12_begins_29 at hk
    refine r_iload_n rfl rfl ?_
    refine r_aload_n rfl rfl ?_
    refine q_getfield rfl (cc_60 _) rfl ?_
    refine r_aload_n rfl rfl ?_
    refine q_getfield rfl (cc_60 _) rfl ?_
    obtain ⟨hb0, hk⟩ := hk
    refine q_iald rfl (cc_68 _) hb0 ?_
    refine r_icmp_ge rfl (fun c_39 => ?_) (fun c_39 => ?_)
    · rw [if_pos c_39] at he
      replace hk := hk.1 c_39
      refine r_iconst_ (a := 0) rfl (by decide) ?_
      refine r_istore_n rfl (Nat.le_of_ble_eq_true rfl) rfl ?_
      subst he
      exact r_weak (L1 := [some (.ref 60), some (.int (0 : Int32)), none, none]) ⟨rfl, rfl, trivial⟩ (lp_X12_begins_171 fu _ _ _ hk)
    · rw [if_neg c_39] at he
      replace hk := hk.2 c_39
      refine r_iconst_ (a := 4) rfl (by decide) ?_
      refine r_aload_n rfl rfl ?_
      refine q_getfield rfl (cc_60 _) rfl ?_
      refine r_imul rfl ?_
      refine r_iload_n rfl rfl ?_
      refine r_iadd rfl ?_
      refine r_istore_n rfl (Nat.le_of_ble_eq_true rfl) rfl ?_
      refine r_iconst_ (a := 0) rfl (by decide) ?_
      refine r_istore_n rfl (Nat.le_of_ble_eq_true rfl) rfl ?_
      subst he
      exact r_weak (L1 := [some (.ref 60), some (.int x1), some (.int (((4 : Int32) * (s 60 18)) + x1)), some (.int (0 : Int32))]) ⟨rfl, rfl, rfl, rfl, trivial⟩ (lp_X12_begins_53 _ _ (fun _ _ _ h9 => ih _ _ _ h9) fu _ _ _ _ _ hk)

def f_X12_begins_2 : Nat → Int32 → fl_I → fl_L → fl_I × fl_L
  | 0, x1, s, l => (s, l)
  | n + 1, x1, s, l =>
    if ((141 : Int32) ≤ x1) then f_X12_begins_29 fu (0 : Int32) (wi s 60 54 (0 : Int32)) l else f_X12_begins_2 n (x1 + 1) (wi s 95 x1.toNatClampNeg (0 : Int32)) l

def p_X12_begins_2 : Nat → Int32 → fl_I → fl_L → Prop
  | 0, _, _, _ => False
  | n + 1, x1, s, l =>
    ((((141 : Int32) ≤ x1) → p_X12_begins_29 fu (0 : Int32) (wi s 60 54 (0 : Int32)) l) ∧ (¬ ((141 : Int32) ≤ x1) → (vp_in x1 141) ∧ p_X12_begins_2 n (x1 + 1) (wi s 95 x1.toNatClampNeg (0 : Int32)) l))

set_option maxRecDepth 100000 in
set_option maxHeartbeats 4000000 in
theorem lp_X12_begins_2 {G : ab_G} {d : Nat} {D : fl_D} : ∀ (n : Nat) (x1 : Int32) (s : fl_I) (l : fl_L), p_X12_begins_2 n x1 s l → ab_C G (d + 2) 0 0 M_X12_begins 2 [some (.ref 60), some (.int x1), none, none] [] (hp D s l) (rt none (hp D (f_X12_begins_2 n x1 s l).1 (f_X12_begins_2 n x1 s l).2)) := by
  intro n
  induction n with
  | zero => intro x1 s l hk; exact hk.elim
  | succ n ih =>
    intro x1 s l hk
    generalize he : f_X12_begins_2 (n + 1) x1 s l = res
    unfold f_X12_begins_2 at he
    unfold p_X12_begins_2 at hk
    refine r_iload_n rfl rfl ?_
    refine r_sipush_ (a := 141) rfl (by decide) ?_
    refine r_icmp_ge rfl (fun c_6 => ?_) (fun c_6 => ?_)
    · rw [if_pos c_6] at he
      replace hk := hk.1 c_6
      refine r_aload_n rfl rfl ?_
      refine r_iconst_ (a := 0) rfl (by decide) ?_
      refine w_put rfl (cc_60 _) ff_12_54 ft_12_54 (Nat.le_of_ble_eq_true rfl) rfl ?_
      refine r_iconst_ (a := 0) rfl (by decide) ?_
      refine r_istore_n rfl (Nat.le_of_ble_eq_true rfl) rfl ?_
      subst he
      exact r_weak (L1 := [some (.ref 60), some (.int (0 : Int32)), none, none]) ⟨rfl, rfl, trivial⟩ (lp_X12_begins_29 fu _ _ _ hk)
    · rw [if_neg c_6] at he
      replace hk := hk.2 c_6
      refine r_aload_n rfl rfl ?_
      refine q_getfield rfl (cc_60 _) rfl ?_
      refine r_iload_n rfl rfl ?_
      refine r_iconst_ (a := 0) rfl (by decide) ?_
      obtain ⟨hb19, hk⟩ := hk
      refine w_iast rfl (cc_95 _) hb19 ?_
      refine r_iinc (b := x1 + 1) rfl rfl rfl (Nat.le_of_ble_eq_true rfl) rfl ?_
      refine r_goto rfl ?_
      subst he
      exact r_weak (L1 := [some (.ref 60), some (.int (x1 + 1)), none, none]) ⟨rfl, rfl, trivial⟩ (ih _ _ _ hk)

def f_X12_begins (s : fl_I) (l : fl_L) : fl_I × fl_L :=
  f_X12_begins_2 fu (0 : Int32) s l

def p_X12_begins (s : fl_I) (l : fl_L) : Prop :=
  p_X12_begins_2 fu (0 : Int32) s l

set_option maxRecDepth 100000 in
set_option maxHeartbeats 4000000 in
theorem s_X12_begins {G : ab_G} {d : Nat} {D : fl_D} {s : fl_I} {l : fl_L}  (hk : p_X12_begins s l) : ab_C G (d + 2) 0 0 M_X12_begins 0 (ab_ent [.ref 60]) [] (hp D s l) (rt none (hp D (f_X12_begins s l).1 (f_X12_begins s l).2)) := by
  generalize he : (f_X12_begins s l) = res
  unfold f_X12_begins at he
  unfold p_X12_begins at hk
  refine r_weak (L1 := [some (.ref 60), none, none, none]) ⟨rfl, trivial⟩ ?_
  refine r_iconst_ (a := 0) rfl (by decide) ?_
  refine r_istore_n rfl (Nat.le_of_ble_eq_true rfl) rfl ?_
  subst he
  exact r_weak (L1 := [some (.ref 60), some (.int (0 : Int32)), none, none]) ⟨rfl, rfl, trivial⟩ (lp_X12_begins_2 fu _ _ _ hk)

def f_X12_cut_208 (K7 : Int32 → fl_I → fl_L → fl_I × fl_L) : Nat → Int32 → Int32 → Int32 → fl_I → fl_L → fl_I × fl_L
  | 0, x1, x3, x4, s, l => (s, l)
  | n + 1, x1, x3, x4, s, l =>
    if ((f_X12_isDigit (f_X12_byteAt (x1 + x3) s l)) = 0) then if (x3 ≤ (4 : Int32)) then K7 (x1 + x3) (f_X12_token (2 : Int32) x1 x4 (0 : Int64) s l).1 (f_X12_token (2 : Int32) x1 x4 (0 : Int64) s l).2 else K7 (x1 + x3) (f_X12_token (3 : Int32) x1 x4 (0 : Int64) s l).1 (f_X12_token (3 : Int32) x1 x4 (0 : Int64) s l).2 else if ((4 : Int32) ≤ x3) then f_X12_cut_208 K7 n x1 (x3 + 1) x4 s l else f_X12_cut_208 K7 n x1 (x3 + 1) ((((10 : Int32) * x4) + (f_X12_byteAt (x1 + x3) s l)) - (48 : Int32)) s l

def p_X12_cut_208 (P7 : Int32 → fl_I → fl_L → Prop) : Nat → Int32 → Int32 → Int32 → fl_I → fl_L → Prop
  | 0, _, _, _, _, _ => False
  | n + 1, x1, x3, x4, s, l =>
    (p_X12_byteAt (x1 + x3) s l) ∧ (p_X12_isDigit (f_X12_byteAt (x1 + x3) s l)) ∧ ((((f_X12_isDigit (f_X12_byteAt (x1 + x3) s l)) = 0) → (((x3 ≤ (4 : Int32)) → (p_X12_token (2 : Int32) x1 x4 (0 : Int64) s l) ∧ P7 (x1 + x3) (f_X12_token (2 : Int32) x1 x4 (0 : Int64) s l).1 (f_X12_token (2 : Int32) x1 x4 (0 : Int64) s l).2) ∧ (¬ (x3 ≤ (4 : Int32)) → (p_X12_token (3 : Int32) x1 x4 (0 : Int64) s l) ∧ P7 (x1 + x3) (f_X12_token (3 : Int32) x1 x4 (0 : Int64) s l).1 (f_X12_token (3 : Int32) x1 x4 (0 : Int64) s l).2))) ∧ (¬ ((f_X12_isDigit (f_X12_byteAt (x1 + x3) s l)) = 0) → ((((4 : Int32) ≤ x3) → p_X12_cut_208 P7 n x1 (x3 + 1) x4 s l) ∧ (¬ ((4 : Int32) ≤ x3) → (p_X12_byteAt (x1 + x3) s l) ∧ p_X12_cut_208 P7 n x1 (x3 + 1) ((((10 : Int32) * x4) + (f_X12_byteAt (x1 + x3) s l)) - (48 : Int32)) s l))))

set_option maxRecDepth 100000 in
set_option maxHeartbeats 4000000 in
theorem lp_X12_cut_208 {G : ab_G} {d : Nat} {D : fl_D} (K7 : Int32 → fl_I → fl_L → fl_I × fl_L) (P7 : Int32 → fl_I → fl_L → Prop) (hK7 : ∀ (x1 : Int32) (s : fl_I) (l : fl_L), P7 x1 s l → ab_C G (d + 2) 0 0 M_X12_cut 7 [some (.ref 60), some (.int x1), none, none, none, none, none, none] [] (hp D s l) (rt none (hp D (K7 x1 s l).1 (K7 x1 s l).2))) : ∀ (n : Nat) (x1 : Int32) (x3 : Int32) (x4 : Int32) (s : fl_I) (l : fl_L), p_X12_cut_208 P7 n x1 x3 x4 s l → ab_C G (d + 2) 0 0 M_X12_cut 208 [some (.ref 60), some (.int x1), none, some (.int x3), some (.int x4), none, none, none] [] (hp D s l) (rt none (hp D (f_X12_cut_208 K7 n x1 x3 x4 s l).1 (f_X12_cut_208 K7 n x1 x3 x4 s l).2)) := by
  intro n
  induction n with
  | zero => intro x1 x3 x4 s l hk; exact hk.elim
  | succ n ih =>
    intro x1 x3 x4 s l hk
    generalize he : f_X12_cut_208 K7 (n + 1) x1 x3 x4 s l = res
    unfold f_X12_cut_208 at he
    unfold p_X12_cut_208 at hk
    refine r_aload_n rfl rfl ?_
    refine r_iload_n rfl rfl ?_
    refine r_iload_n rfl rfl ?_
    refine r_iadd rfl ?_
    obtain ⟨hb5, hk⟩ := hk
    refine q_callV0 [_] _ rfl kY_X12_byteAt kT_X12_byteAt rfl rfl (Nat.le_of_ble_eq_true rfl) (Nat.le_of_ble_eq_true rfl) (cc_60 _) (s_X12_byteAt hb5) (fun r h q => ?_)
    obtain ⟨rfl, rfl⟩ := q
    simp only [Option.toList, List.cons_append, List.nil_append]
    obtain ⟨hb6, hk⟩ := hk
    refine r_callS0 [_] _ rfl kY_X12_isDigit kT_X12_isDigit rfl rfl (Nat.le_of_ble_eq_true rfl) (Nat.le_of_ble_eq_true rfl) (s_X12_isDigit hb6) (fun r h q => ?_)
    obtain ⟨rfl, rfl⟩ := q
    simp only [Option.toList, List.cons_append, List.nil_append]
    refine r_if_eq rfl (fun c_218 => ?_) (fun c_218 => ?_)
    · rw [if_pos c_218] at he
      replace hk := hk.1 c_218
      refine r_aload_n rfl rfl ?_
      refine r_iload_n rfl rfl ?_
      refine r_iconst_ (a := 4) rfl (by decide) ?_
      refine r_icmp_le rfl (fun c_253 => ?_) (fun c_253 => ?_)
      · rw [if_pos c_253] at he
        replace hk := hk.1 c_253
        refine r_iconst_ (a := 2) rfl (by decide) ?_
        refine r_iload_n rfl rfl ?_
        refine r_iload rfl rfl ?_
        refine r_lconst (a := 0) rfl (by decide) ?_
        obtain ⟨hb7, hk⟩ := hk
        refine q_callV0 [_, _, _, _] _ rfl kY_X12_token kT_X12_token rfl rfl (Nat.le_of_ble_eq_true rfl) (Nat.le_of_ble_eq_true rfl) (cc_60 _) (s_X12_token hb7) (fun r h q => ?_)
        obtain ⟨rfl, rfl⟩ := q
        simp only [Option.toList, List.cons_append, List.nil_append]
        refine r_iload_n rfl rfl ?_
        refine r_iload_n rfl rfl ?_
        refine r_iadd rfl ?_
        refine r_istore_n rfl (Nat.le_of_ble_eq_true rfl) rfl ?_
        refine r_goto rfl ?_
        refine r_goto rfl ?_
        subst he
        exact r_weak (L1 := [some (.ref 60), some (.int (x1 + x3)), none, none, none, none, none, none]) ⟨rfl, rfl, trivial⟩ (hK7 _ _ _ hk)
      · rw [if_neg c_253] at he
        replace hk := hk.2 c_253
        refine r_iconst_ (a := 3) rfl (by decide) ?_
        refine r_goto rfl ?_
        refine r_iload_n rfl rfl ?_
        refine r_iload rfl rfl ?_
        refine r_lconst (a := 0) rfl (by decide) ?_
        obtain ⟨hb8, hk⟩ := hk
        refine q_callV0 [_, _, _, _] _ rfl kY_X12_token kT_X12_token rfl rfl (Nat.le_of_ble_eq_true rfl) (Nat.le_of_ble_eq_true rfl) (cc_60 _) (s_X12_token hb8) (fun r h q => ?_)
        obtain ⟨rfl, rfl⟩ := q
        simp only [Option.toList, List.cons_append, List.nil_append]
        refine r_iload_n rfl rfl ?_
        refine r_iload_n rfl rfl ?_
        refine r_iadd rfl ?_
        refine r_istore_n rfl (Nat.le_of_ble_eq_true rfl) rfl ?_
        refine r_goto rfl ?_
        refine r_goto rfl ?_
        subst he
        exact r_weak (L1 := [some (.ref 60), some (.int (x1 + x3)), none, none, none, none, none, none]) ⟨rfl, rfl, trivial⟩ (hK7 _ _ _ hk)
    · rw [if_neg c_218] at he
      replace hk := hk.2 c_218
      refine r_iload_n rfl rfl ?_
      refine r_iconst_ (a := 4) rfl (by decide) ?_
      refine r_icmp_ge rfl (fun c_223 => ?_) (fun c_223 => ?_)
      · rw [if_pos c_223] at he
        replace hk := hk.1 c_223
        refine r_iinc (b := x3 + 1) rfl rfl rfl (Nat.le_of_ble_eq_true rfl) rfl ?_
        refine r_goto rfl ?_
        subst he
        exact r_weak (L1 := [some (.ref 60), some (.int x1), none, some (.int (x3 + 1)), some (.int x4), none, none, none]) ⟨rfl, rfl, rfl, rfl, trivial⟩ (ih _ _ _ _ _ hk)
      · rw [if_neg c_223] at he
        replace hk := hk.2 c_223
        refine r_bipush_ (a := 10) rfl (by decide) ?_
        refine r_iload rfl rfl ?_
        refine r_imul rfl ?_
        refine r_aload_n rfl rfl ?_
        refine r_iload_n rfl rfl ?_
        refine r_iload_n rfl rfl ?_
        refine r_iadd rfl ?_
        obtain ⟨hb9, hk⟩ := hk
        refine q_callV0 [_] _ rfl kY_X12_byteAt kT_X12_byteAt rfl rfl (Nat.le_of_ble_eq_true rfl) (Nat.le_of_ble_eq_true rfl) (cc_60 _) (s_X12_byteAt hb9) (fun r h q => ?_)
        obtain ⟨rfl, rfl⟩ := q
        simp only [Option.toList, List.cons_append, List.nil_append]
        refine r_iadd rfl ?_
        refine r_bipush_ (a := 48) rfl (by decide) ?_
        refine r_isub rfl ?_
        refine r_istore rfl (Nat.le_of_ble_eq_true rfl) rfl ?_
        refine r_iinc (b := x3 + 1) rfl rfl rfl (Nat.le_of_ble_eq_true rfl) rfl ?_
        refine r_goto rfl ?_
        subst he
        exact r_weak (L1 := [some (.ref 60), some (.int x1), none, some (.int (x3 + 1)), some (.int ((((10 : Int32) * x4) + (f_X12_byteAt (x1 + x3) s l)) - (48 : Int32))), none, none, none]) ⟨rfl, rfl, rfl, rfl, trivial⟩ (ih _ _ _ _ _ hk)

def f_X12_cut_146 (K7 : Int32 → fl_I → fl_L → fl_I × fl_L) : Nat → Int32 → Int32 → Int64 → Int32 → Int32 → fl_I → fl_L → fl_I × fl_L
  | 0, x1, x3, x4, x6, x7, s, l => (s, l)
  | n + 1, x1, x3, x4, x6, x7, s, l =>
    if ((21 : Int32) ≤ x7) then K7 (x1 + x3) (f_X12_token x6 x1 (0 : Int32) x4 s l).1 (f_X12_token x6 x1 (0 : Int32) x4 s l).2 else if ((lg_cmp (l 67 x7.toNatClampNeg) x4) = 0) then f_X12_cut_146 K7 n x1 x3 x4 ((20 : Int32) + x7) (x7 + 1) s l else f_X12_cut_146 K7 n x1 x3 x4 x6 (x7 + 1) s l

def p_X12_cut_146 (P7 : Int32 → fl_I → fl_L → Prop) : Nat → Int32 → Int32 → Int64 → Int32 → Int32 → fl_I → fl_L → Prop
  | 0, _, _, _, _, _, _, _ => False
  | n + 1, x1, x3, x4, x6, x7, s, l =>
    ((((21 : Int32) ≤ x7) → (p_X12_token x6 x1 (0 : Int32) x4 s l) ∧ P7 (x1 + x3) (f_X12_token x6 x1 (0 : Int32) x4 s l).1 (f_X12_token x6 x1 (0 : Int32) x4 s l).2) ∧ (¬ ((21 : Int32) ≤ x7) → (vp_in x7 21) ∧ ((((lg_cmp (l 67 x7.toNatClampNeg) x4) = 0) → p_X12_cut_146 P7 n x1 x3 x4 ((20 : Int32) + x7) (x7 + 1) s l) ∧ (¬ ((lg_cmp (l 67 x7.toNatClampNeg) x4) = 0) → p_X12_cut_146 P7 n x1 x3 x4 x6 (x7 + 1) s l))))

set_option maxRecDepth 100000 in
set_option maxHeartbeats 4000000 in
theorem lp_X12_cut_146 {G : ab_G} {d : Nat} {D : fl_D} (K7 : Int32 → fl_I → fl_L → fl_I × fl_L) (P7 : Int32 → fl_I → fl_L → Prop) (hK7 : ∀ (x1 : Int32) (s : fl_I) (l : fl_L), P7 x1 s l → ab_C G (d + 2) 0 0 M_X12_cut 7 [some (.ref 60), some (.int x1), none, none, none, none, none, none] [] (hp D s l) (rt none (hp D (K7 x1 s l).1 (K7 x1 s l).2))) : ∀ (n : Nat) (x1 : Int32) (x3 : Int32) (x4 : Int64) (x6 : Int32) (x7 : Int32) (s : fl_I) (l : fl_L), p_X12_cut_146 P7 n x1 x3 x4 x6 x7 s l → ab_C G (d + 2) 0 0 M_X12_cut 146 [some (.ref 60), some (.int x1), none, some (.int x3), some (.long x4), none, some (.int x6), some (.int x7)] [] (hp D s l) (rt none (hp D (f_X12_cut_146 K7 n x1 x3 x4 x6 x7 s l).1 (f_X12_cut_146 K7 n x1 x3 x4 x6 x7 s l).2)) := by
  intro n
  induction n with
  | zero => intro x1 x3 x4 x6 x7 s l hk; exact hk.elim
  | succ n ih =>
    intro x1 x3 x4 x6 x7 s l hk
    generalize he : f_X12_cut_146 K7 (n + 1) x1 x3 x4 x6 x7 s l = res
    unfold f_X12_cut_146 at he
    unfold p_X12_cut_146 at hk
    refine r_iload rfl rfl ?_
    refine r_bipush_ (a := 21) rfl (by decide) ?_
    refine r_icmp_ge rfl (fun c_150 => ?_) (fun c_150 => ?_)
    · rw [if_pos c_150] at he
      replace hk := hk.1 c_150
      refine r_aload_n rfl rfl ?_
      refine r_iload rfl rfl ?_
      refine r_iload_n rfl rfl ?_
      refine r_iconst_ (a := 0) rfl (by decide) ?_
      refine r_lload rfl rfl ?_
      obtain ⟨hb13, hk⟩ := hk
      refine q_callV0 [_, _, _, _] _ rfl kY_X12_token kT_X12_token rfl rfl (Nat.le_of_ble_eq_true rfl) (Nat.le_of_ble_eq_true rfl) (cc_60 _) (s_X12_token hb13) (fun r h q => ?_)
      obtain ⟨rfl, rfl⟩ := q
      simp only [Option.toList, List.cons_append, List.nil_append]
      refine r_iload_n rfl rfl ?_
      refine r_iload_n rfl rfl ?_
      refine r_iadd rfl ?_
      refine r_istore_n rfl (Nat.le_of_ble_eq_true rfl) rfl ?_
      refine r_goto rfl ?_
      refine r_goto rfl ?_
      subst he
      exact r_weak (L1 := [some (.ref 60), some (.int (x1 + x3)), none, none, none, none, none, none]) ⟨rfl, rfl, trivial⟩ (hK7 _ _ _ hk)
    · rw [if_neg c_150] at he
      replace hk := hk.2 c_150
      refine r_aload_n rfl rfl ?_
      refine q_getfield rfl (cc_60 _) rfl ?_
      refine r_iload rfl rfl ?_
      obtain ⟨hb14, hk⟩ := hk
      refine q_lald rfl (cc_67 _) hb14 ?_
      refine r_lload rfl rfl ?_
      refine r_lcmp rfl ?_
      refine r_if_ne rfl (fun c_163 => ?_) (fun c_163 => ?_)
      · rw [if_neg c_163] at he
        replace hk := hk.2 c_163
        refine r_iinc (b := x7 + 1) rfl rfl rfl (Nat.le_of_ble_eq_true rfl) rfl ?_
        refine r_goto rfl ?_
        subst he
        exact r_weak (L1 := [some (.ref 60), some (.int x1), none, some (.int x3), some (.long x4), none, some (.int x6), some (.int (x7 + 1))]) ⟨rfl, rfl, rfl, rfl, rfl, rfl, trivial⟩ (ih _ _ _ _ _ _ _ hk)
      · rw [if_pos c_163] at he
        replace hk := hk.1 c_163
        refine r_bipush_ (a := 20) rfl (by decide) ?_
        refine r_iload rfl rfl ?_
        refine r_iadd rfl ?_
        refine r_istore rfl (Nat.le_of_ble_eq_true rfl) rfl ?_
        refine r_iinc (b := x7 + 1) rfl rfl rfl (Nat.le_of_ble_eq_true rfl) rfl ?_
        refine r_goto rfl ?_
        subst he
        exact r_weak (L1 := [some (.ref 60), some (.int x1), none, some (.int x3), some (.long x4), none, some (.int ((20 : Int32) + x7)), some (.int (x7 + 1))]) ⟨rfl, rfl, rfl, rfl, rfl, rfl, trivial⟩ (ih _ _ _ _ _ _ _ hk)

def f_X12_cut_85 (K7 : Int32 → fl_I → fl_L → fl_I × fl_L) : Nat → Int32 → Int32 → Int64 → fl_I → fl_L → fl_I × fl_L
  | 0, x1, x3, x4, s, l => (s, l)
  | n + 1, x1, x3, x4, s, l =>
    if ((f_X12_isLetter (f_X12_byteAt (x1 + x3) s l)) = 0) then if (x3 ≤ (8 : Int32)) then if ((8 : Int32) < x3) then K7 (x1 + x3) (f_X12_token (1 : Int32) x1 (0 : Int32) x4 s l).1 (f_X12_token (1 : Int32) x1 (0 : Int32) x4 s l).2 else f_X12_cut_146 K7 fu x1 x3 x4 (1 : Int32) (0 : Int32) s l else if ((8 : Int32) < x3) then K7 (x1 + x3) (f_X12_token (3 : Int32) x1 (0 : Int32) x4 s l).1 (f_X12_token (3 : Int32) x1 (0 : Int32) x4 s l).2 else f_X12_cut_146 K7 fu x1 x3 x4 (3 : Int32) (0 : Int32) s l else if ((8 : Int32) ≤ x3) then f_X12_cut_85 K7 n x1 (x3 + 1) x4 s l else f_X12_cut_85 K7 n x1 (x3 + 1) (f_X12_appends x4 (f_X12_byteAt (x1 + x3) s l)) s l

def p_X12_cut_85 (P7 : Int32 → fl_I → fl_L → Prop) : Nat → Int32 → Int32 → Int64 → fl_I → fl_L → Prop
  | 0, _, _, _, _, _ => False
  | n + 1, x1, x3, x4, s, l =>
    (p_X12_byteAt (x1 + x3) s l) ∧ (p_X12_isLetter (f_X12_byteAt (x1 + x3) s l)) ∧ ((((f_X12_isLetter (f_X12_byteAt (x1 + x3) s l)) = 0) → (((x3 ≤ (8 : Int32)) → ((((8 : Int32) < x3) → (p_X12_token (1 : Int32) x1 (0 : Int32) x4 s l) ∧ P7 (x1 + x3) (f_X12_token (1 : Int32) x1 (0 : Int32) x4 s l).1 (f_X12_token (1 : Int32) x1 (0 : Int32) x4 s l).2) ∧ (¬ ((8 : Int32) < x3) → p_X12_cut_146 P7 fu x1 x3 x4 (1 : Int32) (0 : Int32) s l))) ∧ (¬ (x3 ≤ (8 : Int32)) → ((((8 : Int32) < x3) → (p_X12_token (3 : Int32) x1 (0 : Int32) x4 s l) ∧ P7 (x1 + x3) (f_X12_token (3 : Int32) x1 (0 : Int32) x4 s l).1 (f_X12_token (3 : Int32) x1 (0 : Int32) x4 s l).2) ∧ (¬ ((8 : Int32) < x3) → p_X12_cut_146 P7 fu x1 x3 x4 (3 : Int32) (0 : Int32) s l))))) ∧ (¬ ((f_X12_isLetter (f_X12_byteAt (x1 + x3) s l)) = 0) → ((((8 : Int32) ≤ x3) → p_X12_cut_85 P7 n x1 (x3 + 1) x4 s l) ∧ (¬ ((8 : Int32) ≤ x3) → (p_X12_byteAt (x1 + x3) s l) ∧ (p_X12_appends x4 (f_X12_byteAt (x1 + x3) s l)) ∧ p_X12_cut_85 P7 n x1 (x3 + 1) (f_X12_appends x4 (f_X12_byteAt (x1 + x3) s l)) s l))))

set_option maxRecDepth 100000 in
set_option maxHeartbeats 4000000 in
theorem lp_X12_cut_85 {G : ab_G} {d : Nat} {D : fl_D} (K7 : Int32 → fl_I → fl_L → fl_I × fl_L) (P7 : Int32 → fl_I → fl_L → Prop) (hK7 : ∀ (x1 : Int32) (s : fl_I) (l : fl_L), P7 x1 s l → ab_C G (d + 2) 0 0 M_X12_cut 7 [some (.ref 60), some (.int x1), none, none, none, none, none, none] [] (hp D s l) (rt none (hp D (K7 x1 s l).1 (K7 x1 s l).2))) : ∀ (n : Nat) (x1 : Int32) (x3 : Int32) (x4 : Int64) (s : fl_I) (l : fl_L), p_X12_cut_85 P7 n x1 x3 x4 s l → ab_C G (d + 2) 0 0 M_X12_cut 85 [some (.ref 60), some (.int x1), none, some (.int x3), some (.long x4), none, none, none] [] (hp D s l) (rt none (hp D (f_X12_cut_85 K7 n x1 x3 x4 s l).1 (f_X12_cut_85 K7 n x1 x3 x4 s l).2)) := by
  intro n
  induction n with
  | zero => intro x1 x3 x4 s l hk; exact hk.elim
  | succ n ih =>
    intro x1 x3 x4 s l hk
    generalize he : f_X12_cut_85 K7 (n + 1) x1 x3 x4 s l = res
    unfold f_X12_cut_85 at he
    unfold p_X12_cut_85 at hk
    refine r_aload_n rfl rfl ?_
    refine r_iload_n rfl rfl ?_
    refine r_iload_n rfl rfl ?_
    refine r_iadd rfl ?_
    obtain ⟨hb10, hk⟩ := hk
    refine q_callV0 [_] _ rfl kY_X12_byteAt kT_X12_byteAt rfl rfl (Nat.le_of_ble_eq_true rfl) (Nat.le_of_ble_eq_true rfl) (cc_60 _) (s_X12_byteAt hb10) (fun r h q => ?_)
    obtain ⟨rfl, rfl⟩ := q
    simp only [Option.toList, List.cons_append, List.nil_append]
    obtain ⟨hb11, hk⟩ := hk
    refine r_callS0 [_] _ rfl kY_X12_isLetter kT_X12_isLetter rfl rfl (Nat.le_of_ble_eq_true rfl) (Nat.le_of_ble_eq_true rfl) (s_X12_isLetter hb11) (fun r h q => ?_)
    obtain ⟨rfl, rfl⟩ := q
    simp only [Option.toList, List.cons_append, List.nil_append]
    refine r_if_eq rfl (fun c_95 => ?_) (fun c_95 => ?_)
    · rw [if_pos c_95] at he
      replace hk := hk.1 c_95
      refine r_iload_n rfl rfl ?_
      refine r_bipush_ (a := 8) rfl (by decide) ?_
      refine r_icmp_le rfl (fun c_127 => ?_) (fun c_127 => ?_)
      · rw [if_pos c_127] at he
        replace hk := hk.1 c_127
        refine r_iconst_ (a := 1) rfl (by decide) ?_
        refine r_istore rfl (Nat.le_of_ble_eq_true rfl) rfl ?_
        refine r_iload_n rfl rfl ?_
        refine r_bipush_ (a := 8) rfl (by decide) ?_
        refine r_icmp_gt rfl (fun c_140 => ?_) (fun c_140 => ?_)
        · rw [if_pos c_140] at he
          replace hk := hk.1 c_140
          refine r_aload_n rfl rfl ?_
          refine r_iload rfl rfl ?_
          refine r_iload_n rfl rfl ?_
          refine r_iconst_ (a := 0) rfl (by decide) ?_
          refine r_lload rfl rfl ?_
          obtain ⟨hb12, hk⟩ := hk
          refine q_callV0 [_, _, _, _] _ rfl kY_X12_token kT_X12_token rfl rfl (Nat.le_of_ble_eq_true rfl) (Nat.le_of_ble_eq_true rfl) (cc_60 _) (s_X12_token hb12) (fun r h q => ?_)
          obtain ⟨rfl, rfl⟩ := q
          simp only [Option.toList, List.cons_append, List.nil_append]
          refine r_iload_n rfl rfl ?_
          refine r_iload_n rfl rfl ?_
          refine r_iadd rfl ?_
          refine r_istore_n rfl (Nat.le_of_ble_eq_true rfl) rfl ?_
          refine r_goto rfl ?_
          refine r_goto rfl ?_
          subst he
          exact r_weak (L1 := [some (.ref 60), some (.int (x1 + x3)), none, none, none, none, none, none]) ⟨rfl, rfl, trivial⟩ (hK7 _ _ _ hk)
        · rw [if_neg c_140] at he
          replace hk := hk.2 c_140
          refine r_iconst_ (a := 0) rfl (by decide) ?_
          refine r_istore rfl (Nat.le_of_ble_eq_true rfl) rfl ?_
          subst he
          exact r_weak (L1 := [some (.ref 60), some (.int x1), none, some (.int x3), some (.long x4), none, some (.int (1 : Int32)), some (.int (0 : Int32))]) ⟨rfl, rfl, rfl, rfl, rfl, rfl, trivial⟩ (lp_X12_cut_146 _ _ hK7 fu _ _ _ _ _ _ _ hk)
      · rw [if_neg c_127] at he
        replace hk := hk.2 c_127
        refine r_iconst_ (a := 3) rfl (by decide) ?_
        refine r_goto rfl ?_
        refine r_istore rfl (Nat.le_of_ble_eq_true rfl) rfl ?_
        refine r_iload_n rfl rfl ?_
        refine r_bipush_ (a := 8) rfl (by decide) ?_
        refine r_icmp_gt rfl (fun c_140 => ?_) (fun c_140 => ?_)
        · rw [if_pos c_140] at he
          replace hk := hk.1 c_140
          refine r_aload_n rfl rfl ?_
          refine r_iload rfl rfl ?_
          refine r_iload_n rfl rfl ?_
          refine r_iconst_ (a := 0) rfl (by decide) ?_
          refine r_lload rfl rfl ?_
          obtain ⟨hb15, hk⟩ := hk
          refine q_callV0 [_, _, _, _] _ rfl kY_X12_token kT_X12_token rfl rfl (Nat.le_of_ble_eq_true rfl) (Nat.le_of_ble_eq_true rfl) (cc_60 _) (s_X12_token hb15) (fun r h q => ?_)
          obtain ⟨rfl, rfl⟩ := q
          simp only [Option.toList, List.cons_append, List.nil_append]
          refine r_iload_n rfl rfl ?_
          refine r_iload_n rfl rfl ?_
          refine r_iadd rfl ?_
          refine r_istore_n rfl (Nat.le_of_ble_eq_true rfl) rfl ?_
          refine r_goto rfl ?_
          refine r_goto rfl ?_
          subst he
          exact r_weak (L1 := [some (.ref 60), some (.int (x1 + x3)), none, none, none, none, none, none]) ⟨rfl, rfl, trivial⟩ (hK7 _ _ _ hk)
        · rw [if_neg c_140] at he
          replace hk := hk.2 c_140
          refine r_iconst_ (a := 0) rfl (by decide) ?_
          refine r_istore rfl (Nat.le_of_ble_eq_true rfl) rfl ?_
          subst he
          exact r_weak (L1 := [some (.ref 60), some (.int x1), none, some (.int x3), some (.long x4), none, some (.int (3 : Int32)), some (.int (0 : Int32))]) ⟨rfl, rfl, rfl, rfl, rfl, rfl, trivial⟩ (lp_X12_cut_146 _ _ hK7 fu _ _ _ _ _ _ _ hk)
    · rw [if_neg c_95] at he
      replace hk := hk.2 c_95
      refine r_iload_n rfl rfl ?_
      refine r_bipush_ (a := 8) rfl (by decide) ?_
      refine r_icmp_ge rfl (fun c_101 => ?_) (fun c_101 => ?_)
      · rw [if_pos c_101] at he
        replace hk := hk.1 c_101
        refine r_iinc (b := x3 + 1) rfl rfl rfl (Nat.le_of_ble_eq_true rfl) rfl ?_
        refine r_goto rfl ?_
        subst he
        exact r_weak (L1 := [some (.ref 60), some (.int x1), none, some (.int (x3 + 1)), some (.long x4), none, none, none]) ⟨rfl, rfl, rfl, rfl, trivial⟩ (ih _ _ _ _ _ hk)
      · rw [if_neg c_101] at he
        replace hk := hk.2 c_101
        refine r_lload rfl rfl ?_
        refine r_aload_n rfl rfl ?_
        refine r_iload_n rfl rfl ?_
        refine r_iload_n rfl rfl ?_
        refine r_iadd rfl ?_
        obtain ⟨hb16, hk⟩ := hk
        refine q_callV0 [_] _ rfl kY_X12_byteAt kT_X12_byteAt rfl rfl (Nat.le_of_ble_eq_true rfl) (Nat.le_of_ble_eq_true rfl) (cc_60 _) (s_X12_byteAt hb16) (fun r h q => ?_)
        obtain ⟨rfl, rfl⟩ := q
        simp only [Option.toList, List.cons_append, List.nil_append]
        obtain ⟨hb17, hk⟩ := hk
        refine r_callS0 [_, _] _ rfl kY_X12_appends kT_X12_appends rfl rfl (Nat.le_of_ble_eq_true rfl) (Nat.le_of_ble_eq_true rfl) (s_X12_appends hb17) (fun r h q => ?_)
        obtain ⟨rfl, rfl⟩ := q
        simp only [Option.toList, List.cons_append, List.nil_append]
        refine r_lstore rfl (Nat.le_of_ble_eq_true rfl) rfl ?_
        refine r_iinc (b := x3 + 1) rfl rfl rfl (Nat.le_of_ble_eq_true rfl) rfl ?_
        refine r_goto rfl ?_
        subst he
        exact r_weak (L1 := [some (.ref 60), some (.int x1), none, some (.int (x3 + 1)), some (.long (f_X12_appends x4 (f_X12_byteAt (x1 + x3) s l))), none, none, none]) ⟨rfl, rfl, rfl, rfl, trivial⟩ (ih _ _ _ _ _ hk)

def f_X12_cut_7 : Nat → Int32 → fl_I → fl_L → fl_I × fl_L
  | 0, x1, s, l => (s, l)
  | n + 1, x1, s, l =>
    if ((400 : Int32) < (s 60 10)) then (s, l) else if (x1 < (s 60 4)) then if ((f_X12_byteAt x1 s l) = (9 : Int32)) then f_X12_cut_7 n (x1 + 1) s l else if ((f_X12_byteAt x1 s l) = (10 : Int32)) then f_X12_cut_7 n (x1 + 1) s l else if ((f_X12_byteAt x1 s l) = (13 : Int32)) then f_X12_cut_7 n (x1 + 1) s l else if ((f_X12_byteAt x1 s l) = (32 : Int32)) then f_X12_cut_7 n (x1 + 1) s l else if ((f_X12_isLetter (f_X12_byteAt x1 s l)) = 0) then if ((f_X12_isDigit (f_X12_byteAt x1 s l)) = 0) then f_X12_cut_7 n (x1 + (f_X12_sign x1 (f_X12_byteAt x1 s l) (f_X12_byteAt (x1 + (1 : Int32)) s l) s l).1) (f_X12_sign x1 (f_X12_byteAt x1 s l) (f_X12_byteAt (x1 + (1 : Int32)) s l) s l).2.1 (f_X12_sign x1 (f_X12_byteAt x1 s l) (f_X12_byteAt (x1 + (1 : Int32)) s l) s l).2.2 else f_X12_cut_208 (fun x1 s l => f_X12_cut_7 n x1 s l) fu x1 (0 : Int32) (0 : Int32) s l else f_X12_cut_85 (fun x1 s l => f_X12_cut_7 n x1 s l) fu x1 (0 : Int32) (0 : Int64) s l else ((f_X12_token (0 : Int32) (s 60 4) (0 : Int32) (0 : Int64) s l).1, (f_X12_token (0 : Int32) (s 60 4) (0 : Int32) (0 : Int64) s l).2)

def p_X12_cut_7 : Nat → Int32 → fl_I → fl_L → Prop
  | 0, _, _, _ => False
  | n + 1, x1, s, l =>
    ((((400 : Int32) < (s 60 10)) → True) ∧ (¬ ((400 : Int32) < (s 60 10)) → (p_X12_byteAt x1 s l) ∧ (((x1 < (s 60 4)) → ((((f_X12_byteAt x1 s l) = (9 : Int32)) → p_X12_cut_7 n (x1 + 1) s l) ∧ (¬ ((f_X12_byteAt x1 s l) = (9 : Int32)) → ((((f_X12_byteAt x1 s l) = (10 : Int32)) → p_X12_cut_7 n (x1 + 1) s l) ∧ (¬ ((f_X12_byteAt x1 s l) = (10 : Int32)) → ((((f_X12_byteAt x1 s l) = (13 : Int32)) → p_X12_cut_7 n (x1 + 1) s l) ∧ (¬ ((f_X12_byteAt x1 s l) = (13 : Int32)) → ((((f_X12_byteAt x1 s l) = (32 : Int32)) → p_X12_cut_7 n (x1 + 1) s l) ∧ (¬ ((f_X12_byteAt x1 s l) = (32 : Int32)) → (p_X12_isLetter (f_X12_byteAt x1 s l)) ∧ ((((f_X12_isLetter (f_X12_byteAt x1 s l)) = 0) → (p_X12_isDigit (f_X12_byteAt x1 s l)) ∧ ((((f_X12_isDigit (f_X12_byteAt x1 s l)) = 0) → (p_X12_byteAt (x1 + (1 : Int32)) s l) ∧ (p_X12_sign x1 (f_X12_byteAt x1 s l) (f_X12_byteAt (x1 + (1 : Int32)) s l) s l) ∧ p_X12_cut_7 n (x1 + (f_X12_sign x1 (f_X12_byteAt x1 s l) (f_X12_byteAt (x1 + (1 : Int32)) s l) s l).1) (f_X12_sign x1 (f_X12_byteAt x1 s l) (f_X12_byteAt (x1 + (1 : Int32)) s l) s l).2.1 (f_X12_sign x1 (f_X12_byteAt x1 s l) (f_X12_byteAt (x1 + (1 : Int32)) s l) s l).2.2) ∧ (¬ ((f_X12_isDigit (f_X12_byteAt x1 s l)) = 0) → p_X12_cut_208 (fun x1 s l => p_X12_cut_7 n x1 s l) fu x1 (0 : Int32) (0 : Int32) s l))) ∧ (¬ ((f_X12_isLetter (f_X12_byteAt x1 s l)) = 0) → p_X12_cut_85 (fun x1 s l => p_X12_cut_7 n x1 s l) fu x1 (0 : Int32) (0 : Int64) s l))))))))))) ∧ (¬ (x1 < (s 60 4)) → (p_X12_token (0 : Int32) (s 60 4) (0 : Int32) (0 : Int64) s l) ∧ True))))

set_option maxRecDepth 100000 in
set_option maxHeartbeats 4000000 in
theorem lp_X12_cut_7 {G : ab_G} {d : Nat} {D : fl_D} : ∀ (n : Nat) (x1 : Int32) (s : fl_I) (l : fl_L), p_X12_cut_7 n x1 s l → ab_C G (d + 2) 0 0 M_X12_cut 7 [some (.ref 60), some (.int x1), none, none, none, none, none, none] [] (hp D s l) (rt none (hp D (f_X12_cut_7 n x1 s l).1 (f_X12_cut_7 n x1 s l).2)) := by
  intro n
  induction n with
  | zero => intro x1 s l hk; exact hk.elim
  | succ n ih =>
    intro x1 s l hk
    generalize he : f_X12_cut_7 (n + 1) x1 s l = res
    unfold f_X12_cut_7 at he
    unfold p_X12_cut_7 at hk
    refine r_aload_n rfl rfl ?_
    refine q_getfield rfl (cc_60 _) rfl ?_
    refine r_sipush_ (a := 400) rfl (by decide) ?_
    refine r_icmp_gt rfl (fun c_14 => ?_) (fun c_14 => ?_)
    · rw [if_pos c_14] at he
      replace hk := hk.1 c_14
      refine r_ret rfl rfl ?_
      subst he
      exact ⟨rfl, rfl⟩
    · rw [if_neg c_14] at he
      replace hk := hk.2 c_14
      refine r_aload_n rfl rfl ?_
      refine r_iload_n rfl rfl ?_
      obtain ⟨hb0, hk⟩ := hk
      refine q_callV0 [_] _ rfl kY_X12_byteAt kT_X12_byteAt rfl rfl (Nat.le_of_ble_eq_true rfl) (Nat.le_of_ble_eq_true rfl) (cc_60 _) (s_X12_byteAt hb0) (fun r h q => ?_)
      obtain ⟨rfl, rfl⟩ := q
      simp only [Option.toList, List.cons_append, List.nil_append]
      refine r_istore_n rfl (Nat.le_of_ble_eq_true rfl) rfl ?_
      refine r_iload_n rfl rfl ?_
      refine r_aload_n rfl rfl ?_
      refine q_getfield rfl (cc_60 _) rfl ?_
      refine r_icmp_lt rfl (fun c_28 => ?_) (fun c_28 => ?_)
      · rw [if_pos c_28] at he
        replace hk := hk.1 c_28
        refine r_iload_n rfl rfl ?_
        refine r_bipush_ (a := 9) rfl (by decide) ?_
        refine r_icmp_eq rfl (fun c_46 => ?_) (fun c_46 => ?_)
        · rw [if_pos c_46] at he
          replace hk := hk.1 c_46
          refine r_iinc (b := x1 + 1) rfl rfl rfl (Nat.le_of_ble_eq_true rfl) rfl ?_
          refine r_goto rfl ?_
          refine r_goto rfl ?_
          subst he
          exact r_weak (L1 := [some (.ref 60), some (.int (x1 + 1)), none, none, none, none, none, none]) ⟨rfl, rfl, trivial⟩ (ih _ _ _ hk)
        · rw [if_neg c_46] at he
          replace hk := hk.2 c_46
          refine r_iload_n rfl rfl ?_
          refine r_bipush_ (a := 10) rfl (by decide) ?_
          refine r_icmp_eq rfl (fun c_52 => ?_) (fun c_52 => ?_)
          · rw [if_pos c_52] at he
            replace hk := hk.1 c_52
            refine r_iinc (b := x1 + 1) rfl rfl rfl (Nat.le_of_ble_eq_true rfl) rfl ?_
            refine r_goto rfl ?_
            refine r_goto rfl ?_
            subst he
            exact r_weak (L1 := [some (.ref 60), some (.int (x1 + 1)), none, none, none, none, none, none]) ⟨rfl, rfl, trivial⟩ (ih _ _ _ hk)
          · rw [if_neg c_52] at he
            replace hk := hk.2 c_52
            refine r_iload_n rfl rfl ?_
            refine r_bipush_ (a := 13) rfl (by decide) ?_
            refine r_icmp_eq rfl (fun c_58 => ?_) (fun c_58 => ?_)
            · rw [if_pos c_58] at he
              replace hk := hk.1 c_58
              refine r_iinc (b := x1 + 1) rfl rfl rfl (Nat.le_of_ble_eq_true rfl) rfl ?_
              refine r_goto rfl ?_
              refine r_goto rfl ?_
              subst he
              exact r_weak (L1 := [some (.ref 60), some (.int (x1 + 1)), none, none, none, none, none, none]) ⟨rfl, rfl, trivial⟩ (ih _ _ _ hk)
            · rw [if_neg c_58] at he
              replace hk := hk.2 c_58
              refine r_iload_n rfl rfl ?_
              refine r_bipush_ (a := 32) rfl (by decide) ?_
              refine r_icmp_ne rfl (fun c_64 => ?_) (fun c_64 => ?_)
              · rw [if_neg c_64] at he
                replace hk := hk.2 c_64
                refine r_iload_n rfl rfl ?_
                obtain ⟨hb1, hk⟩ := hk
                refine r_callS0 [_] _ rfl kY_X12_isLetter kT_X12_isLetter rfl rfl (Nat.le_of_ble_eq_true rfl) (Nat.le_of_ble_eq_true rfl) (s_X12_isLetter hb1) (fun r h q => ?_)
                obtain ⟨rfl, rfl⟩ := q
                simp only [Option.toList, List.cons_append, List.nil_append]
                refine r_if_eq rfl (fun c_77 => ?_) (fun c_77 => ?_)
                · rw [if_pos c_77] at he
                  replace hk := hk.1 c_77
                  refine r_iload_n rfl rfl ?_
                  obtain ⟨hb2, hk⟩ := hk
                  refine r_callS0 [_] _ rfl kY_X12_isDigit kT_X12_isDigit rfl rfl (Nat.le_of_ble_eq_true rfl) (Nat.le_of_ble_eq_true rfl) (s_X12_isDigit hb2) (fun r h q => ?_)
                  obtain ⟨rfl, rfl⟩ := q
                  simp only [Option.toList, List.cons_append, List.nil_append]
                  refine r_if_eq rfl (fun c_200 => ?_) (fun c_200 => ?_)
                  · rw [if_pos c_200] at he
                    replace hk := hk.1 c_200
                    refine r_iload_n rfl rfl ?_
                    refine r_aload_n rfl rfl ?_
                    refine r_iload_n rfl rfl ?_
                    refine r_iload_n rfl rfl ?_
                    refine r_aload_n rfl rfl ?_
                    refine r_iload_n rfl rfl ?_
                    refine r_iconst_ (a := 1) rfl (by decide) ?_
                    refine r_iadd rfl ?_
                    obtain ⟨hb3, hk⟩ := hk
                    refine q_callV0 [_] _ rfl kY_X12_byteAt kT_X12_byteAt rfl rfl (Nat.le_of_ble_eq_true rfl) (Nat.le_of_ble_eq_true rfl) (cc_60 _) (s_X12_byteAt hb3) (fun r h q => ?_)
                    obtain ⟨rfl, rfl⟩ := q
                    simp only [Option.toList, List.cons_append, List.nil_append]
                    obtain ⟨hb4, hk⟩ := hk
                    refine q_callV0 [_, _, _] _ rfl kY_X12_sign kT_X12_sign rfl rfl (Nat.le_of_ble_eq_true rfl) (Nat.le_of_ble_eq_true rfl) (cc_60 _) (s_X12_sign hb4) (fun r h q => ?_)
                    obtain ⟨rfl, rfl⟩ := q
                    simp only [Option.toList, List.cons_append, List.nil_append]
                    refine r_iadd rfl ?_
                    refine r_istore_n rfl (Nat.le_of_ble_eq_true rfl) rfl ?_
                    refine r_goto rfl ?_
                    subst he
                    exact r_weak (L1 := [some (.ref 60), some (.int (x1 + (f_X12_sign x1 (f_X12_byteAt x1 s l) (f_X12_byteAt (x1 + (1 : Int32)) s l) s l).1)), none, none, none, none, none, none]) ⟨rfl, rfl, trivial⟩ (ih _ _ _ hk)
                  · rw [if_neg c_200] at he
                    replace hk := hk.2 c_200
                    refine r_iconst_ (a := 0) rfl (by decide) ?_
                    refine r_istore_n rfl (Nat.le_of_ble_eq_true rfl) rfl ?_
                    refine r_iconst_ (a := 0) rfl (by decide) ?_
                    refine r_istore rfl (Nat.le_of_ble_eq_true rfl) rfl ?_
                    subst he
                    exact r_weak (L1 := [some (.ref 60), some (.int x1), none, some (.int (0 : Int32)), some (.int (0 : Int32)), none, none, none]) ⟨rfl, rfl, rfl, rfl, trivial⟩ (lp_X12_cut_208 _ _ (fun _ _ _ h9 => ih _ _ _ h9) fu _ _ _ _ _ hk)
                · rw [if_neg c_77] at he
                  replace hk := hk.2 c_77
                  refine r_iconst_ (a := 0) rfl (by decide) ?_
                  refine r_istore_n rfl (Nat.le_of_ble_eq_true rfl) rfl ?_
                  refine r_lconst (a := 0) rfl (by decide) ?_
                  refine r_lstore rfl (Nat.le_of_ble_eq_true rfl) rfl ?_
                  subst he
                  exact r_weak (L1 := [some (.ref 60), some (.int x1), none, some (.int (0 : Int32)), some (.long (0 : Int64)), none, none, none]) ⟨rfl, rfl, rfl, rfl, trivial⟩ (lp_X12_cut_85 _ _ (fun _ _ _ h9 => ih _ _ _ h9) fu _ _ _ _ _ hk)
              · rw [if_pos c_64] at he
                replace hk := hk.1 c_64
                refine r_iinc (b := x1 + 1) rfl rfl rfl (Nat.le_of_ble_eq_true rfl) rfl ?_
                refine r_goto rfl ?_
                refine r_goto rfl ?_
                subst he
                exact r_weak (L1 := [some (.ref 60), some (.int (x1 + 1)), none, none, none, none, none, none]) ⟨rfl, rfl, trivial⟩ (ih _ _ _ hk)
      · rw [if_neg c_28] at he
        replace hk := hk.2 c_28
        refine r_aload_n rfl rfl ?_
        refine r_iconst_ (a := 0) rfl (by decide) ?_
        refine r_aload_n rfl rfl ?_
        refine q_getfield rfl (cc_60 _) rfl ?_
        refine r_iconst_ (a := 0) rfl (by decide) ?_
        refine r_lconst (a := 0) rfl (by decide) ?_
        obtain ⟨hb18, hk⟩ := hk
        refine q_callV0 [_, _, _, _] _ rfl kY_X12_token kT_X12_token rfl rfl (Nat.le_of_ble_eq_true rfl) (Nat.le_of_ble_eq_true rfl) (cc_60 _) (s_X12_token hb18) (fun r h q => ?_)
        obtain ⟨rfl, rfl⟩ := q
        simp only [Option.toList, List.cons_append, List.nil_append]
        refine r_ret rfl rfl ?_
        subst he
        exact ⟨rfl, rfl⟩

def f_X12_cut (s : fl_I) (l : fl_L) : fl_I × fl_L :=
  f_X12_cut_7 fu (0 : Int32) (wi s 60 10 (0 : Int32)) l

def p_X12_cut (s : fl_I) (l : fl_L) : Prop :=
  p_X12_cut_7 fu (0 : Int32) (wi s 60 10 (0 : Int32)) l

set_option maxRecDepth 100000 in
set_option maxHeartbeats 4000000 in
theorem s_X12_cut {G : ab_G} {d : Nat} {D : fl_D} {s : fl_I} {l : fl_L}  (hk : p_X12_cut s l) : ab_C G (d + 2) 0 0 M_X12_cut 0 (ab_ent [.ref 60]) [] (hp D s l) (rt none (hp D (f_X12_cut s l).1 (f_X12_cut s l).2)) := by
  generalize he : (f_X12_cut s l) = res
  unfold f_X12_cut at he
  unfold p_X12_cut at hk
  refine r_weak (L1 := [some (.ref 60), none, none, none, none, none, none, none]) ⟨rfl, trivial⟩ ?_
  refine r_aload_n rfl rfl ?_
  refine r_iconst_ (a := 0) rfl (by decide) ?_
  refine w_put rfl (cc_60 _) ff_12_10 ft_12_10 (Nat.le_of_ble_eq_true rfl) rfl ?_
  refine r_iconst_ (a := 0) rfl (by decide) ?_
  refine r_istore_n rfl (Nat.le_of_ble_eq_true rfl) rfl ?_
  subst he
  exact r_weak (L1 := [some (.ref 60), some (.int (0 : Int32)), none, none, none, none, none, none]) ⟨rfl, rfl, trivial⟩ (lp_X12_cut_7 fu _ _ _ hk)

