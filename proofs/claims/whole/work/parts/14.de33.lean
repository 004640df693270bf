def f_X11_year_21 (fu : Nat) (D : fl_D) (s : fl_I) (l : fl_L) : Int32 × fl_I × fl_L :=
    ((-1 : Int32), s, l)

def p_X11_year_21 (fu : Nat) (D : fl_D) (s : fl_I) (l : fl_L) : Prop :=
    True

set_option maxRecDepth 100000 in
set_option maxHeartbeats 1000000 in
theorem lp_X11_year_21 {G : ab_G} {fu : Nat} {d : Nat} {D : fl_D} : ∀ (s : fl_I) (l : fl_L), p_X11_year_21 fu  D s l → ab_C G (d + 5) 0 0 M_X11_year 21 [none, none, none, none, none, none] [] (hp D s l) (rt (some (.int (f_X11_year_21 fu  D s l).1)) (hp D (f_X11_year_21 fu  D s l).2.1 (f_X11_year_21 fu  D s l).2.2)) := by
  intro  s l hk
  generalize he : f_X11_year_21 fu  D s l = res
  unfold f_X11_year_21 at he
  unfold p_X11_year_21 at hk
  refine r_iconst_ (a := -1) rfl (by decide) ?_
  refine r_iret rfl rfl rfl ?_
  first | with_reducible exact fin_i he | exact fin_i he

def f_X11_year_121 (fu : Nat) (K57 : Int32 → Int32 → Int32 → Int32 → Int32 → fl_I → fl_L → Int32 × fl_I × fl_L) (x1 : Int32) (x2 : Int32) (x3 : Int32) (x4 : Int32) (x5 : Int32) (D : fl_D) (s : fl_I) (l : fl_L) : Int32 × fl_I × fl_L :=
    K57 x1 x2 x3 x4 (x5 + 1) s l

def p_X11_year_121 (fu : Nat) (P57 : Int32 → Int32 → Int32 → Int32 → Int32 → fl_I → fl_L → Prop) (x1 : Int32) (x2 : Int32) (x3 : Int32) (x4 : Int32) (x5 : Int32) (D : fl_D) (s : fl_I) (l : fl_L) : Prop :=
    P57 x1 x2 x3 x4 (x5 + 1) s l

set_option maxRecDepth 100000 in
set_option maxHeartbeats 1000000 in
theorem lp_X11_year_121 {G : ab_G} {fu : Nat} {d : Nat} {D : fl_D} (K57 : Int32 → Int32 → Int32 → Int32 → Int32 → fl_I → fl_L → Int32 × fl_I × fl_L) (P57 : Int32 → Int32 → Int32 → Int32 → Int32 → fl_I → fl_L → Prop) (hK57 : ∀ (x1 : Int32) (x2 : Int32) (x3 : Int32) (x4 : Int32) (x5 : Int32) (s : fl_I) (l : fl_L), P57 x1 x2 x3 x4 x5 s l → ab_C G (d + 5) 0 0 M_X11_year 57 [some (.ref 0), some (.int x1), some (.int x2), some (.int x3), some (.int x4), some (.int x5)] [] (hp D s l) (rt (some (.int (K57 x1 x2 x3 x4 x5 s l).1)) (hp D (K57 x1 x2 x3 x4 x5 s l).2.1 (K57 x1 x2 x3 x4 x5 s l).2.2))) : ∀ (x1 : Int32) (x2 : Int32) (x3 : Int32) (x4 : Int32) (x5 : Int32) (s : fl_I) (l : fl_L), p_X11_year_121 fu P57 x1 x2 x3 x4 x5 D s l → ab_C G (d + 5) 0 0 M_X11_year 121 [some (.ref 0), some (.int x1), some (.int x2), some (.int x3), some (.int x4), some (.int x5)] [] (hp D s l) (rt (some (.int (f_X11_year_121 fu K57 x1 x2 x3 x4 x5 D s l).1)) (hp D (f_X11_year_121 fu K57 x1 x2 x3 x4 x5 D s l).2.1 (f_X11_year_121 fu K57 x1 x2 x3 x4 x5 D s l).2.2)) := by
  intro x1 x2 x3 x4 x5 s l hk
  generalize he : f_X11_year_121 fu K57 x1 x2 x3 x4 x5 D s l = res
  unfold f_X11_year_121 at he
  unfold p_X11_year_121 at hk
  refine r_iinc (b := x5 + 1) rfl rfl rfl (Nat.le_of_ble_eq_true rfl) rfl ?_
  refine r_goto rfl ?_
  subst he
  exact r_weak (L1 := [some (.ref 0), some (.int x1), some (.int x2), some (.int x3), some (.int x4), some (.int (x5 + 1))]) ⟨rfl, rfl, rfl, rfl, rfl, rfl, trivial⟩ (hK57 _ _ _ _ _ _ _ hk)

def f_X11_year_108 (fu : Nat) (K57 : Int32 → Int32 → Int32 → Int32 → Int32 → fl_I → fl_L → Int32 × fl_I × fl_L) (x1 : Int32) (x2 : Int32) (x3 : Int32) (x4 : Int32) (x5 : Int32) (D : fl_D) (s : fl_I) (l : fl_L) : Int32 × fl_I × fl_L :=
    if ((f_X10_countLying fu 37 s l) = 0) then f_X11_year_121 fu K57 x1 x2 x3 (x4 + 1) x5 D s l else f_X11_year_121 fu K57 x1 x2 x3 x4 x5 D s l

def p_X11_year_108 (fu : Nat) (P57 : Int32 → Int32 → Int32 → Int32 → Int32 → fl_I → fl_L → Prop) (x1 : Int32) (x2 : Int32) (x3 : Int32) (x4 : Int32) (x5 : Int32) (D : fl_D) (s : fl_I) (l : fl_L) : Prop :=
    (p_X10_countLying fu 37 s l) ∧ ((((f_X10_countLying fu 37 s l) = 0) → p_X11_year_121 fu P57 x1 x2 x3 (x4 + 1) x5 D s l) ∧ (¬ ((f_X10_countLying fu 37 s l) = 0) → p_X11_year_121 fu P57 x1 x2 x3 x4 x5 D s l))

set_option maxRecDepth 100000 in
set_option maxHeartbeats 1000000 in
theorem lp_X11_year_108 {G : ab_G} {fu : Nat} {d : Nat} {D : fl_D} (K57 : Int32 → Int32 → Int32 → Int32 → Int32 → fl_I → fl_L → Int32 × fl_I × fl_L) (P57 : Int32 → Int32 → Int32 → Int32 → Int32 → fl_I → fl_L → Prop) (hK57 : ∀ (x1 : Int32) (x2 : Int32) (x3 : Int32) (x4 : Int32) (x5 : Int32) (s : fl_I) (l : fl_L), P57 x1 x2 x3 x4 x5 s l → ab_C G (d + 5) 0 0 M_X11_year 57 [some (.ref 0), some (.int x1), some (.int x2), some (.int x3), some (.int x4), some (.int x5)] [] (hp D s l) (rt (some (.int (K57 x1 x2 x3 x4 x5 s l).1)) (hp D (K57 x1 x2 x3 x4 x5 s l).2.1 (K57 x1 x2 x3 x4 x5 s l).2.2))) : ∀ (x1 : Int32) (x2 : Int32) (x3 : Int32) (x4 : Int32) (x5 : Int32) (s : fl_I) (l : fl_L), p_X11_year_108 fu P57 x1 x2 x3 x4 x5 D s l → ab_C G (d + 5) 0 0 M_X11_year 108 [some (.ref 0), some (.int x1), some (.int x2), some (.int x3), some (.int x4), some (.int x5)] [] (hp D s l) (rt (some (.int (f_X11_year_108 fu K57 x1 x2 x3 x4 x5 D s l).1)) (hp D (f_X11_year_108 fu K57 x1 x2 x3 x4 x5 D s l).2.1 (f_X11_year_108 fu K57 x1 x2 x3 x4 x5 D s l).2.2)) := by
  intro x1 x2 x3 x4 x5 s l hk
  generalize he : f_X11_year_108 fu K57 x1 x2 x3 x4 x5 D s l = res
  unfold f_X11_year_108 at he
  unfold p_X11_year_108 at hk
  refine r_aload_n rfl rfl ?_
  refine q_getfield rfl (cc_0 _) rfl ?_
  obtain ⟨hb2, hk⟩ := hk
  refine q_callV0 [] _ rfl kY_X10_countLying kT_X10_countLying rfl rfl (Nat.le_of_ble_eq_true rfl) (Nat.le_of_ble_eq_true rfl) (cc_37 _) (s_X10_countLying (Or.inr (Or.inl rfl)) hb2) (fun r h q => ?_)
  obtain ⟨rfl, rfl⟩ := q
  simp only [Option.toList, List.cons_append, List.nil_append]
  refine r_if_ne rfl (fun c_115 => ?_) (fun c_115 => ?_)
  · rw [if_neg c_115] at he
    replace hk := hk.2 c_115
    subst he
    exact r_weak (L1 := [some (.ref 0), some (.int x1), some (.int x2), some (.int x3), some (.int x4), some (.int x5)]) ⟨rfl, rfl, rfl, rfl, rfl, rfl, trivial⟩ (lp_X11_year_121 _ _ hK57 _ _ _ _ _ _ _ hk)
  · rw [if_pos c_115] at he
    replace hk := hk.1 c_115
    refine r_iinc (b := x4 + 1) rfl rfl rfl (Nat.le_of_ble_eq_true rfl) rfl ?_
    subst he
    exact r_weak (L1 := [some (.ref 0), some (.int x1), some (.int x2), some (.int x3), some (.int (x4 + 1)), some (.int x5)]) ⟨rfl, rfl, rfl, rfl, rfl, rfl, trivial⟩ (lp_X11_year_121 _ _ hK57 _ _ _ _ _ _ _ hk)

def f_X11_year_82 (fu : Nat) (K57 : Int32 → Int32 → Int32 → Int32 → Int32 → fl_I → fl_L → Int32 × fl_I × fl_L) (x1 : Int32) (x2 : Int32) (x3 : Int32) (x4 : Int32) (x5 : Int32) (D : fl_D) (s : fl_I) (l : fl_L) : Int32 × fl_I × fl_L :=
    f_X11_year_108 fu K57 x1 x2 x3 x4 x5 D (f_X9_goOn fu x1 ((s (if D.2.2.1 then 20 else 9) 18) + x5) (if D.2.2.1 then 20 else 9) 37 s l).1 (f_X9_goOn fu x1 ((s (if D.2.2.1 then 20 else 9) 18) + x5) (if D.2.2.1 then 20 else 9) 37 s l).2

def p_X11_year_82 (fu : Nat) (P57 : Int32 → Int32 → Int32 → Int32 → Int32 → fl_I → fl_L → Prop) (x1 : Int32) (x2 : Int32) (x3 : Int32) (x4 : Int32) (x5 : Int32) (D : fl_D) (s : fl_I) (l : fl_L) : Prop :=
    (p_X9_goOn fu x1 ((s (if D.2.2.1 then 20 else 9) 18) + x5) (if D.2.2.1 then 20 else 9) 37 s l) ∧ p_X11_year_108 fu P57 x1 x2 x3 x4 x5 D (f_X9_goOn fu x1 ((s (if D.2.2.1 then 20 else 9) 18) + x5) (if D.2.2.1 then 20 else 9) 37 s l).1 (f_X9_goOn fu x1 ((s (if D.2.2.1 then 20 else 9) 18) + x5) (if D.2.2.1 then 20 else 9) 37 s l).2

set_option maxRecDepth 100000 in
set_option maxHeartbeats 1000000 in
theorem lp_X11_year_82 {G : ab_G} {fu : Nat} {d : Nat} {D : fl_D} (K57 : Int32 → Int32 → Int32 → Int32 → Int32 → fl_I → fl_L → Int32 × fl_I × fl_L) (P57 : Int32 → Int32 → Int32 → Int32 → Int32 → fl_I → fl_L → Prop) (hK57 : ∀ (x1 : Int32) (x2 : Int32) (x3 : Int32) (x4 : Int32) (x5 : Int32) (s : fl_I) (l : fl_L), P57 x1 x2 x3 x4 x5 s l → ab_C G (d + 5) 0 0 M_X11_year 57 [some (.ref 0), some (.int x1), some (.int x2), some (.int x3), some (.int x4), some (.int x5)] [] (hp D s l) (rt (some (.int (K57 x1 x2 x3 x4 x5 s l).1)) (hp D (K57 x1 x2 x3 x4 x5 s l).2.1 (K57 x1 x2 x3 x4 x5 s l).2.2))) : ∀ (x1 : Int32) (x2 : Int32) (x3 : Int32) (x4 : Int32) (x5 : Int32) (s : fl_I) (l : fl_L), p_X11_year_82 fu P57 x1 x2 x3 x4 x5 D s l → ab_C G (d + 5) 0 0 M_X11_year 82 [some (.ref 0), some (.int x1), some (.int x2), some (.int x3), some (.int x4), some (.int x5)] [] (hp D s l) (rt (some (.int (f_X11_year_82 fu K57 x1 x2 x3 x4 x5 D s l).1)) (hp D (f_X11_year_82 fu K57 x1 x2 x3 x4 x5 D s l).2.1 (f_X11_year_82 fu K57 x1 x2 x3 x4 x5 D s l).2.2)) := by
  intro x1 x2 x3 x4 x5 s l hk
  generalize he : f_X11_year_82 fu K57 x1 x2 x3 x4 x5 D s l = res
  unfold f_X11_year_82 at he
  unfold p_X11_year_82 at hk
  refine r_aload_n rfl rfl ?_
  refine q_getfield rfl (cc_0 _) rfl ?_
  refine r_aload_n rfl rfl ?_
  refine q_getfield rfl (cc_0 _) rfl ?_
  refine r_aload_n rfl rfl ?_
  refine q_getfield rfl (cc_0 _) rfl ?_
  refine r_iload_n rfl rfl ?_
  refine r_aload_n rfl rfl ?_
  refine q_getfield rfl (cc_0 _) rfl ?_
  refine q_getfield rfl (cT_0 (isT_l _)) rfl ?_
  refine r_iload rfl rfl ?_
  refine r_iadd rfl ?_
  obtain ⟨hb1, hk⟩ := hk
  refine q_callV0 [_, _, _, _] _ rfl kY_X9_goOn kT_X9_goOn rfl rfl (Nat.le_of_ble_eq_true rfl) (Nat.le_of_ble_eq_true rfl) (cc_46 _) (s_X9_goOn (isT_l _) (Or.inr (Or.inl rfl)) hb1) (fun r h q => ?_)
  obtain ⟨rfl, rfl⟩ := q
  simp only [Option.toList, List.cons_append, List.nil_append]
  subst he
  exact r_weak (L1 := [some (.ref 0), some (.int x1), some (.int x2), some (.int x3), some (.int x4), some (.int x5)]) ⟨rfl, rfl, rfl, rfl, rfl, rfl, trivial⟩ (lp_X11_year_108 _ _ hK57 _ _ _ _ _ _ _ hk)

def f_X11_year_57 (fu : Nat) : Nat → Int32 → Int32 → Int32 → Int32 → Int32 → fl_D → fl_I → fl_L → Int32 × fl_I × fl_L
  | 0, x1, x2, x3, x4, x5, D, s, l => (0, s, l)
  | n + 1, x1, x2, x3, x4, x5, D, s, l =>
    if (x3 = 0) then if (x2 ≤ x5) then if (x3 = 0) then (x4, s, l) else ((x4 * x2), s, l) else f_X11_year_82 fu (fun x1 x2 x3 x4 x5 s l => f_X11_year_57 fu n x1 x2 x3 x4 x5 D s l) x1 x2 x3 x4 x5 D (f_X10_copy fu 37 31 s l).1 (f_X10_copy fu 37 31 s l).2 else if ((1 : Int32) ≤ x5) then if (x3 = 0) then (x4, s, l) else ((x4 * x2), s, l) else f_X11_year_82 fu (fun x1 x2 x3 x4 x5 s l => f_X11_year_57 fu n x1 x2 x3 x4 x5 D s l) x1 x2 x3 x4 x5 D (f_X10_copy fu 37 31 s l).1 (f_X10_copy fu 37 31 s l).2

def p_X11_year_57 (fu : Nat) : Nat → Int32 → Int32 → Int32 → Int32 → Int32 → fl_D → fl_I → fl_L → Prop
  | 0, _, _, _, _, _, _, _, _ => False
  | n + 1, x1, x2, x3, x4, x5, D, s, l =>
    (((x3 = 0) → (((x2 ≤ x5) → (((x3 = 0) → True) ∧ (¬ (x3 = 0) → True))) ∧ (¬ (x2 ≤ x5) → (p_X10_copy fu 37 31 s l) ∧ p_X11_year_82 fu (fun x1 x2 x3 x4 x5 s l => p_X11_year_57 fu n x1 x2 x3 x4 x5 D s l) x1 x2 x3 x4 x5 D (f_X10_copy fu 37 31 s l).1 (f_X10_copy fu 37 31 s l).2))) ∧ (¬ (x3 = 0) → ((((1 : Int32) ≤ x5) → (((x3 = 0) → True) ∧ (¬ (x3 = 0) → True))) ∧ (¬ ((1 : Int32) ≤ x5) → (p_X10_copy fu 37 31 s l) ∧ p_X11_year_82 fu (fun x1 x2 x3 x4 x5 s l => p_X11_year_57 fu n x1 x2 x3 x4 x5 D s l) x1 x2 x3 x4 x5 D (f_X10_copy fu 37 31 s l).1 (f_X10_copy fu 37 31 s l).2))))

set_option maxRecDepth 100000 in
set_option maxHeartbeats 1000000 in
theorem lp_X11_year_57 {G : ab_G} {fu : Nat} {d : Nat} {D : fl_D} : ∀ (n : Nat) (x1 : Int32) (x2 : Int32) (x3 : Int32) (x4 : Int32) (x5 : Int32) (s : fl_I) (l : fl_L), p_X11_year_57 fu n x1 x2 x3 x4 x5 D s l → ab_C G (d + 5) 0 0 M_X11_year 57 [some (.ref 0), some (.int x1), some (.int x2), some (.int x3), some (.int x4), some (.int x5)] [] (hp D s l) (rt (some (.int (f_X11_year_57 fu n x1 x2 x3 x4 x5 D s l).1)) (hp D (f_X11_year_57 fu n x1 x2 x3 x4 x5 D s l).2.1 (f_X11_year_57 fu n x1 x2 x3 x4 x5 D s l).2.2)) := by
  intro n
  induction n with
  | zero => intro x1 x2 x3 x4 x5 s l hk; exact hk.elim
  | succ n ih =>
    intro x1 x2 x3 x4 x5 s l hk
    generalize he : f_X11_year_57 fu (n + 1) x1 x2 x3 x4 x5 D s l = res
    unfold f_X11_year_57 at he
    unfold p_X11_year_57 at hk
    refine r_iload rfl rfl ?_
    refine r_iload_n rfl rfl ?_
    refine r_if_eq rfl (fun c_60 => ?_) (fun c_60 => ?_)
    · rw [if_pos c_60] at he
      replace hk := hk.1 c_60
      refine r_iload_n rfl rfl ?_
      refine r_icmp_ge rfl (fun c_68 => ?_) (fun c_68 => ?_)
      · rw [if_pos c_68] at he
        replace hk := hk.1 c_68
        refine r_iload_n rfl rfl ?_
        refine r_if_eq rfl (fun c_128 => ?_) (fun c_128 => ?_)
        · rw [if_pos c_128] at he
          replace hk := hk.1 c_128
          refine r_iload rfl rfl ?_
          refine r_iret rfl rfl rfl ?_
          first | with_reducible exact fin_i he | exact fin_i he
        · rw [if_neg c_128] at he
          replace hk := hk.2 c_128
          refine r_iload rfl rfl ?_
          refine r_iload_n rfl rfl ?_
          refine r_imul rfl ?_
          refine r_goto rfl ?_
          refine r_iret rfl rfl rfl ?_
          first | with_reducible exact fin_i he | exact fin_i he
      · rw [if_neg c_68] at he
        replace hk := hk.2 c_68
        refine r_aload_n rfl rfl ?_
        refine q_getfield rfl (cc_0 _) rfl ?_
        refine r_aload_n rfl rfl ?_
        refine q_getfield rfl (cc_0 _) rfl ?_
        obtain ⟨hb0, hk⟩ := hk
        refine q_callV0 [_] _ rfl kY_X10_copy kT_X10_copy rfl rfl (Nat.le_of_ble_eq_true rfl) (Nat.le_of_ble_eq_true rfl) (cc_37 _) (s_X10_copy (Or.inr (Or.inl rfl)) (Or.inl rfl) hb0) (fun r h q => ?_)
        obtain ⟨rfl, rfl⟩ := q
        simp only [Option.toList, List.cons_append, List.nil_append]
        subst he
        exact r_weak (L1 := [some (.ref 0), some (.int x1), some (.int x2), some (.int x3), some (.int x4), some (.int x5)]) ⟨rfl, rfl, rfl, rfl, rfl, rfl, trivial⟩ (lp_X11_year_82 _ _ (fun _ _ _ _ _ _ _ h9 => ih _ _ _ _ _ _ _ h9) _ _ _ _ _ _ _ hk)
    · rw [if_neg c_60] at he
      replace hk := hk.2 c_60
      refine r_iconst_ (a := 1) rfl (by decide) ?_
      refine r_goto rfl ?_
      refine r_icmp_ge rfl (fun c_68 => ?_) (fun c_68 => ?_)
      · rw [if_pos c_68] at he
        replace hk := hk.1 c_68
        refine r_iload_n rfl rfl ?_
        refine r_if_eq rfl (fun c_128 => ?_) (fun c_128 => ?_)
        · rw [if_pos c_128] at he
          replace hk := hk.1 c_128
          refine r_iload rfl rfl ?_
          refine r_iret rfl rfl rfl ?_
          first | with_reducible exact fin_i he | exact fin_i he
        · rw [if_neg c_128] at he
          replace hk := hk.2 c_128
          refine r_iload rfl rfl ?_
          refine r_iload_n rfl rfl ?_
          refine r_imul rfl ?_
          refine r_goto rfl ?_
          refine r_iret rfl rfl rfl ?_
          first | with_reducible exact fin_i he | exact fin_i he
      · rw [if_neg c_68] at he
        replace hk := hk.2 c_68
        refine r_aload_n rfl rfl ?_
        refine q_getfield rfl (cc_0 _) rfl ?_
        refine r_aload_n rfl rfl ?_
        refine q_getfield rfl (cc_0 _) rfl ?_
        obtain ⟨hb3, hk⟩ := hk
        refine q_callV0 [_] _ rfl kY_X10_copy kT_X10_copy rfl rfl (Nat.le_of_ble_eq_true rfl) (Nat.le_of_ble_eq_true rfl) (cc_37 _) (s_X10_copy (Or.inr (Or.inl rfl)) (Or.inl rfl) hb3) (fun r h q => ?_)
        obtain ⟨rfl, rfl⟩ := q
        simp only [Option.toList, List.cons_append, List.nil_append]
        subst he
        exact r_weak (L1 := [some (.ref 0), some (.int x1), some (.int x2), some (.int x3), some (.int x4), some (.int x5)]) ⟨rfl, rfl, rfl, rfl, rfl, rfl, trivial⟩ (lp_X11_year_82 _ _ (fun _ _ _ _ _ _ _ h9 => ih _ _ _ _ _ _ _ h9) _ _ _ _ _ _ _ hk)

def f_X11_year_45 (fu : Nat) (x1 : Int32) (x2 : Int32) (D : fl_D) (s : fl_I) (l : fl_L) : Int32 × fl_I × fl_L :=
    f_X11_year_57 fu fu x1 x2 (1 : Int32) (0 : Int32) (0 : Int32) D s l

def p_X11_year_45 (fu : Nat) (x1 : Int32) (x2 : Int32) (D : fl_D) (s : fl_I) (l : fl_L) : Prop :=
    p_X11_year_57 fu fu x1 x2 (1 : Int32) (0 : Int32) (0 : Int32) D s l

set_option maxRecDepth 100000 in
set_option maxHeartbeats 1000000 in
theorem lp_X11_year_45 {G : ab_G} {fu : Nat} {d : Nat} {D : fl_D} : ∀ (x1 : Int32) (x2 : Int32) (s : fl_I) (l : fl_L), p_X11_year_45 fu x1 x2 D s l → ab_C G (d + 5) 0 0 M_X11_year 45 [some (.ref 0), some (.int x1), some (.int x2), none, none, none] [] (hp D s l) (rt (some (.int (f_X11_year_45 fu x1 x2 D s l).1)) (hp D (f_X11_year_45 fu x1 x2 D s l).2.1 (f_X11_year_45 fu x1 x2 D s l).2.2)) := by
  intro x1 x2 s l hk
  generalize he : f_X11_year_45 fu x1 x2 D s l = res
  unfold f_X11_year_45 at he
  unfold p_X11_year_45 at hk
  refine r_iconst_ (a := 1) rfl (by decide) ?_
  refine r_goto rfl ?_
  refine r_istore_n rfl (Nat.le_of_ble_eq_true rfl) rfl ?_
  refine r_iconst_ (a := 0) rfl (by decide) ?_
  refine r_istore rfl (Nat.le_of_ble_eq_true rfl) rfl ?_
  refine r_iconst_ (a := 0) rfl (by decide) ?_
  refine r_istore rfl (Nat.le_of_ble_eq_true rfl) rfl ?_
  subst he
  exact r_weak (L1 := [some (.ref 0), some (.int x1), some (.int x2), some (.int (1 : Int32)), some (.int (0 : Int32)), some (.int (0 : Int32))]) ⟨rfl, rfl, rfl, rfl, rfl, rfl, trivial⟩ (lp_X11_year_57 fu _ _ _ _ _ _ _ hk)

def f_X11_year (fu : Nat) (v0 : Int32) (v1 : Int32) (D : fl_D) (s : fl_I) (l : fl_L) : Int32 × fl_I × fl_L :=
  if (v0 < 0) then f_X11_year_21 fu  D s l else if ((40 : Int32) < v0) then f_X11_year_21 fu  D s l else if (v1 < (1 : Int32)) then f_X11_year_21 fu  D s l else if (v1 ≤ (20 : Int32)) then if ((s (if D.2.2.1 then 20 else 9) 17) ≤ 0) then f_X11_year_45 fu v0 v1 D s l else if ((s (if D.2.2.1 then 20 else 9) 17) < (100 : Int32)) then f_X11_year_57 fu fu v0 v1 (0 : Int32) (0 : Int32) (0 : Int32) D s l else f_X11_year_45 fu v0 v1 D s l else f_X11_year_21 fu  D s l

def p_X11_year (fu : Nat) (v0 : Int32) (v1 : Int32) (D : fl_D) (s : fl_I) (l : fl_L) : Prop :=
  (((v0 < 0) → p_X11_year_21 fu  D s l) ∧ (¬ (v0 < 0) → ((((40 : Int32) < v0) → p_X11_year_21 fu  D s l) ∧ (¬ ((40 : Int32) < v0) → (((v1 < (1 : Int32)) → p_X11_year_21 fu  D s l) ∧ (¬ (v1 < (1 : Int32)) → (((v1 ≤ (20 : Int32)) → ((((s (if D.2.2.1 then 20 else 9) 17) ≤ 0) → p_X11_year_45 fu v0 v1 D s l) ∧ (¬ ((s (if D.2.2.1 then 20 else 9) 17) ≤ 0) → ((((s (if D.2.2.1 then 20 else 9) 17) < (100 : Int32)) → p_X11_year_57 fu fu v0 v1 (0 : Int32) (0 : Int32) (0 : Int32) D s l) ∧ (¬ ((s (if D.2.2.1 then 20 else 9) 17) < (100 : Int32)) → p_X11_year_45 fu v0 v1 D s l))))) ∧ (¬ (v1 ≤ (20 : Int32)) → p_X11_year_21 fu  D s l))))))))

set_option maxRecDepth 100000 in
set_option maxHeartbeats 1000000 in
theorem s_X11_year {G : ab_G} {fu : Nat} {d : Nat} {D : fl_D} {s : fl_I} {l : fl_L} {v0 : Int32} {v1 : Int32} (hk : p_X11_year fu v0 v1 D s l) : ab_C G (d + 5) 0 0 M_X11_year 0 (ab_ent [.ref 0, .int v0, .int v1]) [] (hp D s l) (rt (some (.int (f_X11_year fu v0 v1 D s l).1)) (hp D (f_X11_year fu v0 v1 D s l).2.1 (f_X11_year fu v0 v1 D s l).2.2)) := by
  generalize he : (f_X11_year fu v0 v1 D s l) = res
  unfold f_X11_year at he
  unfold p_X11_year at hk
  refine r_weak (L1 := [some (.ref 0), some (.int v0), some (.int v1), none, none, none]) ⟨rfl, rfl, rfl, trivial⟩ ?_
  refine r_iload_n rfl rfl ?_
  refine r_if_lt rfl (fun c_1 => ?_) (fun c_1 => ?_)
  · rw [if_pos c_1] at he
    replace hk := hk.1 c_1
    subst he
    exact r_weak (L1 := [none, none, none, none, none, none]) trivial (lp_X11_year_21 _ _ hk)
  · rw [if_neg c_1] at he
    replace hk := hk.2 c_1
    refine r_iload_n rfl rfl ?_
    refine r_bipush_ (a := 40) rfl (by decide) ?_
    refine r_icmp_gt rfl (fun c_7 => ?_) (fun c_7 => ?_)
    · rw [if_pos c_7] at he
      replace hk := hk.1 c_7
      subst he
      exact r_weak (L1 := [none, none, none, none, none, none]) trivial (lp_X11_year_21 _ _ hk)
    · rw [if_neg c_7] at he
      replace hk := hk.2 c_7
      refine r_iload_n rfl rfl ?_
      refine r_iconst_ (a := 1) rfl (by decide) ?_
      refine r_icmp_lt rfl (fun c_12 => ?_) (fun c_12 => ?_)
      · rw [if_pos c_12] at he
        replace hk := hk.1 c_12
        subst he
        exact r_weak (L1 := [none, none, none, none, none, none]) trivial (lp_X11_year_21 _ _ hk)
      · rw [if_neg c_12] at he
        replace hk := hk.2 c_12
        refine r_iload_n rfl rfl ?_
        refine r_bipush_ (a := 20) rfl (by decide) ?_
        refine r_icmp_le rfl (fun c_18 => ?_) (fun c_18 => ?_)
        · rw [if_pos c_18] at he
          replace hk := hk.1 c_18
          refine r_aload_n rfl rfl ?_
          refine q_getfield rfl (cc_0 _) rfl ?_
          refine q_getfield rfl (cT_0 (isT_l _)) rfl ?_
          refine r_if_le rfl (fun c_30 => ?_) (fun c_30 => ?_)
          · rw [if_pos c_30] at he
            replace hk := hk.1 c_30
            subst he
            exact r_weak (L1 := [some (.ref 0), some (.int v0), some (.int v1), none, none, none]) ⟨rfl, rfl, rfl, trivial⟩ (lp_X11_year_45 _ _ _ _ hk)
          · rw [if_neg c_30] at he
            replace hk := hk.2 c_30
            refine r_aload_n rfl rfl ?_
            refine q_getfield rfl (cc_0 _) rfl ?_
            refine q_getfield rfl (cT_0 (isT_l _)) rfl ?_
            refine r_bipush_ (a := 100) rfl (by decide) ?_
            refine r_icmp_lt rfl (fun c_42 => ?_) (fun c_42 => ?_)
            · rw [if_pos c_42] at he
              replace hk := hk.1 c_42
              refine r_iconst_ (a := 0) rfl (by decide) ?_
              refine r_istore_n rfl (Nat.le_of_ble_eq_true rfl) rfl ?_
              refine r_iconst_ (a := 0) rfl (by decide) ?_
              refine r_istore rfl (Nat.le_of_ble_eq_true rfl) rfl ?_
              refine r_iconst_ (a := 0) rfl (by decide) ?_
              refine r_istore rfl (Nat.le_of_ble_eq_true rfl) rfl ?_
              subst he
              exact r_weak (L1 := [some (.ref 0), some (.int v0), some (.int v1), some (.int (0 : Int32)), some (.int (0 : Int32)), some (.int (0 : Int32))]) ⟨rfl, rfl, rfl, rfl, rfl, rfl, trivial⟩ (lp_X11_year_57 fu _ _ _ _ _ _ _ hk)
            · rw [if_neg c_42] at he
              replace hk := hk.2 c_42
              subst he
              exact r_weak (L1 := [some (.ref 0), some (.int v0), some (.int v1), none, none, none]) ⟨rfl, rfl, rfl, trivial⟩ (lp_X11_year_45 _ _ _ _ hk)
        · rw [if_neg c_18] at he
          replace hk := hk.2 c_18
          subst he
          exact r_weak (L1 := [none, none, none, none, none, none]) trivial (lp_X11_year_21 _ _ hk)

def f_X11_picker (fu : Nat) (v0 : Int32) (v1 : Int32) (D : fl_D) (s : fl_I) (l : fl_L) : Int32 × fl_I × fl_L :=
  if ((f_X11_isPicker fu v0 s l) = 0) then ((-1 : Int32), s, l) else if (v1 = 0) then (((s 34 v0.toNatClampNeg) - (s 34 v0.toNatClampNeg) / (10 : Int32) * (10 : Int32)), s, l) else if (v1 = 1) then (((s 34 v0.toNatClampNeg) / (10 : Int32)), s, l) else if (v1 = 2) then ((s ((if D.2.2.1 then 20 else 9) + 8) v0.toNatClampNeg), s, l) else if (v1 = 3) then ((s 36 v0.toNatClampNeg), s, l) else if (v1 = 4) then if ((s 35 v0.toNatClampNeg) = (-2 : Int32)) then ((-2 : Int32), s, l) else (((s 35 v0.toNatClampNeg) - (s 35 v0.toNatClampNeg) / (10 : Int32) * (10 : Int32)), s, l) else if (v1 = 5) then if ((s 35 v0.toNatClampNeg) = (-2 : Int32)) then ((-2 : Int32), s, l) else (((s 35 v0.toNatClampNeg) / (10 : Int32)), s, l) else if (v1 = 6) then ((f_X9_owed fu v0 (if D.2.2.1 then 20 else 9) 31 s l).1, (f_X9_owed fu v0 (if D.2.2.1 then 20 else 9) 31 s l).2.1, (f_X9_owed fu v0 (if D.2.2.1 then 20 else 9) 31 s l).2.2) else ((-1 : Int32), s, l)

def p_X11_picker (fu : Nat) (v0 : Int32) (v1 : Int32) (D : fl_D) (s : fl_I) (l : fl_L) : Prop :=
  (p_X11_isPicker fu v0 s l) ∧ ((((f_X11_isPicker fu v0 s l) = 0) → True) ∧ (¬ ((f_X11_isPicker fu v0 s l) = 0) → (vp_in v0 4) ∧ (((v1 = 0) → (vp_in v0 4) ∧ True) ∧ (¬ (v1 = 0) → (((v1 = 1) → (vp_in v0 4) ∧ True) ∧ (¬ (v1 = 1) → (((v1 = 2) → (vp_in v0 4) ∧ True) ∧ (¬ (v1 = 2) → (((v1 = 3) → (vp_in v0 4) ∧ True) ∧ (¬ (v1 = 3) → (((v1 = 4) → ((((s 35 v0.toNatClampNeg) = (-2 : Int32)) → True) ∧ (¬ ((s 35 v0.toNatClampNeg) = (-2 : Int32)) → True))) ∧ (¬ (v1 = 4) → (((v1 = 5) → ((((s 35 v0.toNatClampNeg) = (-2 : Int32)) → True) ∧ (¬ ((s 35 v0.toNatClampNeg) = (-2 : Int32)) → True))) ∧ (¬ (v1 = 5) → (((v1 = 6) → (p_X9_owed fu v0 (if D.2.2.1 then 20 else 9) 31 s l) ∧ True) ∧ (¬ (v1 = 6) → True))))))))))))))))

set_option maxRecDepth 100000 in
set_option maxHeartbeats 1000000 in
theorem s_X11_picker {G : ab_G} {fu : Nat} {d : Nat} {D : fl_D} {s : fl_I} {l : fl_L} {v0 : Int32} {v1 : Int32} (hk : p_X11_picker fu v0 v1 D s l) : ab_C G (d + 4) 0 0 M_X11_picker 0 (ab_ent [.ref 0, .int v0, .int v1]) [] (hp D s l) (rt (some (.int (f_X11_picker fu v0 v1 D s l).1)) (hp D (f_X11_picker fu v0 v1 D s l).2.1 (f_X11_picker fu v0 v1 D s l).2.2)) := by
  generalize he : (f_X11_picker fu v0 v1 D s l) = res
  unfold f_X11_picker at he
  unfold p_X11_picker at hk
  refine r_weak (L1 := [some (.ref 0), some (.int v0), some (.int v1), none]) ⟨rfl, rfl, rfl, trivial⟩ ?_
  refine r_aload_n rfl rfl ?_
  refine r_iload_n rfl rfl ?_
  obtain ⟨hb0, hk⟩ := hk
  refine q_callV0 [_] _ rfl kY_X11_isPicker kT_X11_isPicker rfl rfl (Nat.le_of_ble_eq_true rfl) (Nat.le_of_ble_eq_true rfl) (cc_0 _) (s_X11_isPicker hb0) (fun r h q => ?_)
  obtain ⟨rfl, rfl⟩ := q
  simp only [Option.toList, List.cons_append, List.nil_append]
  refine r_if_ne rfl (fun c_5 => ?_) (fun c_5 => ?_)
  · rw [if_neg c_5] at he
    replace hk := hk.2 c_5
    refine r_aload_n rfl rfl ?_
    refine q_getfield rfl (cc_0 _) rfl ?_
    refine q_getfield rfl (cc_31 _) rfl ?_
    refine r_iload_n rfl rfl ?_
    obtain ⟨hb1, hk⟩ := hk
    refine q_iald rfl (cc_35 _) hb1 ?_
    refine r_istore_n rfl (Nat.le_of_ble_eq_true rfl) rfl ?_
    refine r_iload_n rfl rfl ?_
    by_cases c_21_0 : (v1 = 0)
    · rw [if_pos c_21_0] at he
      replace hk := hk.1 c_21_0
      refine r_tableIn (tgt := 64) rfl (by rw [c_21_0]; decide) (by rw [c_21_0]; decide) (by rw [c_21_0]; rfl) (by decide) ?_
      refine r_aload_n rfl rfl ?_
      refine q_getfield rfl (cc_0 _) rfl ?_
      refine q_getfield rfl (cc_31 _) rfl ?_
      refine r_iload_n rfl rfl ?_
      obtain ⟨hb2, hk⟩ := hk
      refine q_iald rfl (cc_34 _) hb2 ?_
      refine r_bipush_ (a := 10) rfl (by decide) ?_
      refine r_irem rfl (by decide) ?_
      refine r_iret rfl rfl rfl ?_
      first | with_reducible exact fin_i he | exact fin_i he
    · rw [if_neg c_21_0] at he
      replace hk := hk.2 c_21_0
      by_cases c_21_1 : (v1 = 1)
      · rw [if_pos c_21_1] at he
        replace hk := hk.1 c_21_1
        refine r_tableIn (tgt := 77) rfl (by rw [c_21_1]; decide) (by rw [c_21_1]; decide) (by rw [c_21_1]; rfl) (by decide) ?_
        refine r_aload_n rfl rfl ?_
        refine q_getfield rfl (cc_0 _) rfl ?_
        refine q_getfield rfl (cc_31 _) rfl ?_
        refine r_iload_n rfl rfl ?_
        obtain ⟨hb3, hk⟩ := hk
        refine q_iald rfl (cc_34 _) hb3 ?_
        refine r_bipush_ (a := 10) rfl (by decide) ?_
        refine r_idiv rfl (by decide) ?_
        refine r_iret rfl rfl rfl ?_
        first | with_reducible exact fin_i he | exact fin_i he
      · rw [if_neg c_21_1] at he
        replace hk := hk.2 c_21_1
        by_cases c_21_2 : (v1 = 2)
        · rw [if_pos c_21_2] at he
          replace hk := hk.1 c_21_2
          refine r_tableIn (tgt := 90) rfl (by rw [c_21_2]; decide) (by rw [c_21_2]; decide) (by rw [c_21_2]; rfl) (by decide) ?_
          refine r_aload_n rfl rfl ?_
          refine q_getfield rfl (cc_0 _) rfl ?_
          refine q_getfield rfl (cT_0 (isT_l _)) rfl ?_
          refine r_iload_n rfl rfl ?_
          obtain ⟨hb4, hk⟩ := hk
          refine q_iald rfl (cT_8 (isT_l _)) hb4 ?_
          refine r_iret rfl rfl rfl ?_
          first | with_reducible exact fin_i he | exact fin_i he
        · rw [if_neg c_21_2] at he
          replace hk := hk.2 c_21_2
          by_cases c_21_3 : (v1 = 3)
          · rw [if_pos c_21_3] at he
            replace hk := hk.1 c_21_3
            refine r_tableIn (tgt := 100) rfl (by rw [c_21_3]; decide) (by rw [c_21_3]; decide) (by rw [c_21_3]; rfl) (by decide) ?_
            refine r_aload_n rfl rfl ?_
            refine q_getfield rfl (cc_0 _) rfl ?_
            refine q_getfield rfl (cc_31 _) rfl ?_
            refine r_iload_n rfl rfl ?_
            obtain ⟨hb5, hk⟩ := hk
            refine q_iald rfl (cc_36 _) hb5 ?_
            refine r_iret rfl rfl rfl ?_
            first | with_reducible exact fin_i he | exact fin_i he
          · rw [if_neg c_21_3] at he
            replace hk := hk.2 c_21_3
            by_cases c_21_4 : (v1 = 4)
            · rw [if_pos c_21_4] at he
              replace hk := hk.1 c_21_4
              refine r_tableIn (tgt := 110) rfl (by rw [c_21_4]; decide) (by rw [c_21_4]; decide) (by rw [c_21_4]; rfl) (by decide) ?_
              refine r_iload_n rfl rfl ?_
              refine r_bipush_ (a := -2) rfl (by decide) ?_
              refine r_icmp_ne rfl (fun c_113 => ?_) (fun c_113 => ?_)
              · rw [if_neg c_113] at he
                replace hk := hk.2 c_113
                refine r_iload_n rfl rfl ?_
                refine r_bipush_ (a := 10) rfl (by decide) ?_
                refine r_irem rfl (by decide) ?_
                refine r_iret rfl rfl rfl ?_
                first | with_reducible exact fin_i he | exact fin_i he
              · rw [if_pos c_113] at he
                replace hk := hk.1 c_113
                refine r_bipush_ (a := -2) rfl (by decide) ?_
                refine r_goto rfl ?_
                refine r_iret rfl rfl rfl ?_
                first | with_reducible exact fin_i he | exact fin_i he
            · rw [if_neg c_21_4] at he
              replace hk := hk.2 c_21_4
              by_cases c_21_5 : (v1 = 5)
              · rw [if_pos c_21_5] at he
                replace hk := hk.1 c_21_5
                refine r_tableIn (tgt := 126) rfl (by rw [c_21_5]; decide) (by rw [c_21_5]; decide) (by rw [c_21_5]; rfl) (by decide) ?_
                refine r_iload_n rfl rfl ?_
                refine r_bipush_ (a := -2) rfl (by decide) ?_
                refine r_icmp_ne rfl (fun c_129 => ?_) (fun c_129 => ?_)
                · rw [if_neg c_129] at he
                  replace hk := hk.2 c_129
                  refine r_iload_n rfl rfl ?_
                  refine r_bipush_ (a := 10) rfl (by decide) ?_
                  refine r_idiv rfl (by decide) ?_
                  refine r_iret rfl rfl rfl ?_
                  first | with_reducible exact fin_i he | exact fin_i he
                · rw [if_pos c_129] at he
                  replace hk := hk.1 c_129
                  refine r_bipush_ (a := -2) rfl (by decide) ?_
                  refine r_goto rfl ?_
                  refine r_iret rfl rfl rfl ?_
                  first | with_reducible exact fin_i he | exact fin_i he
              · rw [if_neg c_21_5] at he
                replace hk := hk.2 c_21_5
                by_cases c_21_6 : (v1 = 6)
                · rw [if_pos c_21_6] at he
                  replace hk := hk.1 c_21_6
                  refine r_tableIn (tgt := 142) rfl (by rw [c_21_6]; decide) (by rw [c_21_6]; decide) (by rw [c_21_6]; rfl) (by decide) ?_
                  refine r_aload_n rfl rfl ?_
                  refine q_getfield rfl (cc_0 _) rfl ?_
                  refine r_aload_n rfl rfl ?_
                  refine q_getfield rfl (cc_0 _) rfl ?_
                  refine r_aload_n rfl rfl ?_
                  refine q_getfield rfl (cc_0 _) rfl ?_
                  refine r_iload_n rfl rfl ?_
                  obtain ⟨hb6, hk⟩ := hk
                  refine q_callV0 [_, _, _] _ rfl kY_X9_owed kT_X9_owed rfl rfl (Nat.le_of_ble_eq_true rfl) (Nat.le_of_ble_eq_true rfl) (cc_46 _) (s_X9_owed (isT_l _) (Or.inl rfl) hb6) (fun r h q => ?_)
                  obtain ⟨rfl, rfl⟩ := q
                  simp only [Option.toList, List.cons_append, List.nil_append]
                  refine r_iret rfl rfl rfl ?_
                  first | with_reducible exact fin_i he | exact fin_i he
                · rw [if_neg c_21_6] at he
                  replace hk := hk.2 c_21_6
                  refine r_tableOut (tgt := 159) rfl (by simp only [Int32.lt_iff_toInt_lt, Int32.le_iff_toInt_le, ← Int32.toInt_inj, ti_0, ti_1, ti_2, ti_3, ti_4, ti_5, ti_6, ti_7, ti_8, ti_9, ti_10, ti_11, ti_12, ti_13, ti_14, ti_15, ti_16, ti_17, ti_18, ti_19, ti_20, ti_21, ti_22, ti_23, ti_24, ti_25, ti_26, ti_27, ti_28, ti_29, ti_30, ti_31, ti_32, ti_33, ti_34, ti_35, ti_36, ti_37, ti_38, ti_39, ti_40, ti_41, ti_42, ti_43, ti_44, ti_45, ti_46, ti_47, ti_48, ti_49, ti_50, ti_51, ti_52, ti_53, ti_54, ti_55, ti_56, ti_57, ti_58, ti_59, ti_60, ti_61, ti_62, ti_63, ti_64, ti_79, ti_80, ti_90, ti_96, ti_97, ti_99, ti_100, ti_122, ti_128, ti_132, ti_136, ti_140, ti_141, ti_145, ti_255, ti_256, ti_257, ti_258, ti_259, ti_260, ti_261, ti_262, ti_263, ti_264, ti_265, ti_266, ti_267, ti_268, ti_269, ti_270, ti_271, ti_272, ti_273, ti_274, ti_275, ti_276, ti_277, ti_278, ti_400, ti_401, ti_408, ti_420, ti_840, ti_999, ti_1980, ti_2000, ti_9999, ti_10000, ti_10240, ti_1000000, ti_m1, ti_m2, ti_m3, ti_m4, ti_m5, ti_m6, ti_m7] at c_21_0 c_21_1 c_21_2 c_21_3 c_21_4 c_21_5 c_21_6; omega) (by decide) ?_
                  refine r_iconst_ (a := -1) rfl (by decide) ?_
                  refine r_iret rfl rfl rfl ?_
                  first | with_reducible exact fin_i he | exact fin_i he
  · rw [if_pos c_5] at he
    replace hk := hk.1 c_5
    refine r_iconst_ (a := -1) rfl (by decide) ?_
    refine r_iret rfl rfl rfl ?_
    first | with_reducible exact fin_i he | exact fin_i he

