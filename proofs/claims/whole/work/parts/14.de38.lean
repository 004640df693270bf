def f_X3_fill_32 (fu : Nat) : Nat → Int32 → Int32 → Nat → fl_I → fl_L → Int32 × fl_I × fl_L
  | 0, x3, x4, t, s, l => (0, s, l)
  | n + 1, x3, x4, t, s, l =>
    if ((400 : Int32) < x4) then if ((s 3 3) = 0) then if ((s 3 4) = 0) then ((s 3 3), s, l) else (((wi (wi s 3 3 (s 3 4)) 3 0 ((wi s 3 3 (s 3 4)) 3 5)) 3 3), (wi (wi s 3 3 (s 3 4)) 3 0 ((wi s 3 3 (s 3 4)) 3 5)), l) else ((s 3 3), s, l) else if (x3 = 0) then if ((s 3 3) = 0) then if ((s 3 4) = 0) then ((s 3 3), s, l) else (((wi (wi s 3 3 (s 3 4)) 3 0 ((wi s 3 3 (s 3 4)) 3 5)) 3 3), (wi (wi s 3 3 (s 3 4)) 3 0 ((wi s 3 3 (s 3 4)) 3 5)), l) else ((s 3 3), s, l) else if ((f_X3_kindNow fu s l) = 0) then if ((s 3 3) = 0) then if ((s 3 4) = 0) then ((s 3 3), s, l) else (((wi (wi s 3 3 (s 3 4)) 3 0 ((wi s 3 3 (s 3 4)) 3 5)) 3 3), (wi (wi s 3 3 (s 3 4)) 3 0 ((wi s 3 3 (s 3 4)) 3 5)), l) else ((s 3 3), s, l) else if (((f_X3_kindNow fu s l) - (259 : Int32)) < 0) then f_X3_fill_32 fu n (f_X3_plainTold fu t s l).1 (x4 + 1) t (f_X3_plainTold fu t s l).2.1 (f_X3_plainTold fu t s l).2.2 else if ((3 : Int32) ≤ ((f_X3_kindNow fu s l) - (259 : Int32))) then f_X3_fill_32 fu n (f_X3_plainTold fu t s l).1 (x4 + 1) t (f_X3_plainTold fu t s l).2.1 (f_X3_plainTold fu t s l).2.2 else f_X3_fill_32 fu n (f_X3_lawTold fu ((f_X3_kindNow fu s l) - (259 : Int32)) t s l).1 (x4 + 1) t (f_X3_lawTold fu ((f_X3_kindNow fu s l) - (259 : Int32)) t s l).2.1 (f_X3_lawTold fu ((f_X3_kindNow fu s l) - (259 : Int32)) t s l).2.2

def p_X3_fill_32 (fu : Nat) : Nat → Int32 → Int32 → Nat → fl_I → fl_L → Prop
  | 0, _, _, _, _, _ => False
  | n + 1, x3, x4, t, s, l =>
    ((((400 : Int32) < x4) → ((((s 3 3) = 0) → ((((s 3 4) = 0) → True) ∧ (¬ ((s 3 4) = 0) → True))) ∧ (¬ ((s 3 3) = 0) → True))) ∧ (¬ ((400 : Int32) < x4) → (((x3 = 0) → ((((s 3 3) = 0) → ((((s 3 4) = 0) → True) ∧ (¬ ((s 3 4) = 0) → True))) ∧ (¬ ((s 3 3) = 0) → True))) ∧ (¬ (x3 = 0) → (p_X3_kindNow fu s l) ∧ ((((f_X3_kindNow fu s l) = 0) → ((((s 3 3) = 0) → ((((s 3 4) = 0) → True) ∧ (¬ ((s 3 4) = 0) → True))) ∧ (¬ ((s 3 3) = 0) → True))) ∧ (¬ ((f_X3_kindNow fu s l) = 0) → (p_X3_kindNow fu s l) ∧ (((((f_X3_kindNow fu s l) - (259 : Int32)) < 0) → (p_X3_plainTold fu t s l) ∧ p_X3_fill_32 fu n (f_X3_plainTold fu t s l).1 (x4 + 1) t (f_X3_plainTold fu t s l).2.1 (f_X3_plainTold fu t s l).2.2) ∧ (¬ (((f_X3_kindNow fu s l) - (259 : Int32)) < 0) → ((((3 : Int32) ≤ ((f_X3_kindNow fu s l) - (259 : Int32))) → (p_X3_plainTold fu t s l) ∧ p_X3_fill_32 fu n (f_X3_plainTold fu t s l).1 (x4 + 1) t (f_X3_plainTold fu t s l).2.1 (f_X3_plainTold fu t s l).2.2) ∧ (¬ ((3 : Int32) ≤ ((f_X3_kindNow fu s l) - (259 : Int32))) → (p_X3_lawTold fu ((f_X3_kindNow fu s l) - (259 : Int32)) t s l) ∧ p_X3_fill_32 fu n (f_X3_lawTold fu ((f_X3_kindNow fu s l) - (259 : Int32)) t s l).1 (x4 + 1) t (f_X3_lawTold fu ((f_X3_kindNow fu s l) - (259 : Int32)) t s l).2.1 (f_X3_lawTold fu ((f_X3_kindNow fu s l) - (259 : Int32)) t s l).2.2))))))))))

set_option maxRecDepth 100000 in
set_option maxHeartbeats 1000000 in
theorem lp_X3_fill_32 {G : ab_G} {fu : Nat} {d : Nat} {D : fl_D} {t : Nat} (htt : isT t) : ∀ (n : Nat) (x3 : Int32) (x4 : Int32) (s : fl_I) (l : fl_L), p_X3_fill_32 fu n x3 x4 t s l → ab_C G (d + 35) 0 0 M_X3_fill 32 [some (.ref 3), some (.ref t), none, some (.int x3), some (.int x4), none] [] (hp D s l) (rt (some (.int (f_X3_fill_32 fu n x3 x4 t s l).1)) (hp D (f_X3_fill_32 fu n x3 x4 t s l).2.1 (f_X3_fill_32 fu n x3 x4 t s l).2.2)) := by
  intro n
  induction n with
  | zero => intro x3 x4 s l hk; exact hk.elim
  | succ n ih =>
    intro x3 x4 s l hk
    generalize he : f_X3_fill_32 fu (n + 1) x3 x4 t s l = res
    unfold f_X3_fill_32 at he
    unfold p_X3_fill_32 at hk
    refine r_iload rfl rfl ?_
    refine r_sipush_ (a := 400) rfl (by decide) ?_
    refine r_icmp_gt rfl (fun c_37 => ?_) (fun c_37 => ?_)
    · rw [if_pos c_37] at he
      replace hk := hk.1 c_37
      refine r_aload_n rfl rfl ?_
      refine q_getfield rfl (cc_3 _) rfl ?_
      refine r_if_ne rfl (fun c_98 => ?_) (fun c_98 => ?_)
      · rw [if_neg c_98] at he
        replace hk := hk.2 c_98
        refine r_aload_n rfl rfl ?_
        refine q_getfield rfl (cc_3 _) rfl ?_
        refine r_iret rfl rfl rfl ?_
        first | with_reducible exact fin_i he | exact fin_i he
      · rw [if_pos c_98] at he
        replace hk := hk.1 c_98
        refine r_aload_n rfl rfl ?_
        refine q_getfield rfl (cc_3 _) rfl ?_
        refine r_if_eq rfl (fun c_105 => ?_) (fun c_105 => ?_)
        · rw [if_pos c_105] at he
          replace hk := hk.1 c_105
          refine r_aload_n rfl rfl ?_
          refine q_getfield rfl (cc_3 _) rfl ?_
          refine r_iret rfl rfl rfl ?_
          first | with_reducible exact fin_i he | exact fin_i he
        · rw [if_neg c_105] at he
          replace hk := hk.2 c_105
          refine r_aload_n rfl rfl ?_
          refine r_aload_n rfl rfl ?_
          refine q_getfield rfl (cc_3 _) rfl ?_
          refine w_put rfl (cc_3 _) ff_3_3 ft_3_3 (fun _ _ => (Nat.le_of_ble_eq_true rfl)) (fun _ _ => rfl) ?_
          refine r_aload_n rfl rfl ?_
          refine r_aload_n rfl rfl ?_
          refine q_getfield rfl (cc_3 _) rfl ?_
          refine w_put rfl (cc_3 _) ff_3_0 ft_3_0 (fun _ _ => (Nat.le_of_ble_eq_true rfl)) (fun _ _ => rfl) ?_
          refine r_aload_n rfl rfl ?_
          refine q_getfield rfl (cc_3 _) rfl ?_
          refine r_iret rfl rfl rfl ?_
          first | with_reducible exact fin_i he | exact fin_i he
    · rw [if_neg c_37] at he
      replace hk := hk.2 c_37
      refine r_iload_n rfl rfl ?_
      refine r_if_eq rfl (fun c_41 => ?_) (fun c_41 => ?_)
      · rw [if_pos c_41] at he
        replace hk := hk.1 c_41
        refine r_aload_n rfl rfl ?_
        refine q_getfield rfl (cc_3 _) rfl ?_
        refine r_if_ne rfl (fun c_98 => ?_) (fun c_98 => ?_)
        · rw [if_neg c_98] at he
          replace hk := hk.2 c_98
          refine r_aload_n rfl rfl ?_
          refine q_getfield rfl (cc_3 _) rfl ?_
          refine r_iret rfl rfl rfl ?_
          first | with_reducible exact fin_i he | exact fin_i he
        · rw [if_pos c_98] at he
          replace hk := hk.1 c_98
          refine r_aload_n rfl rfl ?_
          refine q_getfield rfl (cc_3 _) rfl ?_
          refine r_if_eq rfl (fun c_105 => ?_) (fun c_105 => ?_)
          · rw [if_pos c_105] at he
            replace hk := hk.1 c_105
            refine r_aload_n rfl rfl ?_
            refine q_getfield rfl (cc_3 _) rfl ?_
            refine r_iret rfl rfl rfl ?_
            first | with_reducible exact fin_i he | exact fin_i he
          · rw [if_neg c_105] at he
            replace hk := hk.2 c_105
            refine r_aload_n rfl rfl ?_
            refine r_aload_n rfl rfl ?_
            refine q_getfield rfl (cc_3 _) rfl ?_
            refine w_put rfl (cc_3 _) ff_3_3 ft_3_3 (fun _ _ => (Nat.le_of_ble_eq_true rfl)) (fun _ _ => rfl) ?_
            refine r_aload_n rfl rfl ?_
            refine r_aload_n rfl rfl ?_
            refine q_getfield rfl (cc_3 _) rfl ?_
            refine w_put rfl (cc_3 _) ff_3_0 ft_3_0 (fun _ _ => (Nat.le_of_ble_eq_true rfl)) (fun _ _ => rfl) ?_
            refine r_aload_n rfl rfl ?_
            refine q_getfield rfl (cc_3 _) rfl ?_
            refine r_iret rfl rfl rfl ?_
            first | with_reducible exact fin_i he | exact fin_i he
      · rw [if_neg c_41] at he
        replace hk := hk.2 c_41
        refine r_aload_n rfl rfl ?_
        obtain ⟨hb2, hk⟩ := hk
        refine q_callV0 [] _ rfl kY_X3_kindNow kT_X3_kindNow rfl rfl (Nat.le_of_ble_eq_true rfl) (Nat.le_of_ble_eq_true rfl) (cc_3 _) (s_X3_kindNow hb2) (fun r h q => ?_)
        obtain ⟨rfl, rfl⟩ := q
        simp only [Option.toList, List.cons_append, List.nil_append]
        refine r_if_eq rfl (fun c_48 => ?_) (fun c_48 => ?_)
        · rw [if_pos c_48] at he
          replace hk := hk.1 c_48
          refine r_aload_n rfl rfl ?_
          refine q_getfield rfl (cc_3 _) rfl ?_
          refine r_if_ne rfl (fun c_98 => ?_) (fun c_98 => ?_)
          · rw [if_neg c_98] at he
            replace hk := hk.2 c_98
            refine r_aload_n rfl rfl ?_
            refine q_getfield rfl (cc_3 _) rfl ?_
            refine r_iret rfl rfl rfl ?_
            first | with_reducible exact fin_i he | exact fin_i he
          · rw [if_pos c_98] at he
            replace hk := hk.1 c_98
            refine r_aload_n rfl rfl ?_
            refine q_getfield rfl (cc_3 _) rfl ?_
            refine r_if_eq rfl (fun c_105 => ?_) (fun c_105 => ?_)
            · rw [if_pos c_105] at he
              replace hk := hk.1 c_105
              refine r_aload_n rfl rfl ?_
              refine q_getfield rfl (cc_3 _) rfl ?_
              refine r_iret rfl rfl rfl ?_
              first | with_reducible exact fin_i he | exact fin_i he
            · rw [if_neg c_105] at he
              replace hk := hk.2 c_105
              refine r_aload_n rfl rfl ?_
              refine r_aload_n rfl rfl ?_
              refine q_getfield rfl (cc_3 _) rfl ?_
              refine w_put rfl (cc_3 _) ff_3_3 ft_3_3 (fun _ _ => (Nat.le_of_ble_eq_true rfl)) (fun _ _ => rfl) ?_
              refine r_aload_n rfl rfl ?_
              refine r_aload_n rfl rfl ?_
              refine q_getfield rfl (cc_3 _) rfl ?_
              refine w_put rfl (cc_3 _) ff_3_0 ft_3_0 (fun _ _ => (Nat.le_of_ble_eq_true rfl)) (fun _ _ => rfl) ?_
              refine r_aload_n rfl rfl ?_
              refine q_getfield rfl (cc_3 _) rfl ?_
              refine r_iret rfl rfl rfl ?_
              first | with_reducible exact fin_i he | exact fin_i he
        · rw [if_neg c_48] at he
          replace hk := hk.2 c_48
          refine r_aload_n rfl rfl ?_
          obtain ⟨hb3, hk⟩ := hk
          refine q_callV0 [] _ rfl kY_X3_kindNow kT_X3_kindNow rfl rfl (Nat.le_of_ble_eq_true rfl) (Nat.le_of_ble_eq_true rfl) (cc_3 _) (s_X3_kindNow hb3) (fun r h q => ?_)
          obtain ⟨rfl, rfl⟩ := q
          simp only [Option.toList, List.cons_append, List.nil_append]
          refine r_sipush_ (a := 259) rfl (by decide) ?_
          refine r_isub rfl ?_
          refine r_istore rfl (Nat.le_of_ble_eq_true rfl) rfl ?_
          refine r_iload rfl rfl ?_
          refine r_if_lt rfl (fun c_63 => ?_) (fun c_63 => ?_)
          · rw [if_pos c_63] at he
            replace hk := hk.1 c_63
            refine r_aload_n rfl rfl ?_
            refine r_aload_n rfl rfl ?_
            obtain ⟨hb4, hk⟩ := hk
            refine q_callV0 [_] _ rfl kY_X3_plainTold kT_X3_plainTold rfl rfl (Nat.le_of_ble_eq_true rfl) (Nat.le_of_ble_eq_true rfl) (cc_3 _) (s_X3_plainTold htt hb4) (fun r h q => ?_)
            obtain ⟨rfl, rfl⟩ := q
            simp only [Option.toList, List.cons_append, List.nil_append]
            refine r_istore_n rfl (Nat.le_of_ble_eq_true rfl) rfl ?_
            refine r_iinc (b := x4 + 1) rfl rfl rfl (Nat.le_of_ble_eq_true rfl) rfl ?_
            refine r_goto rfl ?_
            subst he
            exact r_weak (L1 := [some (.ref 3), some (.ref t), none, some (.int (f_X3_plainTold fu t s l).1), some (.int (x4 + 1)), none]) ⟨rfl, rfl, rfl, rfl, trivial⟩ (ih _ _ _ _ hk)
          · rw [if_neg c_63] at he
            replace hk := hk.2 c_63
            refine r_iload rfl rfl ?_
            refine r_iconst_ (a := 3) rfl (by decide) ?_
            refine r_icmp_ge rfl (fun c_69 => ?_) (fun c_69 => ?_)
            · rw [if_pos c_69] at he
              replace hk := hk.1 c_69
              refine r_aload_n rfl rfl ?_
              refine r_aload_n rfl rfl ?_
              obtain ⟨hb5, hk⟩ := hk
              refine q_callV0 [_] _ rfl kY_X3_plainTold kT_X3_plainTold rfl rfl (Nat.le_of_ble_eq_true rfl) (Nat.le_of_ble_eq_true rfl) (cc_3 _) (s_X3_plainTold htt hb5) (fun r h q => ?_)
              obtain ⟨rfl, rfl⟩ := q
              simp only [Option.toList, List.cons_append, List.nil_append]
              refine r_istore_n rfl (Nat.le_of_ble_eq_true rfl) rfl ?_
              refine r_iinc (b := x4 + 1) rfl rfl rfl (Nat.le_of_ble_eq_true rfl) rfl ?_
              refine r_goto rfl ?_
              subst he
              exact r_weak (L1 := [some (.ref 3), some (.ref t), none, some (.int (f_X3_plainTold fu t s l).1), some (.int (x4 + 1)), none]) ⟨rfl, rfl, rfl, rfl, trivial⟩ (ih _ _ _ _ hk)
            · rw [if_neg c_69] at he
              replace hk := hk.2 c_69
              refine r_aload_n rfl rfl ?_
              refine r_aload_n rfl rfl ?_
              refine r_iload rfl rfl ?_
              obtain ⟨hb6, hk⟩ := hk
              refine q_callV0 [_, _] _ rfl kY_X3_lawTold kT_X3_lawTold rfl rfl (Nat.le_of_ble_eq_true rfl) (Nat.le_of_ble_eq_true rfl) (cc_3 _) (s_X3_lawTold htt hb6) (fun r h q => ?_)
              obtain ⟨rfl, rfl⟩ := q
              simp only [Option.toList, List.cons_append, List.nil_append]
              refine r_goto rfl ?_
              refine r_istore_n rfl (Nat.le_of_ble_eq_true rfl) rfl ?_
              refine r_iinc (b := x4 + 1) rfl rfl rfl (Nat.le_of_ble_eq_true rfl) rfl ?_
              refine r_goto rfl ?_
              subst he
              exact r_weak (L1 := [some (.ref 3), some (.ref t), none, some (.int (f_X3_lawTold fu ((f_X3_kindNow fu s l) - (259 : Int32)) t s l).1), some (.int (x4 + 1)), none]) ⟨rfl, rfl, rfl, rfl, trivial⟩ (ih _ _ _ _ hk)

def f_X3_fill (fu : Nat) (t : Nat) (s : fl_I) (l : fl_L) : Int32 × fl_I × fl_L :=
  f_X3_fill_32 fu fu (1 : Int32) (0 : Int32) t (f_X6_split fu (wi (wi (wi (f_X5_clear fu t s l).1 3 2 (0 : Int32)) 3 3 (0 : Int32)) 3 4 (0 : Int32)) (f_X5_clear fu t s l).2).1 (f_X6_split fu (wi (wi (wi (f_X5_clear fu t s l).1 3 2 (0 : Int32)) 3 3 (0 : Int32)) 3 4 (0 : Int32)) (f_X5_clear fu t s l).2).2

def p_X3_fill (fu : Nat) (t : Nat) (s : fl_I) (l : fl_L) : Prop :=
  (p_X5_clear fu t s l) ∧ (p_X6_split fu (wi (wi (wi (f_X5_clear fu t s l).1 3 2 (0 : Int32)) 3 3 (0 : Int32)) 3 4 (0 : Int32)) (f_X5_clear fu t s l).2) ∧ p_X3_fill_32 fu fu (1 : Int32) (0 : Int32) t (f_X6_split fu (wi (wi (wi (f_X5_clear fu t s l).1 3 2 (0 : Int32)) 3 3 (0 : Int32)) 3 4 (0 : Int32)) (f_X5_clear fu t s l).2).1 (f_X6_split fu (wi (wi (wi (f_X5_clear fu t s l).1 3 2 (0 : Int32)) 3 3 (0 : Int32)) 3 4 (0 : Int32)) (f_X5_clear fu t s l).2).2

set_option maxRecDepth 100000 in
set_option maxHeartbeats 1000000 in
theorem s_X3_fill {G : ab_G} {fu : Nat} {d : Nat} {D : fl_D} {s : fl_I} {l : fl_L} {t : Nat} (htt : isT t)  (hk : p_X3_fill fu t s l) : ab_C G (d + 35) 0 0 M_X3_fill 0 (ab_ent [.ref 3, .ref t, .ref 1]) [] (hp D s l) (rt (some (.int (f_X3_fill fu t s l).1)) (hp D (f_X3_fill fu t s l).2.1 (f_X3_fill fu t s l).2.2)) := by
  generalize he : (f_X3_fill fu t s l) = res
  unfold f_X3_fill at he
  unfold p_X3_fill at hk
  refine r_weak (L1 := [some (.ref 3), some (.ref t), some (.ref 1), none, none, none]) ⟨rfl, rfl, rfl, trivial⟩ ?_
  refine r_aload_n rfl rfl ?_
  obtain ⟨hb0, hk⟩ := hk
  refine q_callV0 [] _ rfl kY_X5_clear kT_X5_clear rfl rfl (Nat.le_of_ble_eq_true rfl) (Nat.le_of_ble_eq_true rfl) (cT_0 htt) (s_X5_clear htt hb0) (fun r h q => ?_)
  obtain ⟨rfl, rfl⟩ := q
  simp only [Option.toList, List.cons_append, List.nil_append]
  refine r_aload_n rfl rfl ?_
  refine r_iconst_ (a := 0) rfl (by decide) ?_
  refine w_put rfl (cc_3 _) ff_3_2 ft_3_2 (fun _ _ => (Nat.le_of_ble_eq_true rfl)) (fun _ _ => rfl) ?_
  refine r_aload_n rfl rfl ?_
  refine r_iconst_ (a := 0) rfl (by decide) ?_
  refine w_put rfl (cc_3 _) ff_3_3 ft_3_3 (fun _ _ => (Nat.le_of_ble_eq_true rfl)) (fun _ _ => rfl) ?_
  refine r_aload_n rfl rfl ?_
  refine r_iconst_ (a := 0) rfl (by decide) ?_
  refine w_put rfl (cc_3 _) ff_3_4 ft_3_4 (fun _ _ => (Nat.le_of_ble_eq_true rfl)) (fun _ _ => rfl) ?_
  refine r_aload_n rfl rfl ?_
  refine q_getfield rfl (cc_3 _) rfl ?_
  refine r_aload_n rfl rfl ?_
  obtain ⟨hb1, hk⟩ := hk
  refine q_callV0 [_] _ rfl kY_X6_split kT_X6_split rfl rfl (Nat.le_of_ble_eq_true rfl) (Nat.le_of_ble_eq_true rfl) (cc_4 _) (s_X6_split hb1) (fun r h q => ?_)
  obtain ⟨rfl, rfl⟩ := q
  simp only [Option.toList, List.cons_append, List.nil_append]
  refine r_iconst_ (a := 1) rfl (by decide) ?_
  refine r_istore_n rfl (Nat.le_of_ble_eq_true rfl) rfl ?_
  refine r_iconst_ (a := 0) rfl (by decide) ?_
  refine r_istore rfl (Nat.le_of_ble_eq_true rfl) rfl ?_
  subst he
  exact r_weak (L1 := [some (.ref 3), some (.ref t), none, some (.int (1 : Int32)), some (.int (0 : Int32)), none]) ⟨rfl, rfl, rfl, rfl, trivial⟩ (lp_X3_fill_32 htt fu _ _ _ _ hk)

def f_X12_picker (fu : Nat) (v0 : Int32) (v1 : Int32) (s : fl_I) (l : fl_L) : Int32 × fl_I × fl_L :=
  if ((f_X12_isPicker fu v0 s l) = 0) then ((-1 : Int32), s, l) else if (v1 = 0) then (((f_X12_copies fu s l).1 95 ((128 : Int32) + v0).toNatClampNeg), (f_X12_copies fu s l).1, (f_X12_copies fu s l).2) else if (v1 = 1) then (((f_X12_copies fu s l).1 95 ((132 : Int32) + v0).toNatClampNeg), (f_X12_copies fu s l).1, (f_X12_copies fu s l).2) else if (v1 = 2) then (((f_X12_copies fu s l).1 78 (((4 : Int32) * ((f_X12_copies fu s l).1 60 18)) + v0).toNatClampNeg), (f_X12_copies fu s l).1, (f_X12_copies fu s l).2) else if (v1 = 3) then ((f_X12_inHat fu v0 (f_X12_copies fu s l).1 (f_X12_copies fu s l).2), (f_X12_copies fu s l).1, (f_X12_copies fu s l).2) else if (v1 = 4) then if (0 ≤ ((f_X12_copies fu s l).1 95 ((136 : Int32) + v0).toNatClampNeg)) then ((((f_X12_copies fu s l).1 95 ((136 : Int32) + v0).toNatClampNeg) - ((f_X12_copies fu s l).1 95 ((136 : Int32) + v0).toNatClampNeg) / (10 : Int32) * (10 : Int32)), (f_X12_copies fu s l).1, (f_X12_copies fu s l).2) else ((-2 : Int32), (f_X12_copies fu s l).1, (f_X12_copies fu s l).2) else if (v1 = 5) then if (0 ≤ ((f_X12_copies fu s l).1 95 ((136 : Int32) + v0).toNatClampNeg)) then ((((f_X12_copies fu s l).1 95 ((136 : Int32) + v0).toNatClampNeg) / (10 : Int32)), (f_X12_copies fu s l).1, (f_X12_copies fu s l).2) else ((-2 : Int32), (f_X12_copies fu s l).1, (f_X12_copies fu s l).2) else if (v1 = 6) then ((f_X12_owedTo fu v0 (f_X12_copies fu s l).1 (f_X12_copies fu s l).2).1, (f_X12_owedTo fu v0 (f_X12_copies fu s l).1 (f_X12_copies fu s l).2).2.1, (f_X12_owedTo fu v0 (f_X12_copies fu s l).1 (f_X12_copies fu s l).2).2.2) else ((-1 : Int32), (f_X12_copies fu s l).1, (f_X12_copies fu s l).2)

def p_X12_picker (fu : Nat) (v0 : Int32) (v1 : Int32) (s : fl_I) (l : fl_L) : Prop :=
  (p_X12_isPicker fu v0 s l) ∧ ((((f_X12_isPicker fu v0 s l) = 0) → True) ∧ (¬ ((f_X12_isPicker fu v0 s l) = 0) → (p_X12_copies fu s l) ∧ (vp_in ((136 : Int32) + v0) 141) ∧ (((v1 = 0) → (vp_in ((128 : Int32) + v0) 141) ∧ True) ∧ (¬ (v1 = 0) → (((v1 = 1) → (vp_in ((132 : Int32) + v0) 141) ∧ True) ∧ (¬ (v1 = 1) → (((v1 = 2) → (vp_in (((4 : Int32) * ((f_X12_copies fu s l).1 60 18)) + v0) 8) ∧ True) ∧ (¬ (v1 = 2) → (((v1 = 3) → (p_X12_inHat fu v0 (f_X12_copies fu s l).1 (f_X12_copies fu s l).2) ∧ True) ∧ (¬ (v1 = 3) → (((v1 = 4) → (((0 ≤ ((f_X12_copies fu s l).1 95 ((136 : Int32) + v0).toNatClampNeg)) → True) ∧ (¬ (0 ≤ ((f_X12_copies fu s l).1 95 ((136 : Int32) + v0).toNatClampNeg)) → True))) ∧ (¬ (v1 = 4) → (((v1 = 5) → (((0 ≤ ((f_X12_copies fu s l).1 95 ((136 : Int32) + v0).toNatClampNeg)) → True) ∧ (¬ (0 ≤ ((f_X12_copies fu s l).1 95 ((136 : Int32) + v0).toNatClampNeg)) → True))) ∧ (¬ (v1 = 5) → (((v1 = 6) → (p_X12_owedTo fu v0 (f_X12_copies fu s l).1 (f_X12_copies fu s l).2) ∧ True) ∧ (¬ (v1 = 6) → True))))))))))))))))

set_option maxRecDepth 100000 in
set_option maxHeartbeats 1000000 in
theorem s_X12_picker {G : ab_G} {fu : Nat} {d : Nat} {D : fl_D} {s : fl_I} {l : fl_L} {v0 : Int32} {v1 : Int32} (hk : p_X12_picker fu v0 v1 s l) : ab_C G (d + 4) 0 0 M_X12_picker 0 (ab_ent [.ref 60, .int v0, .int v1]) [] (hp D s l) (rt (some (.int (f_X12_picker fu v0 v1 s l).1)) (hp D (f_X12_picker fu v0 v1 s l).2.1 (f_X12_picker fu v0 v1 s l).2.2)) := by
  generalize he : (f_X12_picker fu v0 v1 s l) = res
  unfold f_X12_picker at he
  unfold p_X12_picker at hk
  refine r_weak (L1 := [some (.ref 60), some (.int v0), some (.int v1), none]) ⟨rfl, rfl, rfl, trivial⟩ ?_
  refine r_aload_n rfl rfl ?_
  refine r_iload_n rfl rfl ?_
  obtain ⟨hb0, hk⟩ := hk
  refine q_callV0 [_] _ rfl kY_X12_isPicker kT_X12_isPicker rfl rfl (Nat.le_of_ble_eq_true rfl) (Nat.le_of_ble_eq_true rfl) (cc_60 _) (s_X12_isPicker hb0) (fun r h q => ?_)
  obtain ⟨rfl, rfl⟩ := q
  simp only [Option.toList, List.cons_append, List.nil_append]
  refine r_if_ne rfl (fun c_5 => ?_) (fun c_5 => ?_)
  · rw [if_neg c_5] at he
    replace hk := hk.2 c_5
    refine r_aload_n rfl rfl ?_
    obtain ⟨hb1, hk⟩ := hk
    refine q_callV0 [] _ rfl kY_X12_copies kT_X12_copies rfl rfl (Nat.le_of_ble_eq_true rfl) (Nat.le_of_ble_eq_true rfl) (cc_60 _) (s_X12_copies hb1) (fun r h q => ?_)
    obtain ⟨rfl, rfl⟩ := q
    simp only [Option.toList, List.cons_append, List.nil_append]
    refine r_aload_n rfl rfl ?_
    refine q_getfield rfl (cc_60 _) rfl ?_
    refine r_sipush_ (a := 136) rfl (by decide) ?_
    refine r_iload_n rfl rfl ?_
    refine r_iadd rfl ?_
    obtain ⟨hb2, hk⟩ := hk
    refine q_iald rfl (cc_95 _) hb2 ?_
    refine r_istore_n rfl (Nat.le_of_ble_eq_true rfl) rfl ?_
    refine r_iload_n rfl rfl ?_
    by_cases c_26_0 : (v1 = 0)
    · rw [if_pos c_26_0] at he
      replace hk := hk.1 c_26_0
      refine r_tableIn (tgt := 68) rfl (by rw [c_26_0]; decide) (by rw [c_26_0]; decide) (by rw [c_26_0]; rfl) (by decide) ?_
      refine r_aload_n rfl rfl ?_
      refine q_getfield rfl (cc_60 _) rfl ?_
      refine r_sipush_ (a := 128) rfl (by decide) ?_
      refine r_iload_n rfl rfl ?_
      refine r_iadd rfl ?_
      obtain ⟨hb3, hk⟩ := hk
      refine q_iald rfl (cc_95 _) hb3 ?_
      refine r_iret rfl rfl rfl ?_
      first | with_reducible exact fin_i he | exact fin_i he
    · rw [if_neg c_26_0] at he
      replace hk := hk.2 c_26_0
      by_cases c_26_1 : (v1 = 1)
      · rw [if_pos c_26_1] at he
        replace hk := hk.1 c_26_1
        refine r_tableIn (tgt := 79) rfl (by rw [c_26_1]; decide) (by rw [c_26_1]; decide) (by rw [c_26_1]; rfl) (by decide) ?_
        refine r_aload_n rfl rfl ?_
        refine q_getfield rfl (cc_60 _) rfl ?_
        refine r_sipush_ (a := 132) rfl (by decide) ?_
        refine r_iload_n rfl rfl ?_
        refine r_iadd rfl ?_
        obtain ⟨hb4, hk⟩ := hk
        refine q_iald rfl (cc_95 _) hb4 ?_
        refine r_iret rfl rfl rfl ?_
        first | with_reducible exact fin_i he | exact fin_i he
      · rw [if_neg c_26_1] at he
        replace hk := hk.2 c_26_1
        by_cases c_26_2 : (v1 = 2)
        · rw [if_pos c_26_2] at he
          replace hk := hk.1 c_26_2
          refine r_tableIn (tgt := 90) rfl (by rw [c_26_2]; decide) (by rw [c_26_2]; decide) (by rw [c_26_2]; rfl) (by decide) ?_
          refine r_aload_n rfl rfl ?_
          refine q_getfield rfl (cc_60 _) rfl ?_
          refine r_iconst_ (a := 4) rfl (by decide) ?_
          refine r_aload_n rfl rfl ?_
          refine q_getfield rfl (cc_60 _) rfl ?_
          refine r_imul rfl ?_
          refine r_iload_n rfl rfl ?_
          refine r_iadd rfl ?_
          obtain ⟨hb5, hk⟩ := hk
          refine q_iald rfl (cc_78 _) hb5 ?_
          refine r_iret rfl rfl rfl ?_
          first | with_reducible exact fin_i he | exact fin_i he
        · rw [if_neg c_26_2] at he
          replace hk := hk.2 c_26_2
          by_cases c_26_3 : (v1 = 3)
          · rw [if_pos c_26_3] at he
            replace hk := hk.1 c_26_3
            refine r_tableIn (tgt := 104) rfl (by rw [c_26_3]; decide) (by rw [c_26_3]; decide) (by rw [c_26_3]; rfl) (by decide) ?_
            refine r_aload_n rfl rfl ?_
            refine r_iload_n rfl rfl ?_
            obtain ⟨hb6, hk⟩ := hk
            refine q_callV0 [_] _ rfl kY_X12_inHat kT_X12_inHat rfl rfl (Nat.le_of_ble_eq_true rfl) (Nat.le_of_ble_eq_true rfl) (cc_60 _) (s_X12_inHat hb6) (fun r h q => ?_)
            obtain ⟨rfl, rfl⟩ := q
            simp only [Option.toList, List.cons_append, List.nil_append]
            refine r_iret rfl rfl rfl ?_
            first | with_reducible exact fin_i he | exact fin_i he
          · rw [if_neg c_26_3] at he
            replace hk := hk.2 c_26_3
            by_cases c_26_4 : (v1 = 4)
            · rw [if_pos c_26_4] at he
              replace hk := hk.1 c_26_4
              refine r_tableIn (tgt := 110) rfl (by rw [c_26_4]; decide) (by rw [c_26_4]; decide) (by rw [c_26_4]; rfl) (by decide) ?_
              refine r_iload_n rfl rfl ?_
              refine r_if_ge rfl (fun c_111 => ?_) (fun c_111 => ?_)
              · rw [if_pos c_111] at he
                replace hk := hk.1 c_111
                refine r_iload_n rfl rfl ?_
                refine r_bipush_ (a := 10) rfl (by decide) ?_
                refine r_irem rfl (by decide) ?_
                refine r_iret rfl rfl rfl ?_
                first | with_reducible exact fin_i he | exact fin_i he
              · rw [if_neg c_111] at he
                replace hk := hk.2 c_111
                refine r_bipush_ (a := -2) rfl (by decide) ?_
                refine r_goto rfl ?_
                refine r_iret rfl rfl rfl ?_
                first | with_reducible exact fin_i he | exact fin_i he
            · rw [if_neg c_26_4] at he
              replace hk := hk.2 c_26_4
              by_cases c_26_5 : (v1 = 5)
              · rw [if_pos c_26_5] at he
                replace hk := hk.1 c_26_5
                refine r_tableIn (tgt := 124) rfl (by rw [c_26_5]; decide) (by rw [c_26_5]; decide) (by rw [c_26_5]; rfl) (by decide) ?_
                refine r_iload_n rfl rfl ?_
                refine r_if_ge rfl (fun c_125 => ?_) (fun c_125 => ?_)
                · rw [if_pos c_125] at he
                  replace hk := hk.1 c_125
                  refine r_iload_n rfl rfl ?_
                  refine r_bipush_ (a := 10) rfl (by decide) ?_
                  refine r_idiv rfl (by decide) ?_
                  refine r_iret rfl rfl rfl ?_
                  first | with_reducible exact fin_i he | exact fin_i he
                · rw [if_neg c_125] at he
                  replace hk := hk.2 c_125
                  refine r_bipush_ (a := -2) rfl (by decide) ?_
                  refine r_goto rfl ?_
                  refine r_iret rfl rfl rfl ?_
                  first | with_reducible exact fin_i he | exact fin_i he
              · rw [if_neg c_26_5] at he
                replace hk := hk.2 c_26_5
                by_cases c_26_6 : (v1 = 6)
                · rw [if_pos c_26_6] at he
                  replace hk := hk.1 c_26_6
                  refine r_tableIn (tgt := 138) rfl (by rw [c_26_6]; decide) (by rw [c_26_6]; decide) (by rw [c_26_6]; rfl) (by decide) ?_
                  refine r_aload_n rfl rfl ?_
                  refine r_iload_n rfl rfl ?_
                  obtain ⟨hb7, hk⟩ := hk
                  refine q_callV0 [_] _ rfl kY_X12_owedTo kT_X12_owedTo rfl rfl (Nat.le_of_ble_eq_true rfl) (Nat.le_of_ble_eq_true rfl) (cc_60 _) (s_X12_owedTo hb7) (fun r h q => ?_)
                  obtain ⟨rfl, rfl⟩ := q
                  simp only [Option.toList, List.cons_append, List.nil_append]
                  refine r_iret rfl rfl rfl ?_
                  first | with_reducible exact fin_i he | exact fin_i he
                · rw [if_neg c_26_6] at he
                  replace hk := hk.2 c_26_6
                  refine r_tableOut (tgt := 144) rfl (by simp only [Int32.lt_iff_toInt_lt, Int32.le_iff_toInt_le, ← Int32.toInt_inj, ti_0, ti_1, ti_2, ti_3, ti_4, ti_5, ti_6, ti_7, ti_8, ti_9, ti_10, ti_11, ti_12, ti_13, ti_14, ti_15, ti_16, ti_17, ti_18, ti_19, ti_20, ti_21, ti_22, ti_23, ti_24, ti_25, ti_26, ti_27, ti_28, ti_29, ti_30, ti_31, ti_32, ti_33, ti_34, ti_35, ti_36, ti_37, ti_38, ti_39, ti_40, ti_41, ti_42, ti_43, ti_44, ti_45, ti_46, ti_47, ti_48, ti_49, ti_50, ti_51, ti_52, ti_53, ti_54, ti_55, ti_56, ti_57, ti_58, ti_59, ti_60, ti_61, ti_62, ti_63, ti_64, ti_79, ti_80, ti_90, ti_96, ti_97, ti_99, ti_100, ti_122, ti_128, ti_132, ti_136, ti_140, ti_141, ti_145, ti_255, ti_256, ti_257, ti_258, ti_259, ti_260, ti_261, ti_262, ti_263, ti_264, ti_265, ti_266, ti_267, ti_268, ti_269, ti_270, ti_271, ti_272, ti_273, ti_274, ti_275, ti_276, ti_277, ti_278, ti_400, ti_401, ti_408, ti_420, ti_840, ti_999, ti_1980, ti_2000, ti_9999, ti_10000, ti_10240, ti_1000000, ti_m1, ti_m2, ti_m3, ti_m4, ti_m5, ti_m6, ti_m7] at c_26_0 c_26_1 c_26_2 c_26_3 c_26_4 c_26_5 c_26_6; omega) (by decide) ?_
                  refine r_iconst_ (a := -1) rfl (by decide) ?_
                  refine r_iret rfl rfl rfl ?_
                  first | with_reducible exact fin_i he | exact fin_i he
  · rw [if_pos c_5] at he
    replace hk := hk.1 c_5
    refine r_iconst_ (a := -1) rfl (by decide) ?_
    refine r_iret rfl rfl rfl ?_
    first | with_reducible exact fin_i he | exact fin_i he

