def f_X6_nameKind_86 (fu : Nat) : Nat → Int64 → Int32 → fl_I → fl_L → Int32 × fl_I × fl_L
  | 0, x4, x6, s, l => (0, s, l)
  | n + 1, x4, x6, s, l =>
    if ((21 : Int32) ≤ x6) then ((2 : Int32), s, l) else if ((lg_cmp (l 8 x6.toNatClampNeg) x4) = 0) then (((256 : Int32) + x6), s, l) else f_X6_nameKind_86 fu n x4 (x6 + 1) s l

def p_X6_nameKind_86 (fu : Nat) : Nat → Int64 → Int32 → fl_I → fl_L → Prop
  | 0, _, _, _, _ => False
  | n + 1, x4, x6, s, l =>
    ((((21 : Int32) ≤ x6) → True) ∧ (¬ ((21 : Int32) ≤ x6) → (vp_in x6 21) ∧ ((((lg_cmp (l 8 x6.toNatClampNeg) x4) = 0) → True) ∧ (¬ ((lg_cmp (l 8 x6.toNatClampNeg) x4) = 0) → p_X6_nameKind_86 fu n x4 (x6 + 1) s l))))

set_option maxRecDepth 100000 in
set_option maxHeartbeats 1000000 in
theorem lp_X6_nameKind_86 {G : ab_G} {fu : Nat} {d : Nat} {D : fl_D} : ∀ (n : Nat) (x4 : Int64) (x6 : Int32) (s : fl_I) (l : fl_L), p_X6_nameKind_86 fu n x4 x6 s l → ab_C G (d + 1) 0 0 M_X6_nameKind 86 [some (.ref 4), none, none, none, some (.long x4), none, some (.int x6)] [] (hp D s l) (rt (some (.int (f_X6_nameKind_86 fu n x4 x6 s l).1)) (hp D (f_X6_nameKind_86 fu n x4 x6 s l).2.1 (f_X6_nameKind_86 fu n x4 x6 s l).2.2)) := by
  intro n
  induction n with
  | zero => intro x4 x6 s l hk; exact hk.elim
  | succ n ih =>
    intro x4 x6 s l hk
    generalize he : f_X6_nameKind_86 fu (n + 1) x4 x6 s l = res
    unfold f_X6_nameKind_86 at he
    unfold p_X6_nameKind_86 at hk
    refine r_iload rfl rfl ?_
    refine r_bipush_ (a := 21) rfl (by decide) ?_
    refine r_icmp_ge rfl (fun c_90 => ?_) (fun c_90 => ?_)
    · rw [if_pos c_90] at he
      replace hk := hk.1 c_90
      refine r_iconst_ (a := 2) rfl (by decide) ?_
      refine r_iret rfl rfl rfl ?_
      first | with_reducible exact fin_i he | exact fin_i he
    · rw [if_neg c_90] at he
      replace hk := hk.2 c_90
      refine r_aload_n rfl rfl ?_
      refine q_getfield rfl (cc_4 _) rfl ?_
      refine r_iload rfl rfl ?_
      obtain ⟨hb1, hk⟩ := hk
      refine q_lald rfl (cc_8 _) hb1 ?_
      refine r_lload rfl rfl ?_
      refine r_lcmp rfl ?_
      refine r_if_ne rfl (fun c_103 => ?_) (fun c_103 => ?_)
      · rw [if_neg c_103] at he
        replace hk := hk.2 c_103
        refine r_iinc (b := x6 + 1) rfl rfl rfl (Nat.le_of_ble_eq_true rfl) rfl ?_
        refine r_goto rfl ?_
        subst he
        exact r_weak (L1 := [some (.ref 4), none, none, none, some (.long x4), none, some (.int (x6 + 1))]) ⟨rfl, rfl, rfl, trivial⟩ (ih _ _ _ _ hk)
      · rw [if_pos c_103] at he
        replace hk := hk.1 c_103
        refine r_sipush_ (a := 256) rfl (by decide) ?_
        refine r_iload rfl rfl ?_
        refine r_iadd rfl ?_
        refine r_iret rfl rfl rfl ?_
        first | with_reducible exact fin_i he | exact fin_i he

def f_X6_nameKind_5 (fu : Nat) : Nat → Int32 → Int32 → Int64 → fl_I → fl_L → Int32 × fl_I × fl_L
  | 0, x2, x3, x4, s, l => (0, s, l)
  | n + 1, x2, x3, x4, s, l =>
    if ((s 1 1) ≤ (s 4 4)) then if (x3 ≤ (8 : Int32)) then f_X6_nameKind_86 fu fu x4 (0 : Int32) s (wl l 7 x2.toNatClampNeg x4) else ((1 : Int32), s, l) else if ((f_X6_isLetter fu (f_X4_byteAt fu (s 4 4) s l)) = 0) then if (x3 ≤ (8 : Int32)) then f_X6_nameKind_86 fu fu x4 (0 : Int32) s (wl l 7 x2.toNatClampNeg x4) else ((1 : Int32), s, l) else f_X6_nameKind_5 fu n x2 (x3 + 1) (f_X11_withSign fu x4 x3 (((f_X4_byteAt fu (s 4 4) s l) - (97 : Int32)) + (1 : Int32))) (wi s 4 4 ((s 4 4) + (1 : Int32))) l

def p_X6_nameKind_5 (fu : Nat) : Nat → Int32 → Int32 → Int64 → fl_I → fl_L → Prop
  | 0, _, _, _, _, _ => False
  | n + 1, x2, x3, x4, s, l =>
    ((((s 1 1) ≤ (s 4 4)) → (((x3 ≤ (8 : Int32)) → (vp_in x2 401) ∧ p_X6_nameKind_86 fu fu x4 (0 : Int32) s (wl l 7 x2.toNatClampNeg x4)) ∧ (¬ (x3 ≤ (8 : Int32)) → True))) ∧ (¬ ((s 1 1) ≤ (s 4 4)) → (p_X4_byteAt fu (s 4 4) s l) ∧ (p_X6_isLetter fu (f_X4_byteAt fu (s 4 4) s l)) ∧ ((((f_X6_isLetter fu (f_X4_byteAt fu (s 4 4) s l)) = 0) → (((x3 ≤ (8 : Int32)) → (vp_in x2 401) ∧ p_X6_nameKind_86 fu fu x4 (0 : Int32) s (wl l 7 x2.toNatClampNeg x4)) ∧ (¬ (x3 ≤ (8 : Int32)) → True))) ∧ (¬ ((f_X6_isLetter fu (f_X4_byteAt fu (s 4 4) s l)) = 0) → (p_X4_byteAt fu (s 4 4) s l) ∧ (p_X11_withSign fu x4 x3 (((f_X4_byteAt fu (s 4 4) s l) - (97 : Int32)) + (1 : Int32))) ∧ p_X6_nameKind_5 fu n x2 (x3 + 1) (f_X11_withSign fu x4 x3 (((f_X4_byteAt fu (s 4 4) s l) - (97 : Int32)) + (1 : Int32))) (wi s 4 4 ((s 4 4) + (1 : Int32))) l))))

set_option maxRecDepth 100000 in
set_option maxHeartbeats 1000000 in
theorem lp_X6_nameKind_5 {G : ab_G} {fu : Nat} {d : Nat} {D : fl_D} : ∀ (n : Nat) (x2 : Int32) (x3 : Int32) (x4 : Int64) (s : fl_I) (l : fl_L), p_X6_nameKind_5 fu n x2 x3 x4 s l → ab_C G (d + 1) 0 0 M_X6_nameKind 5 [some (.ref 4), some (.ref 1), some (.int x2), some (.int x3), some (.long x4), none, none] [] (hp D s l) (rt (some (.int (f_X6_nameKind_5 fu n x2 x3 x4 s l).1)) (hp D (f_X6_nameKind_5 fu n x2 x3 x4 s l).2.1 (f_X6_nameKind_5 fu n x2 x3 x4 s l).2.2)) := by
  intro n
  induction n with
  | zero => intro x2 x3 x4 s l hk; exact hk.elim
  | succ n ih =>
    intro x2 x3 x4 s l hk
    generalize he : f_X6_nameKind_5 fu (n + 1) x2 x3 x4 s l = res
    unfold f_X6_nameKind_5 at he
    unfold p_X6_nameKind_5 at hk
    refine r_aload_n rfl rfl ?_
    refine q_getfield rfl (cc_4 _) rfl ?_
    refine r_aload_n rfl rfl ?_
    refine q_getfield rfl (cc_1 _) rfl ?_
    refine r_icmp_ge rfl (fun c_13 => ?_) (fun c_13 => ?_)
    · rw [if_pos c_13] at he
      replace hk := hk.1 c_13
      refine r_iload_n rfl rfl ?_
      refine r_bipush_ (a := 8) rfl (by decide) ?_
      refine r_icmp_le rfl (fun c_70 => ?_) (fun c_70 => ?_)
      · rw [if_pos c_70] at he
        replace hk := hk.1 c_70
        refine r_aload_n rfl rfl ?_
        refine q_getfield rfl (cc_4 _) rfl ?_
        refine r_iload_n rfl rfl ?_
        refine r_lload rfl rfl ?_
        obtain ⟨hb0, hk⟩ := hk
        refine w_last rfl (cc_7 _) hb0 ?_
        refine r_iconst_ (a := 0) rfl (by decide) ?_
        refine r_istore rfl (Nat.le_of_ble_eq_true rfl) rfl ?_
        subst he
        exact r_weak (L1 := [some (.ref 4), none, none, none, some (.long x4), none, some (.int (0 : Int32))]) ⟨rfl, rfl, rfl, trivial⟩ (lp_X6_nameKind_86 fu _ _ _ _ hk)
      · rw [if_neg c_70] at he
        replace hk := hk.2 c_70
        refine r_iconst_ (a := 1) rfl (by decide) ?_
        refine r_iret rfl rfl rfl ?_
        first | with_reducible exact fin_i he | exact fin_i he
    · rw [if_neg c_13] at he
      replace hk := hk.2 c_13
      refine r_aload_n rfl rfl ?_
      refine r_aload_n rfl rfl ?_
      refine q_getfield rfl (cc_4 _) rfl ?_
      obtain ⟨hb2, hk⟩ := hk
      refine q_callV0 [_] _ rfl kY_X4_byteAt kT_X4_byteAt rfl rfl (Nat.le_of_ble_eq_true rfl) (Nat.le_of_ble_eq_true rfl) (cc_1 _) (s_X4_byteAt hb2) (fun r h q => ?_)
      obtain ⟨rfl, rfl⟩ := q
      simp only [Option.toList, List.cons_append, List.nil_append]
      obtain ⟨hb3, hk⟩ := hk
      refine r_callS0 [_] _ rfl kY_X6_isLetter kT_X6_isLetter rfl rfl (Nat.le_of_ble_eq_true rfl) (Nat.le_of_ble_eq_true rfl) (s_X6_isLetter hb3) (fun r h q => ?_)
      obtain ⟨rfl, rfl⟩ := q
      simp only [Option.toList, List.cons_append, List.nil_append]
      refine r_if_eq rfl (fun c_27 => ?_) (fun c_27 => ?_)
      · rw [if_pos c_27] at he
        replace hk := hk.1 c_27
        refine r_iload_n rfl rfl ?_
        refine r_bipush_ (a := 8) rfl (by decide) ?_
        refine r_icmp_le rfl (fun c_70 => ?_) (fun c_70 => ?_)
        · rw [if_pos c_70] at he
          replace hk := hk.1 c_70
          refine r_aload_n rfl rfl ?_
          refine q_getfield rfl (cc_4 _) rfl ?_
          refine r_iload_n rfl rfl ?_
          refine r_lload rfl rfl ?_
          obtain ⟨hb4, hk⟩ := hk
          refine w_last rfl (cc_7 _) hb4 ?_
          refine r_iconst_ (a := 0) rfl (by decide) ?_
          refine r_istore rfl (Nat.le_of_ble_eq_true rfl) rfl ?_
          subst he
          exact r_weak (L1 := [some (.ref 4), none, none, none, some (.long x4), none, some (.int (0 : Int32))]) ⟨rfl, rfl, rfl, trivial⟩ (lp_X6_nameKind_86 fu _ _ _ _ hk)
        · rw [if_neg c_70] at he
          replace hk := hk.2 c_70
          refine r_iconst_ (a := 1) rfl (by decide) ?_
          refine r_iret rfl rfl rfl ?_
          first | with_reducible exact fin_i he | exact fin_i he
      · rw [if_neg c_27] at he
        replace hk := hk.2 c_27
        refine r_lload rfl rfl ?_
        refine r_iload_n rfl rfl ?_
        refine r_aload_n rfl rfl ?_
        refine r_aload_n rfl rfl ?_
        refine q_getfield rfl (cc_4 _) rfl ?_
        obtain ⟨hb5, hk⟩ := hk
        refine q_callV0 [_] _ rfl kY_X4_byteAt kT_X4_byteAt rfl rfl (Nat.le_of_ble_eq_true rfl) (Nat.le_of_ble_eq_true rfl) (cc_1 _) (s_X4_byteAt hb5) (fun r h q => ?_)
        obtain ⟨rfl, rfl⟩ := q
        simp only [Option.toList, List.cons_append, List.nil_append]
        refine r_bipush_ (a := 97) rfl (by decide) ?_
        refine r_isub rfl ?_
        refine r_iconst_ (a := 1) rfl (by decide) ?_
        refine r_iadd rfl ?_
        obtain ⟨hb6, hk⟩ := hk
        refine r_callSN0 [_, _, _] _ rfl kY_X11_withSign kT_X11_withSign rfl rfl (Nat.le_of_ble_eq_true rfl) (Nat.le_of_ble_eq_true rfl) (s_X11_withSign hb6) (fun r h q => ?_)
        obtain ⟨rfl, rfl⟩ := q
        simp only [Option.toList, List.cons_append, List.nil_append]
        refine r_lstore rfl (Nat.le_of_ble_eq_true rfl) rfl ?_
        refine r_iinc (b := x3 + 1) rfl rfl rfl (Nat.le_of_ble_eq_true rfl) rfl ?_
        refine r_aload_n rfl rfl ?_
        refine r_dup rfl rfl ?_
        refine q_getfield rfl (cc_4 _) rfl ?_
        refine r_iconst_ (a := 1) rfl (by decide) ?_
        refine r_iadd rfl ?_
        refine w_put rfl (cc_4 _) ff_6_4 ft_6_4 (fun _ _ => (Nat.le_of_ble_eq_true rfl)) (fun _ _ => rfl) ?_
        refine r_goto rfl ?_
        subst he
        exact r_weak (L1 := [some (.ref 4), some (.ref 1), some (.int x2), some (.int (x3 + 1)), some (.long (f_X11_withSign fu x4 x3 (((f_X4_byteAt fu (s 4 4) s l) - (97 : Int32)) + (1 : Int32)))), none, none]) ⟨rfl, rfl, rfl, rfl, rfl, trivial⟩ (ih _ _ _ _ _ hk)

def f_X6_nameKind (fu : Nat) (v1 : Int32) (s : fl_I) (l : fl_L) : Int32 × fl_I × fl_L :=
  f_X6_nameKind_5 fu fu v1 (0 : Int32) (0 : Int64) s l

def p_X6_nameKind (fu : Nat) (v1 : Int32) (s : fl_I) (l : fl_L) : Prop :=
  p_X6_nameKind_5 fu fu v1 (0 : Int32) (0 : Int64) s l

set_option maxRecDepth 100000 in
set_option maxHeartbeats 1000000 in
theorem s_X6_nameKind {G : ab_G} {fu : Nat} {d : Nat} {D : fl_D} {s : fl_I} {l : fl_L} {v1 : Int32} (hk : p_X6_nameKind fu v1 s l) : ab_C G (d + 1) 0 0 M_X6_nameKind 0 (ab_ent [.ref 4, .ref 1, .int v1]) [] (hp D s l) (rt (some (.int (f_X6_nameKind fu v1 s l).1)) (hp D (f_X6_nameKind fu v1 s l).2.1 (f_X6_nameKind fu v1 s l).2.2)) := by
  generalize he : (f_X6_nameKind fu v1 s l) = res
  unfold f_X6_nameKind at he
  unfold p_X6_nameKind at hk
  refine r_weak (L1 := [some (.ref 4), some (.ref 1), some (.int v1), none, none, none, none]) ⟨rfl, rfl, rfl, trivial⟩ ?_
  refine r_iconst_ (a := 0) rfl (by decide) ?_
  refine r_istore_n rfl (Nat.le_of_ble_eq_true rfl) rfl ?_
  refine r_lconst (a := 0) rfl (by decide) ?_
  refine r_lstore rfl (Nat.le_of_ble_eq_true rfl) rfl ?_
  subst he
  exact r_weak (L1 := [some (.ref 4), some (.ref 1), some (.int v1), some (.int (0 : Int32)), some (.long (0 : Int64)), none, none]) ⟨rfl, rfl, rfl, rfl, rfl, trivial⟩ (lp_X6_nameKind_5 fu _ _ _ _ _ hk)

def f_X9_walk_2 (fu : Nat) : Nat → Int32 → Nat → fl_I → fl_L → fl_I × fl_L
  | 0, x1, a, s, l => (s, l)
  | n + 1, x1, a, s, l =>
    if ((s a 2) ≤ x1) then (s, l) else if ((s (a + 4) x1.toNatClampNeg) = (-2 : Int32)) then f_X9_walk_2 fu n (x1 + 1) a s l else if ((f_J6_compare_7cf53 fu ((s (a + 4) x1.toNatClampNeg) - (s (a + 4) x1.toNatClampNeg) / (10 : Int32) * (10 : Int32)) ((s (a + 3) x1.toNatClampNeg) - (s (a + 3) x1.toNatClampNeg) / (10 : Int32) * (10 : Int32))) = 0) then if (((wi s (a + 3) x1.toNatClampNeg ((s (a + 3) x1.toNatClampNeg) + ((10 : Int32) * (f_J6_compare_7cf53 fu ((s (a + 4) x1.toNatClampNeg) / (10 : Int32)) ((s (a + 3) x1.toNatClampNeg) / (10 : Int32)))))) (a + 3) x1.toNatClampNeg) = (s (a + 4) x1.toNatClampNeg)) then f_X9_walk_2 fu n (x1 + 1) a (wi (wi s (a + 3) x1.toNatClampNeg ((s (a + 3) x1.toNatClampNeg) + ((10 : Int32) * (f_J6_compare_7cf53 fu ((s (a + 4) x1.toNatClampNeg) / (10 : Int32)) ((s (a + 3) x1.toNatClampNeg) / (10 : Int32)))))) (a + 4) x1.toNatClampNeg (-2 : Int32)) l else f_X9_walk_2 fu n (x1 + 1) a (wi s (a + 3) x1.toNatClampNeg ((s (a + 3) x1.toNatClampNeg) + ((10 : Int32) * (f_J6_compare_7cf53 fu ((s (a + 4) x1.toNatClampNeg) / (10 : Int32)) ((s (a + 3) x1.toNatClampNeg) / (10 : Int32)))))) l else if (((wi s (a + 3) x1.toNatClampNeg ((s (a + 3) x1.toNatClampNeg) + (f_J6_compare_7cf53 fu ((s (a + 4) x1.toNatClampNeg) - (s (a + 4) x1.toNatClampNeg) / (10 : Int32) * (10 : Int32)) ((s (a + 3) x1.toNatClampNeg) - (s (a + 3) x1.toNatClampNeg) / (10 : Int32) * (10 : Int32))))) (a + 3) x1.toNatClampNeg) = (s (a + 4) x1.toNatClampNeg)) then f_X9_walk_2 fu n (x1 + 1) a (wi (wi s (a + 3) x1.toNatClampNeg ((s (a + 3) x1.toNatClampNeg) + (f_J6_compare_7cf53 fu ((s (a + 4) x1.toNatClampNeg) - (s (a + 4) x1.toNatClampNeg) / (10 : Int32) * (10 : Int32)) ((s (a + 3) x1.toNatClampNeg) - (s (a + 3) x1.toNatClampNeg) / (10 : Int32) * (10 : Int32))))) (a + 4) x1.toNatClampNeg (-2 : Int32)) l else f_X9_walk_2 fu n (x1 + 1) a (wi s (a + 3) x1.toNatClampNeg ((s (a + 3) x1.toNatClampNeg) + (f_J6_compare_7cf53 fu ((s (a + 4) x1.toNatClampNeg) - (s (a + 4) x1.toNatClampNeg) / (10 : Int32) * (10 : Int32)) ((s (a + 3) x1.toNatClampNeg) - (s (a + 3) x1.toNatClampNeg) / (10 : Int32) * (10 : Int32))))) l

def p_X9_walk_2 (fu : Nat) : Nat → Int32 → Nat → fl_I → fl_L → Prop
  | 0, _, _, _, _ => False
  | n + 1, x1, a, s, l =>
    ((((s a 2) ≤ x1) → True) ∧ (¬ ((s a 2) ≤ x1) → (vp_in x1 4) ∧ (vp_in x1 4) ∧ ((((s (a + 4) x1.toNatClampNeg) = (-2 : Int32)) → p_X9_walk_2 fu n (x1 + 1) a s l) ∧ (¬ ((s (a + 4) x1.toNatClampNeg) = (-2 : Int32)) → (p_J6_compare_7cf53 fu ((s (a + 4) x1.toNatClampNeg) - (s (a + 4) x1.toNatClampNeg) / (10 : Int32) * (10 : Int32)) ((s (a + 3) x1.toNatClampNeg) - (s (a + 3) x1.toNatClampNeg) / (10 : Int32) * (10 : Int32))) ∧ (p_J6_compare_7cf53 fu ((s (a + 4) x1.toNatClampNeg) / (10 : Int32)) ((s (a + 3) x1.toNatClampNeg) / (10 : Int32))) ∧ ((((f_J6_compare_7cf53 fu ((s (a + 4) x1.toNatClampNeg) - (s (a + 4) x1.toNatClampNeg) / (10 : Int32) * (10 : Int32)) ((s (a + 3) x1.toNatClampNeg) - (s (a + 3) x1.toNatClampNeg) / (10 : Int32) * (10 : Int32))) = 0) → (vp_in x1 4) ∧ (vp_in x1 4) ∧ (((((wi s (a + 3) x1.toNatClampNeg ((s (a + 3) x1.toNatClampNeg) + ((10 : Int32) * (f_J6_compare_7cf53 fu ((s (a + 4) x1.toNatClampNeg) / (10 : Int32)) ((s (a + 3) x1.toNatClampNeg) / (10 : Int32)))))) (a + 3) x1.toNatClampNeg) = (s (a + 4) x1.toNatClampNeg)) → (vp_in x1 4) ∧ p_X9_walk_2 fu n (x1 + 1) a (wi (wi s (a + 3) x1.toNatClampNeg ((s (a + 3) x1.toNatClampNeg) + ((10 : Int32) * (f_J6_compare_7cf53 fu ((s (a + 4) x1.toNatClampNeg) / (10 : Int32)) ((s (a + 3) x1.toNatClampNeg) / (10 : Int32)))))) (a + 4) x1.toNatClampNeg (-2 : Int32)) l) ∧ (¬ (((wi s (a + 3) x1.toNatClampNeg ((s (a + 3) x1.toNatClampNeg) + ((10 : Int32) * (f_J6_compare_7cf53 fu ((s (a + 4) x1.toNatClampNeg) / (10 : Int32)) ((s (a + 3) x1.toNatClampNeg) / (10 : Int32)))))) (a + 3) x1.toNatClampNeg) = (s (a + 4) x1.toNatClampNeg)) → p_X9_walk_2 fu n (x1 + 1) a (wi s (a + 3) x1.toNatClampNeg ((s (a + 3) x1.toNatClampNeg) + ((10 : Int32) * (f_J6_compare_7cf53 fu ((s (a + 4) x1.toNatClampNeg) / (10 : Int32)) ((s (a + 3) x1.toNatClampNeg) / (10 : Int32)))))) l))) ∧ (¬ ((f_J6_compare_7cf53 fu ((s (a + 4) x1.toNatClampNeg) - (s (a + 4) x1.toNatClampNeg) / (10 : Int32) * (10 : Int32)) ((s (a + 3) x1.toNatClampNeg) - (s (a + 3) x1.toNatClampNeg) / (10 : Int32) * (10 : Int32))) = 0) → (vp_in x1 4) ∧ (vp_in x1 4) ∧ (((((wi s (a + 3) x1.toNatClampNeg ((s (a + 3) x1.toNatClampNeg) + (f_J6_compare_7cf53 fu ((s (a + 4) x1.toNatClampNeg) - (s (a + 4) x1.toNatClampNeg) / (10 : Int32) * (10 : Int32)) ((s (a + 3) x1.toNatClampNeg) - (s (a + 3) x1.toNatClampNeg) / (10 : Int32) * (10 : Int32))))) (a + 3) x1.toNatClampNeg) = (s (a + 4) x1.toNatClampNeg)) → (vp_in x1 4) ∧ p_X9_walk_2 fu n (x1 + 1) a (wi (wi s (a + 3) x1.toNatClampNeg ((s (a + 3) x1.toNatClampNeg) + (f_J6_compare_7cf53 fu ((s (a + 4) x1.toNatClampNeg) - (s (a + 4) x1.toNatClampNeg) / (10 : Int32) * (10 : Int32)) ((s (a + 3) x1.toNatClampNeg) - (s (a + 3) x1.toNatClampNeg) / (10 : Int32) * (10 : Int32))))) (a + 4) x1.toNatClampNeg (-2 : Int32)) l) ∧ (¬ (((wi s (a + 3) x1.toNatClampNeg ((s (a + 3) x1.toNatClampNeg) + (f_J6_compare_7cf53 fu ((s (a + 4) x1.toNatClampNeg) - (s (a + 4) x1.toNatClampNeg) / (10 : Int32) * (10 : Int32)) ((s (a + 3) x1.toNatClampNeg) - (s (a + 3) x1.toNatClampNeg) / (10 : Int32) * (10 : Int32))))) (a + 3) x1.toNatClampNeg) = (s (a + 4) x1.toNatClampNeg)) → p_X9_walk_2 fu n (x1 + 1) a (wi s (a + 3) x1.toNatClampNeg ((s (a + 3) x1.toNatClampNeg) + (f_J6_compare_7cf53 fu ((s (a + 4) x1.toNatClampNeg) - (s (a + 4) x1.toNatClampNeg) / (10 : Int32) * (10 : Int32)) ((s (a + 3) x1.toNatClampNeg) - (s (a + 3) x1.toNatClampNeg) / (10 : Int32) * (10 : Int32))))) l))))))))

set_option maxRecDepth 100000 in
set_option maxHeartbeats 1000000 in
theorem lp_X9_walk_2 {G : ab_G} {fu : Nat} {d : Nat} {D : fl_D} {a : Nat} (hya : isY D a) : ∀ (n : Nat) (x1 : Int32) (s : fl_I) (l : fl_L), p_X9_walk_2 fu n x1 a s l → ab_C G (d + 1) 0 0 M_X9_walk 2 [some (.ref a), some (.int x1), none, none, none, none] [] (hp D s l) (rt none (hp D (f_X9_walk_2 fu n x1 a s l).1 (f_X9_walk_2 fu n x1 a s l).2)) := by
  intro n
  induction n with
  | zero => intro x1 s l hk; exact hk.elim
  | succ n ih =>
    intro x1 s l hk
    generalize he : f_X9_walk_2 fu (n + 1) x1 a s l = res
    unfold f_X9_walk_2 at he
    unfold p_X9_walk_2 at hk
    refine r_iload_n rfl rfl ?_
    refine r_aload_n rfl rfl ?_
    refine q_getfield rfl (cY_0 hya) rfl ?_
    refine r_icmp_ge rfl (fun c_7 => ?_) (fun c_7 => ?_)
    · rw [if_pos c_7] at he
      replace hk := hk.1 c_7
      refine r_ret rfl rfl ?_
      first | with_reducible exact fin_v he | exact fin_v he
    · rw [if_neg c_7] at he
      replace hk := hk.2 c_7
      refine r_aload_n rfl rfl ?_
      refine q_getfield rfl (cY_0 hya) rfl ?_
      refine r_iload_n rfl rfl ?_
      obtain ⟨hb0, hk⟩ := hk
      refine q_iald rfl (cY_4 hya) hb0 ?_
      refine r_istore_n rfl (Nat.le_of_ble_eq_true rfl) rfl ?_
      refine r_aload_n rfl rfl ?_
      refine q_getfield rfl (cY_0 hya) rfl ?_
      refine r_iload_n rfl rfl ?_
      obtain ⟨hb1, hk⟩ := hk
      refine q_iald rfl (cY_3 hya) hb1 ?_
      refine r_istore_n rfl (Nat.le_of_ble_eq_true rfl) rfl ?_
      refine r_iload_n rfl rfl ?_
      refine r_bipush_ (a := -2) rfl (by decide) ?_
      refine r_icmp_ne rfl (fun c_27 => ?_) (fun c_27 => ?_)
      · rw [if_neg c_27] at he
        replace hk := hk.2 c_27
        refine r_iload_n rfl rfl ?_
        refine r_bipush_ (a := 10) rfl (by decide) ?_
        refine r_irem rfl (by decide) ?_
        refine r_iload_n rfl rfl ?_
        refine r_bipush_ (a := 10) rfl (by decide) ?_
        refine r_irem rfl (by decide) ?_
        obtain ⟨hb2, hk⟩ := hk
        refine r_callS0 [_, _] _ rfl kY_J6_compare_7cf53 kT_J6_compare_7cf53 rfl rfl (Nat.le_of_ble_eq_true rfl) (Nat.le_of_ble_eq_true rfl) (s_J6_compare_7cf53 hb2) (fun r h q => ?_)
        obtain ⟨rfl, rfl⟩ := q
        simp only [Option.toList, List.cons_append, List.nil_append]
        refine r_istore rfl (Nat.le_of_ble_eq_true rfl) rfl ?_
        refine r_iload_n rfl rfl ?_
        refine r_bipush_ (a := 10) rfl (by decide) ?_
        refine r_idiv rfl (by decide) ?_
        refine r_iload_n rfl rfl ?_
        refine r_bipush_ (a := 10) rfl (by decide) ?_
        refine r_idiv rfl (by decide) ?_
        obtain ⟨hb3, hk⟩ := hk
        refine r_callS0 [_, _] _ rfl kY_J6_compare_7cf53 kT_J6_compare_7cf53 rfl rfl (Nat.le_of_ble_eq_true rfl) (Nat.le_of_ble_eq_true rfl) (s_J6_compare_7cf53 hb3) (fun r h q => ?_)
        obtain ⟨rfl, rfl⟩ := q
        simp only [Option.toList, List.cons_append, List.nil_append]
        refine r_istore rfl (Nat.le_of_ble_eq_true rfl) rfl ?_
        refine r_aload_n rfl rfl ?_
        refine q_getfield rfl (cY_0 hya) rfl ?_
        refine r_iload_n rfl rfl ?_
        refine r_iload rfl rfl ?_
        refine r_if_eq rfl (fun c_66 => ?_) (fun c_66 => ?_)
        · rw [if_pos c_66] at he
          replace hk := hk.1 c_66
          refine r_iload_n rfl rfl ?_
          refine r_bipush_ (a := 10) rfl (by decide) ?_
          refine r_iload rfl rfl ?_
          refine r_imul rfl ?_
          refine r_iadd rfl ?_
          obtain ⟨hb4, hk⟩ := hk
          refine w_iast rfl (cY_3 hya) hb4 ?_
          refine r_aload_n rfl rfl ?_
          refine q_getfield rfl (cY_0 hya) rfl ?_
          refine r_iload_n rfl rfl ?_
          obtain ⟨hb5, hk⟩ := hk
          refine q_iald rfl (cY_3 hya) hb5 ?_
          refine r_iload_n rfl rfl ?_
          refine r_icmp_ne rfl (fun c_91 => ?_) (fun c_91 => ?_)
          · rw [if_neg c_91] at he
            replace hk := hk.2 c_91
            refine r_iinc (b := x1 + 1) rfl rfl rfl (Nat.le_of_ble_eq_true rfl) rfl ?_
            refine r_goto rfl ?_
            subst he
            exact r_weak (L1 := [some (.ref a), some (.int (x1 + 1)), none, none, none, none]) ⟨rfl, rfl, trivial⟩ (ih _ _ _ hk)
          · rw [if_pos c_91] at he
            replace hk := hk.1 c_91
            refine r_aload_n rfl rfl ?_
            refine q_getfield rfl (cY_0 hya) rfl ?_
            refine r_iload_n rfl rfl ?_
            refine r_bipush_ (a := -2) rfl (by decide) ?_
            obtain ⟨hb6, hk⟩ := hk
            refine w_iast rfl (cY_4 hya) hb6 ?_
            refine r_iinc (b := x1 + 1) rfl rfl rfl (Nat.le_of_ble_eq_true rfl) rfl ?_
            refine r_goto rfl ?_
            subst he
            exact r_weak (L1 := [some (.ref a), some (.int (x1 + 1)), none, none, none, none]) ⟨rfl, rfl, trivial⟩ (ih _ _ _ hk)
        · rw [if_neg c_66] at he
          replace hk := hk.2 c_66
          refine r_iload_n rfl rfl ?_
          refine r_iload rfl rfl ?_
          refine r_iadd rfl ?_
          refine r_goto rfl ?_
          obtain ⟨hb7, hk⟩ := hk
          refine w_iast rfl (cY_3 hya) hb7 ?_
          refine r_aload_n rfl rfl ?_
          refine q_getfield rfl (cY_0 hya) rfl ?_
          refine r_iload_n rfl rfl ?_
          obtain ⟨hb8, hk⟩ := hk
          refine q_iald rfl (cY_3 hya) hb8 ?_
          refine r_iload_n rfl rfl ?_
          refine r_icmp_ne rfl (fun c_91 => ?_) (fun c_91 => ?_)
          · rw [if_neg c_91] at he
            replace hk := hk.2 c_91
            refine r_iinc (b := x1 + 1) rfl rfl rfl (Nat.le_of_ble_eq_true rfl) rfl ?_
            refine r_goto rfl ?_
            subst he
            exact r_weak (L1 := [some (.ref a), some (.int (x1 + 1)), none, none, none, none]) ⟨rfl, rfl, trivial⟩ (ih _ _ _ hk)
          · rw [if_pos c_91] at he
            replace hk := hk.1 c_91
            refine r_aload_n rfl rfl ?_
            refine q_getfield rfl (cY_0 hya) rfl ?_
            refine r_iload_n rfl rfl ?_
            refine r_bipush_ (a := -2) rfl (by decide) ?_
            obtain ⟨hb9, hk⟩ := hk
            refine w_iast rfl (cY_4 hya) hb9 ?_
            refine r_iinc (b := x1 + 1) rfl rfl rfl (Nat.le_of_ble_eq_true rfl) rfl ?_
            refine r_goto rfl ?_
            subst he
            exact r_weak (L1 := [some (.ref a), some (.int (x1 + 1)), none, none, none, none]) ⟨rfl, rfl, trivial⟩ (ih _ _ _ hk)
      · rw [if_pos c_27] at he
        replace hk := hk.1 c_27
        refine r_goto rfl ?_
        refine r_iinc (b := x1 + 1) rfl rfl rfl (Nat.le_of_ble_eq_true rfl) rfl ?_
        refine r_goto rfl ?_
        subst he
        exact r_weak (L1 := [some (.ref a), some (.int (x1 + 1)), none, none, none, none]) ⟨rfl, rfl, trivial⟩ (ih _ _ _ hk)

def f_X9_walk (fu : Nat) (a : Nat) (s : fl_I) (l : fl_L) : fl_I × fl_L :=
  f_X9_walk_2 fu fu (0 : Int32) a s l

def p_X9_walk (fu : Nat) (a : Nat) (s : fl_I) (l : fl_L) : Prop :=
  p_X9_walk_2 fu fu (0 : Int32) a s l

set_option maxRecDepth 100000 in
set_option maxHeartbeats 1000000 in
theorem s_X9_walk {G : ab_G} {fu : Nat} {d : Nat} {D : fl_D} {s : fl_I} {l : fl_L} {a : Nat} (hya : isY D a)  (hk : p_X9_walk fu a s l) : ab_C G (d + 1) 0 0 M_X9_walk 0 (ab_ent [.ref a]) [] (hp D s l) (rt none (hp D (f_X9_walk fu a s l).1 (f_X9_walk fu a s l).2)) := by
  generalize he : (f_X9_walk fu a s l) = res
  unfold f_X9_walk at he
  unfold p_X9_walk at hk
  refine r_weak (L1 := [some (.ref a), none, none, none, none, none]) ⟨rfl, trivial⟩ ?_
  refine r_iconst_ (a := 0) rfl (by decide) ?_
  refine r_istore_n rfl (Nat.le_of_ble_eq_true rfl) rfl ?_
  subst he
  exact r_weak (L1 := [some (.ref a), some (.int (0 : Int32)), none, none, none, none]) ⟨rfl, rfl, trivial⟩ (lp_X9_walk_2 hya fu _ _ _ hk)

def f_X12_plain_57 (fu : Nat) : Nat → Int32 → Int32 → fl_I → fl_L → fl_I × fl_L
  | 0, x1, x2, s, l => (s, l)
  | n + 1, x1, x2, s, l =>
    if ((3 : Int32) ≤ x2) then (s, l) else f_X12_plain_57 fu n x1 (x2 + 1) (wi (wi s 82 (((3 : Int32) * x1) + x2).toNatClampNeg (0 : Int32)) 83 (((3 : Int32) * x1) + x2).toNatClampNeg (0 : Int32)) l

def p_X12_plain_57 (fu : Nat) : Nat → Int32 → Int32 → fl_I → fl_L → Prop
  | 0, _, _, _, _ => False
  | n + 1, x1, x2, s, l =>
    ((((3 : Int32) ≤ x2) → True) ∧ (¬ ((3 : Int32) ≤ x2) → (vp_in (((3 : Int32) * x1) + x2) 6) ∧ (vp_in (((3 : Int32) * x1) + x2) 6) ∧ p_X12_plain_57 fu n x1 (x2 + 1) (wi (wi s 82 (((3 : Int32) * x1) + x2).toNatClampNeg (0 : Int32)) 83 (((3 : Int32) * x1) + x2).toNatClampNeg (0 : Int32)) l))

set_option maxRecDepth 100000 in
set_option maxHeartbeats 1000000 in
theorem lp_X12_plain_57 {G : ab_G} {fu : Nat} {d : Nat} {D : fl_D} : ∀ (n : Nat) (x1 : Int32) (x2 : Int32) (s : fl_I) (l : fl_L), p_X12_plain_57 fu n x1 x2 s l → ab_C G d 0 0 M_X12_plain 57 [some (.ref 60), some (.int x1), some (.int x2)] [] (hp D s l) (rt none (hp D (f_X12_plain_57 fu n x1 x2 s l).1 (f_X12_plain_57 fu n x1 x2 s l).2)) := by
  intro n
  induction n with
  | zero => intro x1 x2 s l hk; exact hk.elim
  | succ n ih =>
    intro x1 x2 s l hk
    generalize he : f_X12_plain_57 fu (n + 1) x1 x2 s l = res
    unfold f_X12_plain_57 at he
    unfold p_X12_plain_57 at hk
    refine r_iload_n rfl rfl ?_
    refine r_iconst_ (a := 3) rfl (by decide) ?_
    refine r_icmp_ge rfl (fun c_59 => ?_) (fun c_59 => ?_)
    · rw [if_pos c_59] at he
      replace hk := hk.1 c_59
      refine r_ret rfl rfl ?_
      first | with_reducible exact fin_v he | exact fin_v he
    · rw [if_neg c_59] at he
      replace hk := hk.2 c_59
      refine r_aload_n rfl rfl ?_
      refine q_getfield rfl (cc_60 _) rfl ?_
      refine r_iconst_ (a := 3) rfl (by decide) ?_
      refine r_iload_n rfl rfl ?_
      refine r_imul rfl ?_
      refine r_iload_n rfl rfl ?_
      refine r_iadd rfl ?_
      refine r_iconst_ (a := 0) rfl (by decide) ?_
      obtain ⟨hb7, hk⟩ := hk
      refine w_iast rfl (cc_82 _) hb7 ?_
      refine r_aload_n rfl rfl ?_
      refine q_getfield rfl (cc_60 _) rfl ?_
      refine r_iconst_ (a := 3) rfl (by decide) ?_
      refine r_iload_n rfl rfl ?_
      refine r_imul rfl ?_
      refine r_iload_n rfl rfl ?_
      refine r_iadd rfl ?_
      refine r_iconst_ (a := 0) rfl (by decide) ?_
      obtain ⟨hb8, hk⟩ := hk
      refine w_iast rfl (cc_83 _) hb8 ?_
      refine r_iinc (b := x2 + 1) rfl rfl rfl (Nat.le_of_ble_eq_true rfl) rfl ?_
      refine r_goto rfl ?_
      subst he
      exact r_weak (L1 := [some (.ref 60), some (.int x1), some (.int (x2 + 1))]) ⟨rfl, rfl, rfl, trivial⟩ (ih _ _ _ _ hk)

def f_X12_plain (fu : Nat) (v0 : Int32) (s : fl_I) (l : fl_L) : fl_I × fl_L :=
  f_X12_plain_57 fu fu v0 (0 : Int32) (wi (wi (wi (wi (wi (wi (wi s 68 v0.toNatClampNeg (0 : Int32)) 72 v0.toNatClampNeg (0 : Int32)) 74 v0.toNatClampNeg (0 : Int32)) 79 ((2 : Int32) * v0).toNatClampNeg (1 : Int32)) 79 (((2 : Int32) * v0) + (1 : Int32)).toNatClampNeg (0 : Int32)) 80 v0.toNatClampNeg (0 : Int32)) 81 v0.toNatClampNeg (0 : Int32)) l

def p_X12_plain (fu : Nat) (v0 : Int32) (s : fl_I) (l : fl_L) : Prop :=
  (vp_in v0 2) ∧ (vp_in v0 2) ∧ (vp_in v0 2) ∧ (vp_in ((2 : Int32) * v0) 4) ∧ (vp_in (((2 : Int32) * v0) + (1 : Int32)) 4) ∧ (vp_in v0 2) ∧ (vp_in v0 2) ∧ p_X12_plain_57 fu fu v0 (0 : Int32) (wi (wi (wi (wi (wi (wi (wi s 68 v0.toNatClampNeg (0 : Int32)) 72 v0.toNatClampNeg (0 : Int32)) 74 v0.toNatClampNeg (0 : Int32)) 79 ((2 : Int32) * v0).toNatClampNeg (1 : Int32)) 79 (((2 : Int32) * v0) + (1 : Int32)).toNatClampNeg (0 : Int32)) 80 v0.toNatClampNeg (0 : Int32)) 81 v0.toNatClampNeg (0 : Int32)) l

set_option maxRecDepth 100000 in
set_option maxHeartbeats 1000000 in
theorem s_X12_plain {G : ab_G} {fu : Nat} {d : Nat} {D : fl_D} {s : fl_I} {l : fl_L} {v0 : Int32} (hk : p_X12_plain fu v0 s l) : ab_C G d 0 0 M_X12_plain 0 (ab_ent [.ref 60, .int v0]) [] (hp D s l) (rt none (hp D (f_X12_plain fu v0 s l).1 (f_X12_plain fu v0 s l).2)) := by
  generalize he : (f_X12_plain fu v0 s l) = res
  unfold f_X12_plain at he
  unfold p_X12_plain at hk
  refine r_weak (L1 := [some (.ref 60), some (.int v0), none]) ⟨rfl, rfl, trivial⟩ ?_
  refine r_aload_n rfl rfl ?_
  refine q_getfield rfl (cc_60 _) rfl ?_
  refine r_iload_n rfl rfl ?_
  refine r_iconst_ (a := 0) rfl (by decide) ?_
  obtain ⟨hb0, hk⟩ := hk
  refine w_iast rfl (cc_68 _) hb0 ?_
  refine r_aload_n rfl rfl ?_
  refine q_getfield rfl (cc_60 _) rfl ?_
  refine r_iload_n rfl rfl ?_
  refine r_iconst_ (a := 0) rfl (by decide) ?_
  obtain ⟨hb1, hk⟩ := hk
  refine w_iast rfl (cc_72 _) hb1 ?_
  refine r_aload_n rfl rfl ?_
  refine q_getfield rfl (cc_60 _) rfl ?_
  refine r_iload_n rfl rfl ?_
  refine r_iconst_ (a := 0) rfl (by decide) ?_
  obtain ⟨hb2, hk⟩ := hk
  refine w_iast rfl (cc_74 _) hb2 ?_
  refine r_aload_n rfl rfl ?_
  refine q_getfield rfl (cc_60 _) rfl ?_
  refine r_iconst_ (a := 2) rfl (by decide) ?_
  refine r_iload_n rfl rfl ?_
  refine r_imul rfl ?_
  refine r_iconst_ (a := 1) rfl (by decide) ?_
  obtain ⟨hb3, hk⟩ := hk
  refine w_iast rfl (cc_79 _) hb3 ?_
  refine r_aload_n rfl rfl ?_
  refine q_getfield rfl (cc_60 _) rfl ?_
  refine r_iconst_ (a := 2) rfl (by decide) ?_
  refine r_iload_n rfl rfl ?_
  refine r_imul rfl ?_
  refine r_iconst_ (a := 1) rfl (by decide) ?_
  refine r_iadd rfl ?_
  refine r_iconst_ (a := 0) rfl (by decide) ?_
  obtain ⟨hb4, hk⟩ := hk
  refine w_iast rfl (cc_79 _) hb4 ?_
  refine r_aload_n rfl rfl ?_
  refine q_getfield rfl (cc_60 _) rfl ?_
  refine r_iload_n rfl rfl ?_
  refine r_iconst_ (a := 0) rfl (by decide) ?_
  obtain ⟨hb5, hk⟩ := hk
  refine w_iast rfl (cc_80 _) hb5 ?_
  refine r_aload_n rfl rfl ?_
  refine q_getfield rfl (cc_60 _) rfl ?_
  refine r_iload_n rfl rfl ?_
  refine r_iconst_ (a := 0) rfl (by decide) ?_
  obtain ⟨hb6, hk⟩ := hk
  refine w_iast rfl (cc_81 _) hb6 ?_
  refine r_iconst_ (a := 0) rfl (by decide) ?_
  refine r_istore_n rfl (Nat.le_of_ble_eq_true rfl) rfl ?_
  subst he
  exact r_weak (L1 := [some (.ref 60), some (.int v0), some (.int (0 : Int32))]) ⟨rfl, rfl, rfl, trivial⟩ (lp_X12_plain_57 fu _ _ _ _ hk)

