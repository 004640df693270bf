def f_X12_read_214 (fu : Nat) : Nat → Int32 → fl_I → fl_L → Int32 × fl_I × fl_L
  | 0, x1, s, l => (0, s, l)
  | n + 1, x1, s, l =>
    if ((3 : Int32) ≤ x1) then ((0 : Int32), s, l) else f_X12_read_214 fu n (x1 + 1) (wi s 105 x1.toNatClampNeg (vp_nar .boolean (0 : Int32))) l

def p_X12_read_214 (fu : Nat) : Nat → Int32 → fl_I → fl_L → Prop
  | 0, _, _, _ => False
  | n + 1, x1, s, l =>
    ((((3 : Int32) ≤ x1) → True) ∧ (¬ ((3 : Int32) ≤ x1) → (vp_in x1 3) ∧ p_X12_read_214 fu n (x1 + 1) (wi s 105 x1.toNatClampNeg (vp_nar .boolean (0 : Int32))) l))

set_option maxRecDepth 100000 in
set_option maxHeartbeats 1000000 in
theorem lp_X12_read_214 {G : ab_G} {fu : Nat} {d : Nat} {D : fl_D} : ∀ (n : Nat) (x1 : Int32) (s : fl_I) (l : fl_L), p_X12_read_214 fu n x1 s l → ab_C G (d + 7) 0 0 M_X12_read 214 [some (.ref 60), some (.int x1)] [] (hp D s l) (rt (some (.int (f_X12_read_214 fu n x1 s l).1)) (hp D (f_X12_read_214 fu n x1 s l).2.1 (f_X12_read_214 fu n x1 s l).2.2)) := by
  intro n
  induction n with
  | zero => intro x1 s l hk; exact hk.elim
  | succ n ih =>
    intro x1 s l hk
    generalize he : f_X12_read_214 fu (n + 1) x1 s l = res
    unfold f_X12_read_214 at he
    unfold p_X12_read_214 at hk
    refine r_iload_n rfl rfl ?_
    refine r_iconst_ (a := 3) rfl (by decide) ?_
    refine r_icmp_ge rfl (fun c_216 => ?_) (fun c_216 => ?_)
    · rw [if_pos c_216] at he
      replace hk := hk.1 c_216
      refine r_iconst_ (a := 0) rfl (by decide) ?_
      refine r_iret rfl rfl rfl ?_
      first | with_reducible exact fin_i he | exact fin_i he
    · rw [if_neg c_216] at he
      replace hk := hk.2 c_216
      refine r_aload_n rfl rfl ?_
      refine q_getfield rfl (cc_60 _) rfl ?_
      refine r_iload_n rfl rfl ?_
      refine r_iconst_ (a := 0) rfl (by decide) ?_
      obtain ⟨hb4, hk⟩ := hk
      refine w_zast rfl (cc_105 _) hb4 ?_
      refine r_iinc (b := x1 + 1) rfl rfl rfl (Nat.le_of_ble_eq_true rfl) rfl ?_
      refine r_goto rfl ?_
      subst he
      exact r_weak (L1 := [some (.ref 60), some (.int (x1 + 1))]) ⟨rfl, rfl, trivial⟩ (ih _ _ _ hk)

def f_X12_read_202 (fu : Nat) (s : fl_I) (l : fl_L) : Int32 × fl_I × fl_L :=
    f_X12_read_214 fu fu (0 : Int32) (wi (wi s 60 58 (0 : Int32)) 60 65 (0 : Int32)) l

def p_X12_read_202 (fu : Nat) (s : fl_I) (l : fl_L) : Prop :=
    p_X12_read_214 fu fu (0 : Int32) (wi (wi s 60 58 (0 : Int32)) 60 65 (0 : Int32)) l

set_option maxRecDepth 100000 in
set_option maxHeartbeats 1000000 in
theorem lp_X12_read_202 {G : ab_G} {fu : Nat} {d : Nat} {D : fl_D} : ∀ (s : fl_I) (l : fl_L), p_X12_read_202 fu  s l → ab_C G (d + 7) 0 0 M_X12_read 202 [some (.ref 60), none] [] (hp D s l) (rt (some (.int (f_X12_read_202 fu  s l).1)) (hp D (f_X12_read_202 fu  s l).2.1 (f_X12_read_202 fu  s l).2.2)) := by
  intro  s l hk
  generalize he : f_X12_read_202 fu  s l = res
  unfold f_X12_read_202 at he
  unfold p_X12_read_202 at hk
  refine r_aload_n rfl rfl ?_
  refine r_iconst_ (a := 0) rfl (by decide) ?_
  refine w_put rfl (cc_60 _) ff_12_58 ft_12_58 (fun _ _ => (Nat.le_of_ble_eq_true rfl)) (fun _ _ => rfl) ?_
  refine r_aload_n rfl rfl ?_
  refine r_iconst_ (a := 0) rfl (by decide) ?_
  refine w_put rfl (cc_60 _) ff_12_65 ft_12_65 (fun _ _ => (Nat.le_of_ble_eq_true rfl)) (fun _ _ => rfl) ?_
  refine r_iconst_ (a := 0) rfl (by decide) ?_
  refine r_istore_n rfl (Nat.le_of_ble_eq_true rfl) rfl ?_
  subst he
  exact r_weak (L1 := [some (.ref 60), some (.int (0 : Int32))]) ⟨rfl, rfl, trivial⟩ (lp_X12_read_214 fu _ _ _ hk)

def f_X12_read_198 (fu : Nat) (s : fl_I) (l : fl_L) : Int32 × fl_I × fl_L :=
    f_X12_read_202 fu  (f_X12_keepsRow fu s l).1 (f_X12_keepsRow fu s l).2

def p_X12_read_198 (fu : Nat) (s : fl_I) (l : fl_L) : Prop :=
    (p_X12_keepsRow fu s l) ∧ p_X12_read_202 fu  (f_X12_keepsRow fu s l).1 (f_X12_keepsRow fu s l).2

set_option maxRecDepth 100000 in
set_option maxHeartbeats 1000000 in
theorem lp_X12_read_198 {G : ab_G} {fu : Nat} {d : Nat} {D : fl_D} : ∀ (s : fl_I) (l : fl_L), p_X12_read_198 fu  s l → ab_C G (d + 7) 0 0 M_X12_read 198 [some (.ref 60), none] [] (hp D s l) (rt (some (.int (f_X12_read_198 fu  s l).1)) (hp D (f_X12_read_198 fu  s l).2.1 (f_X12_read_198 fu  s l).2.2)) := by
  intro  s l hk
  generalize he : f_X12_read_198 fu  s l = res
  unfold f_X12_read_198 at he
  unfold p_X12_read_198 at hk
  refine r_aload_n rfl rfl ?_
  obtain ⟨hb3, hk⟩ := hk
  refine q_callV0 [] _ rfl kY_X12_keepsRow kT_X12_keepsRow rfl rfl (Nat.le_of_ble_eq_true rfl) (Nat.le_of_ble_eq_true rfl) (cc_60 _) (s_X12_keepsRow hb3) (fun r h q => ?_)
  obtain ⟨rfl, rfl⟩ := q
  simp only [Option.toList, List.cons_append, List.nil_append]
  subst he
  exact r_weak (L1 := [some (.ref 60), none]) ⟨rfl, trivial⟩ (lp_X12_read_202 _ _ hk)

def f_X12_read_129 (fu : Nat) (s : fl_I) (l : fl_L) : Int32 × fl_I × fl_L :=
    if ((s 60 13) ≤ 0) then if ((s 60 15) ≤ 0) then if (((wi s 60 17 (-1 : Int32)) 60 13) ≤ 0) then if (((wi s 60 17 (-1 : Int32)) 60 15) ≤ 0) then f_X12_read_198 fu  (f_X12_begins fu (wi (wi s 60 17 (-1 : Int32)) 60 18 ((wi s 60 17 (-1 : Int32)) 60 19)) l).1 (f_X12_begins fu (wi (wi s 60 17 (-1 : Int32)) 60 18 ((wi s 60 17 (-1 : Int32)) 60 19)) l).2 else (((wi s 60 17 (-1 : Int32)) 60 15), (wi s 60 17 (-1 : Int32)), l) else (((wi s 60 17 (-1 : Int32)) 60 13), (wi s 60 17 (-1 : Int32)), l) else if (((wi s 60 17 (s 60 16)) 60 13) ≤ 0) then if (((wi s 60 17 (s 60 16)) 60 15) ≤ 0) then f_X12_read_198 fu  (f_X12_begins fu (wi (wi s 60 17 (s 60 16)) 60 18 ((wi s 60 17 (s 60 16)) 60 19)) l).1 (f_X12_begins fu (wi (wi s 60 17 (s 60 16)) 60 18 ((wi s 60 17 (s 60 16)) 60 19)) l).2 else (((wi s 60 17 (s 60 16)) 60 15), (wi s 60 17 (s 60 16)), l) else (((wi s 60 17 (s 60 16)) 60 13), (wi s 60 17 (s 60 16)), l) else if (((wi s 60 17 (s 60 14)) 60 13) ≤ 0) then if (((wi s 60 17 (s 60 14)) 60 15) ≤ 0) then f_X12_read_198 fu  (f_X12_begins fu (wi (wi s 60 17 (s 60 14)) 60 18 ((wi s 60 17 (s 60 14)) 60 19)) l).1 (f_X12_begins fu (wi (wi s 60 17 (s 60 14)) 60 18 ((wi s 60 17 (s 60 14)) 60 19)) l).2 else (((wi s 60 17 (s 60 14)) 60 15), (wi s 60 17 (s 60 14)), l) else (((wi s 60 17 (s 60 14)) 60 13), (wi s 60 17 (s 60 14)), l)

def p_X12_read_129 (fu : Nat) (s : fl_I) (l : fl_L) : Prop :=
    ((((s 60 13) ≤ 0) → ((((s 60 15) ≤ 0) → (((((wi s 60 17 (-1 : Int32)) 60 13) ≤ 0) → (((((wi s 60 17 (-1 : Int32)) 60 15) ≤ 0) → (p_X12_begins fu (wi (wi s 60 17 (-1 : Int32)) 60 18 ((wi s 60 17 (-1 : Int32)) 60 19)) l) ∧ p_X12_read_198 fu  (f_X12_begins fu (wi (wi s 60 17 (-1 : Int32)) 60 18 ((wi s 60 17 (-1 : Int32)) 60 19)) l).1 (f_X12_begins fu (wi (wi s 60 17 (-1 : Int32)) 60 18 ((wi s 60 17 (-1 : Int32)) 60 19)) l).2) ∧ (¬ (((wi s 60 17 (-1 : Int32)) 60 15) ≤ 0) → True))) ∧ (¬ (((wi s 60 17 (-1 : Int32)) 60 13) ≤ 0) → True))) ∧ (¬ ((s 60 15) ≤ 0) → (((((wi s 60 17 (s 60 16)) 60 13) ≤ 0) → (((((wi s 60 17 (s 60 16)) 60 15) ≤ 0) → (p_X12_begins fu (wi (wi s 60 17 (s 60 16)) 60 18 ((wi s 60 17 (s 60 16)) 60 19)) l) ∧ p_X12_read_198 fu  (f_X12_begins fu (wi (wi s 60 17 (s 60 16)) 60 18 ((wi s 60 17 (s 60 16)) 60 19)) l).1 (f_X12_begins fu (wi (wi s 60 17 (s 60 16)) 60 18 ((wi s 60 17 (s 60 16)) 60 19)) l).2) ∧ (¬ (((wi s 60 17 (s 60 16)) 60 15) ≤ 0) → True))) ∧ (¬ (((wi s 60 17 (s 60 16)) 60 13) ≤ 0) → True))))) ∧ (¬ ((s 60 13) ≤ 0) → (((((wi s 60 17 (s 60 14)) 60 13) ≤ 0) → (((((wi s 60 17 (s 60 14)) 60 15) ≤ 0) → (p_X12_begins fu (wi (wi s 60 17 (s 60 14)) 60 18 ((wi s 60 17 (s 60 14)) 60 19)) l) ∧ p_X12_read_198 fu  (f_X12_begins fu (wi (wi s 60 17 (s 60 14)) 60 18 ((wi s 60 17 (s 60 14)) 60 19)) l).1 (f_X12_begins fu (wi (wi s 60 17 (s 60 14)) 60 18 ((wi s 60 17 (s 60 14)) 60 19)) l).2) ∧ (¬ (((wi s 60 17 (s 60 14)) 60 15) ≤ 0) → True))) ∧ (¬ (((wi s 60 17 (s 60 14)) 60 13) ≤ 0) → True))))

set_option maxRecDepth 100000 in
set_option maxHeartbeats 1000000 in
theorem lp_X12_read_129 {G : ab_G} {fu : Nat} {d : Nat} {D : fl_D} : ∀ (s : fl_I) (l : fl_L), p_X12_read_129 fu  s l → ab_C G (d + 7) 0 0 M_X12_read 129 [some (.ref 60), none] [] (hp D s l) (rt (some (.int (f_X12_read_129 fu  s l).1)) (hp D (f_X12_read_129 fu  s l).2.1 (f_X12_read_129 fu  s l).2.2)) := by
  intro  s l hk
  generalize he : f_X12_read_129 fu  s l = res
  unfold f_X12_read_129 at he
  unfold p_X12_read_129 at hk
  refine r_aload_n rfl rfl ?_
  refine r_aload_n rfl rfl ?_
  refine q_getfield rfl (cc_60 _) rfl ?_
  refine r_if_le rfl (fun c_134 => ?_) (fun c_134 => ?_)
  · rw [if_pos c_134] at he
    replace hk := hk.1 c_134
    refine r_aload_n rfl rfl ?_
    refine q_getfield rfl (cc_60 _) rfl ?_
    refine r_if_le rfl (fun c_148 => ?_) (fun c_148 => ?_)
    · rw [if_pos c_148] at he
      replace hk := hk.1 c_148
      refine r_iconst_ (a := -1) rfl (by decide) ?_
      refine w_put rfl (cc_60 _) ff_12_17 ft_12_17 (fun _ _ => (Nat.le_of_ble_eq_true rfl)) (fun _ _ => rfl) ?_
      refine r_aload_n rfl rfl ?_
      refine q_getfield rfl (cc_60 _) rfl ?_
      refine r_if_le rfl (fun c_166 => ?_) (fun c_166 => ?_)
      · rw [if_pos c_166] at he
        replace hk := hk.1 c_166
        refine r_aload_n rfl rfl ?_
        refine q_getfield rfl (cc_60 _) rfl ?_
        refine r_if_le rfl (fun c_178 => ?_) (fun c_178 => ?_)
        · rw [if_pos c_178] at he
          replace hk := hk.1 c_178
          refine r_aload_n rfl rfl ?_
          refine r_aload_n rfl rfl ?_
          refine q_getfield rfl (cc_60 _) rfl ?_
          refine w_put rfl (cc_60 _) ff_12_18 ft_12_18 (fun _ _ => (Nat.le_of_ble_eq_true rfl)) (fun _ _ => rfl) ?_
          refine r_aload_n rfl rfl ?_
          obtain ⟨hb2, hk⟩ := hk
          refine q_callV0 [] _ rfl kY_X12_begins kT_X12_begins rfl rfl (Nat.le_of_ble_eq_true rfl) (Nat.le_of_ble_eq_true rfl) (cc_60 _) (s_X12_begins hb2) (fun r h q => ?_)
          obtain ⟨rfl, rfl⟩ := q
          simp only [Option.toList, List.cons_append, List.nil_append]
          subst he
          exact r_weak (L1 := [some (.ref 60), none]) ⟨rfl, trivial⟩ (lp_X12_read_198 _ _ hk)
        · rw [if_neg c_178] at he
          replace hk := hk.2 c_178
          refine r_aload_n rfl rfl ?_
          refine q_getfield rfl (cc_60 _) rfl ?_
          refine r_iret rfl rfl rfl ?_
          first | with_reducible exact fin_i he | exact fin_i he
      · rw [if_neg c_166] at he
        replace hk := hk.2 c_166
        refine r_aload_n rfl rfl ?_
        refine q_getfield rfl (cc_60 _) rfl ?_
        refine r_iret rfl rfl rfl ?_
        first | with_reducible exact fin_i he | exact fin_i he
    · rw [if_neg c_148] at he
      replace hk := hk.2 c_148
      refine r_aload_n rfl rfl ?_
      refine q_getfield rfl (cc_60 _) rfl ?_
      refine r_goto rfl ?_
      refine w_put rfl (cc_60 _) ff_12_17 ft_12_17 (fun _ _ => (Nat.le_of_ble_eq_true rfl)) (fun _ _ => rfl) ?_
      refine r_aload_n rfl rfl ?_
      refine q_getfield rfl (cc_60 _) rfl ?_
      refine r_if_le rfl (fun c_166 => ?_) (fun c_166 => ?_)
      · rw [if_pos c_166] at he
        replace hk := hk.1 c_166
        refine r_aload_n rfl rfl ?_
        refine q_getfield rfl (cc_60 _) rfl ?_
        refine r_if_le rfl (fun c_178 => ?_) (fun c_178 => ?_)
        · rw [if_pos c_178] at he
          replace hk := hk.1 c_178
          refine r_aload_n rfl rfl ?_
          refine r_aload_n rfl rfl ?_
          refine q_getfield rfl (cc_60 _) rfl ?_
          refine w_put rfl (cc_60 _) ff_12_18 ft_12_18 (fun _ _ => (Nat.le_of_ble_eq_true rfl)) (fun _ _ => rfl) ?_
          refine r_aload_n rfl rfl ?_
          obtain ⟨hb5, hk⟩ := hk
          refine q_callV0 [] _ rfl kY_X12_begins kT_X12_begins rfl rfl (Nat.le_of_ble_eq_true rfl) (Nat.le_of_ble_eq_true rfl) (cc_60 _) (s_X12_begins hb5) (fun r h q => ?_)
          obtain ⟨rfl, rfl⟩ := q
          simp only [Option.toList, List.cons_append, List.nil_append]
          subst he
          exact r_weak (L1 := [some (.ref 60), none]) ⟨rfl, trivial⟩ (lp_X12_read_198 _ _ hk)
        · rw [if_neg c_178] at he
          replace hk := hk.2 c_178
          refine r_aload_n rfl rfl ?_
          refine q_getfield rfl (cc_60 _) rfl ?_
          refine r_iret rfl rfl rfl ?_
          first | with_reducible exact fin_i he | exact fin_i he
      · rw [if_neg c_166] at he
        replace hk := hk.2 c_166
        refine r_aload_n rfl rfl ?_
        refine q_getfield rfl (cc_60 _) rfl ?_
        refine r_iret rfl rfl rfl ?_
        first | with_reducible exact fin_i he | exact fin_i he
  · rw [if_neg c_134] at he
    replace hk := hk.2 c_134
    refine r_aload_n rfl rfl ?_
    refine q_getfield rfl (cc_60 _) rfl ?_
    refine r_goto rfl ?_
    refine w_put rfl (cc_60 _) ff_12_17 ft_12_17 (fun _ _ => (Nat.le_of_ble_eq_true rfl)) (fun _ _ => rfl) ?_
    refine r_aload_n rfl rfl ?_
    refine q_getfield rfl (cc_60 _) rfl ?_
    refine r_if_le rfl (fun c_166 => ?_) (fun c_166 => ?_)
    · rw [if_pos c_166] at he
      replace hk := hk.1 c_166
      refine r_aload_n rfl rfl ?_
      refine q_getfield rfl (cc_60 _) rfl ?_
      refine r_if_le rfl (fun c_178 => ?_) (fun c_178 => ?_)
      · rw [if_pos c_178] at he
        replace hk := hk.1 c_178
        refine r_aload_n rfl rfl ?_
        refine r_aload_n rfl rfl ?_
        refine q_getfield rfl (cc_60 _) rfl ?_
        refine w_put rfl (cc_60 _) ff_12_18 ft_12_18 (fun _ _ => (Nat.le_of_ble_eq_true rfl)) (fun _ _ => rfl) ?_
        refine r_aload_n rfl rfl ?_
        obtain ⟨hb6, hk⟩ := hk
        refine q_callV0 [] _ rfl kY_X12_begins kT_X12_begins rfl rfl (Nat.le_of_ble_eq_true rfl) (Nat.le_of_ble_eq_true rfl) (cc_60 _) (s_X12_begins hb6) (fun r h q => ?_)
        obtain ⟨rfl, rfl⟩ := q
        simp only [Option.toList, List.cons_append, List.nil_append]
        subst he
        exact r_weak (L1 := [some (.ref 60), none]) ⟨rfl, trivial⟩ (lp_X12_read_198 _ _ hk)
      · rw [if_neg c_178] at he
        replace hk := hk.2 c_178
        refine r_aload_n rfl rfl ?_
        refine q_getfield rfl (cc_60 _) rfl ?_
        refine r_iret rfl rfl rfl ?_
        first | with_reducible exact fin_i he | exact fin_i he
    · rw [if_neg c_166] at he
      replace hk := hk.2 c_166
      refine r_aload_n rfl rfl ?_
      refine q_getfield rfl (cc_60 _) rfl ?_
      refine r_iret rfl rfl rfl ?_
      first | with_reducible exact fin_i he | exact fin_i he

def f_X12_read_126 (fu : Nat) (K107 : fl_I → fl_L → Int32 × fl_I × fl_L) (s : fl_I) (l : fl_L) : Int32 × fl_I × fl_L :=
    K107  s l

def p_X12_read_126 (fu : Nat) (P107 : fl_I → fl_L → Prop) (s : fl_I) (l : fl_L) : Prop :=
    P107  s l

set_option maxRecDepth 100000 in
set_option maxHeartbeats 1000000 in
theorem lp_X12_read_126 {G : ab_G} {fu : Nat} {d : Nat} {D : fl_D} (K107 : fl_I → fl_L → Int32 × fl_I × fl_L) (P107 : fl_I → fl_L → Prop) (hK107 : ∀  (s : fl_I) (l : fl_L), P107  s l → ab_C G (d + 7) 0 0 M_X12_read 107 [some (.ref 60), none] [] (hp D s l) (rt (some (.int (K107  s l).1)) (hp D (K107  s l).2.1 (K107  s l).2.2))) : ∀ (s : fl_I) (l : fl_L), p_X12_read_126 fu P107  s l → ab_C G (d + 7) 0 0 M_X12_read 126 [some (.ref 60), none] [] (hp D s l) (rt (some (.int (f_X12_read_126 fu K107  s l).1)) (hp D (f_X12_read_126 fu K107  s l).2.1 (f_X12_read_126 fu K107  s l).2.2)) := by
  intro  s l hk
  generalize he : f_X12_read_126 fu K107  s l = res
  unfold f_X12_read_126 at he
  unfold p_X12_read_126 at hk
  refine r_goto rfl ?_
  subst he
  exact r_weak (L1 := [some (.ref 60), none]) ⟨rfl, trivial⟩ (hK107 _ _ hk)

def f_X12_read_107 (fu : Nat) : Nat → fl_I → fl_L → Int32 × fl_I × fl_L
  | 0, s, l => (0, s, l)
  | n + 1, s, l =>
    if ((s 60 13) = 0) then if ((f_X12_is fu (0 : Int32) s l) = 0) then f_X12_read_126 fu (fun  s l => f_X12_read_107 fu n  s l)  (f_X12_tellOne fu s l).1 (f_X12_tellOne fu s l).2 else f_X12_read_129 fu  s l else f_X12_read_129 fu  s l

def p_X12_read_107 (fu : Nat) : Nat → fl_I → fl_L → Prop
  | 0, _, _ => False
  | n + 1, s, l =>
    ((((s 60 13) = 0) → (p_X12_is fu (0 : Int32) s l) ∧ ((((f_X12_is fu (0 : Int32) s l) = 0) → (p_X12_tellOne fu s l) ∧ p_X12_read_126 fu (fun  s l => p_X12_read_107 fu n  s l)  (f_X12_tellOne fu s l).1 (f_X12_tellOne fu s l).2) ∧ (¬ ((f_X12_is fu (0 : Int32) s l) = 0) → p_X12_read_129 fu  s l))) ∧ (¬ ((s 60 13) = 0) → p_X12_read_129 fu  s l))

set_option maxRecDepth 100000 in
set_option maxHeartbeats 1000000 in
theorem lp_X12_read_107 {G : ab_G} {fu : Nat} {d : Nat} {D : fl_D} : ∀ (n : Nat) (s : fl_I) (l : fl_L), p_X12_read_107 fu n  s l → ab_C G (d + 7) 0 0 M_X12_read 107 [some (.ref 60), none] [] (hp D s l) (rt (some (.int (f_X12_read_107 fu n  s l).1)) (hp D (f_X12_read_107 fu n  s l).2.1 (f_X12_read_107 fu n  s l).2.2)) := by
  intro n
  induction n with
  | zero => intro  s l hk; exact hk.elim
  | succ n ih =>
    intro  s l hk
    generalize he : f_X12_read_107 fu (n + 1)  s l = res
    unfold f_X12_read_107 at he
    unfold p_X12_read_107 at hk
    refine r_aload_n rfl rfl ?_
    refine q_getfield rfl (cc_60 _) rfl ?_
    refine r_if_ne rfl (fun c_111 => ?_) (fun c_111 => ?_)
    · rw [if_neg c_111] at he
      replace hk := hk.2 c_111
      subst he
      exact r_weak (L1 := [some (.ref 60), none]) ⟨rfl, trivial⟩ (lp_X12_read_129 _ _ hk)
    · rw [if_pos c_111] at he
      replace hk := hk.1 c_111
      refine r_aload_n rfl rfl ?_
      refine r_iconst_ (a := 0) rfl (by decide) ?_
      obtain ⟨hb7, hk⟩ := hk
      refine q_callV0 [_] _ rfl kY_X12_is kT_X12_is rfl rfl (Nat.le_of_ble_eq_true rfl) (Nat.le_of_ble_eq_true rfl) (cc_60 _) (s_X12_is hb7) (fun r h q => ?_)
      obtain ⟨rfl, rfl⟩ := q
      simp only [Option.toList, List.cons_append, List.nil_append]
      refine r_if_ne rfl (fun c_119 => ?_) (fun c_119 => ?_)
      · rw [if_neg c_119] at he
        replace hk := hk.2 c_119
        subst he
        exact r_weak (L1 := [some (.ref 60), none]) ⟨rfl, trivial⟩ (lp_X12_read_129 _ _ hk)
      · rw [if_pos c_119] at he
        replace hk := hk.1 c_119
        refine r_aload_n rfl rfl ?_
        obtain ⟨hb8, hk⟩ := hk
        refine q_callV0 [] _ rfl kY_X12_tellOne kT_X12_tellOne rfl rfl (Nat.le_of_ble_eq_true rfl) (Nat.le_of_ble_eq_true rfl) (cc_60 _) (s_X12_tellOne hb8) (fun r h q => ?_)
        obtain ⟨rfl, rfl⟩ := q
        simp only [Option.toList, List.cons_append, List.nil_append]
        subst he
        exact r_weak (L1 := [some (.ref 60), none]) ⟨rfl, trivial⟩ (lp_X12_read_126 _ _ (fun _ _ h9 => ih _ _ h9) _ _ hk)

def f_X12_read_83 (fu : Nat) (s : fl_I) (l : fl_L) : Int32 × fl_I × fl_L :=
    f_X12_read_107 fu fu  (wi (wi s 60 36 ((130 : Int32) * (s 60 19))) 60 42 ((420 : Int32) * ((wi s 60 36 ((130 : Int32) * (s 60 19))) 60 19))) l

def p_X12_read_83 (fu : Nat) (s : fl_I) (l : fl_L) : Prop :=
    p_X12_read_107 fu fu  (wi (wi s 60 36 ((130 : Int32) * (s 60 19))) 60 42 ((420 : Int32) * ((wi s 60 36 ((130 : Int32) * (s 60 19))) 60 19))) l

set_option maxRecDepth 100000 in
set_option maxHeartbeats 1000000 in
theorem lp_X12_read_83 {G : ab_G} {fu : Nat} {d : Nat} {D : fl_D} : ∀ (s : fl_I) (l : fl_L), p_X12_read_83 fu  s l → ab_C G (d + 7) 0 0 M_X12_read 83 [some (.ref 60), none] [] (hp D s l) (rt (some (.int (f_X12_read_83 fu  s l).1)) (hp D (f_X12_read_83 fu  s l).2.1 (f_X12_read_83 fu  s l).2.2)) := by
  intro  s l hk
  generalize he : f_X12_read_83 fu  s l = res
  unfold f_X12_read_83 at he
  unfold p_X12_read_83 at hk
  refine r_aload_n rfl rfl ?_
  refine r_sipush_ (a := 130) rfl (by decide) ?_
  refine r_aload_n rfl rfl ?_
  refine q_getfield rfl (cc_60 _) rfl ?_
  refine r_imul rfl ?_
  refine w_put rfl (cc_60 _) ff_12_36 ft_12_36 (fun _ _ => (Nat.le_of_ble_eq_true rfl)) (fun _ _ => rfl) ?_
  refine r_aload_n rfl rfl ?_
  refine r_sipush_ (a := 420) rfl (by decide) ?_
  refine r_aload_n rfl rfl ?_
  refine q_getfield rfl (cc_60 _) rfl ?_
  refine r_imul rfl ?_
  refine w_put rfl (cc_60 _) ff_12_42 ft_12_42 (fun _ _ => (Nat.le_of_ble_eq_true rfl)) (fun _ _ => rfl) ?_
  subst he
  exact r_weak (L1 := [some (.ref 60), none]) ⟨rfl, trivial⟩ (lp_X12_read_107 fu _ _ hk)

def f_X12_read_45 (fu : Nat) (s : fl_I) (l : fl_L) : Int32 × fl_I × fl_L :=
    f_X12_read_83 fu  (f_X12_plain fu ((wi (wi (wi (wi (wi s 60 11 (0 : Int32)) 60 12 (0 : Int32)) 60 13 (0 : Int32)) 60 15 (0 : Int32)) 60 19 ((1 : Int32) - ((wi (wi (wi (wi s 60 11 (0 : Int32)) 60 12 (0 : Int32)) 60 13 (0 : Int32)) 60 15 (0 : Int32)) 60 18))) 60 19) (wi (wi (wi (wi (wi s 60 11 (0 : Int32)) 60 12 (0 : Int32)) 60 13 (0 : Int32)) 60 15 (0 : Int32)) 60 19 ((1 : Int32) - ((wi (wi (wi (wi s 60 11 (0 : Int32)) 60 12 (0 : Int32)) 60 13 (0 : Int32)) 60 15 (0 : Int32)) 60 18))) l).1 (f_X12_plain fu ((wi (wi (wi (wi (wi s 60 11 (0 : Int32)) 60 12 (0 : Int32)) 60 13 (0 : Int32)) 60 15 (0 : Int32)) 60 19 ((1 : Int32) - ((wi (wi (wi (wi s 60 11 (0 : Int32)) 60 12 (0 : Int32)) 60 13 (0 : Int32)) 60 15 (0 : Int32)) 60 18))) 60 19) (wi (wi (wi (wi (wi s 60 11 (0 : Int32)) 60 12 (0 : Int32)) 60 13 (0 : Int32)) 60 15 (0 : Int32)) 60 19 ((1 : Int32) - ((wi (wi (wi (wi s 60 11 (0 : Int32)) 60 12 (0 : Int32)) 60 13 (0 : Int32)) 60 15 (0 : Int32)) 60 18))) l).2

def p_X12_read_45 (fu : Nat) (s : fl_I) (l : fl_L) : Prop :=
    (p_X12_plain fu ((wi (wi (wi (wi (wi s 60 11 (0 : Int32)) 60 12 (0 : Int32)) 60 13 (0 : Int32)) 60 15 (0 : Int32)) 60 19 ((1 : Int32) - ((wi (wi (wi (wi s 60 11 (0 : Int32)) 60 12 (0 : Int32)) 60 13 (0 : Int32)) 60 15 (0 : Int32)) 60 18))) 60 19) (wi (wi (wi (wi (wi s 60 11 (0 : Int32)) 60 12 (0 : Int32)) 60 13 (0 : Int32)) 60 15 (0 : Int32)) 60 19 ((1 : Int32) - ((wi (wi (wi (wi s 60 11 (0 : Int32)) 60 12 (0 : Int32)) 60 13 (0 : Int32)) 60 15 (0 : Int32)) 60 18))) l) ∧ p_X12_read_83 fu  (f_X12_plain fu ((wi (wi (wi (wi (wi s 60 11 (0 : Int32)) 60 12 (0 : Int32)) 60 13 (0 : Int32)) 60 15 (0 : Int32)) 60 19 ((1 : Int32) - ((wi (wi (wi (wi s 60 11 (0 : Int32)) 60 12 (0 : Int32)) 60 13 (0 : Int32)) 60 15 (0 : Int32)) 60 18))) 60 19) (wi (wi (wi (wi (wi s 60 11 (0 : Int32)) 60 12 (0 : Int32)) 60 13 (0 : Int32)) 60 15 (0 : Int32)) 60 19 ((1 : Int32) - ((wi (wi (wi (wi s 60 11 (0 : Int32)) 60 12 (0 : Int32)) 60 13 (0 : Int32)) 60 15 (0 : Int32)) 60 18))) l).1 (f_X12_plain fu ((wi (wi (wi (wi (wi s 60 11 (0 : Int32)) 60 12 (0 : Int32)) 60 13 (0 : Int32)) 60 15 (0 : Int32)) 60 19 ((1 : Int32) - ((wi (wi (wi (wi s 60 11 (0 : Int32)) 60 12 (0 : Int32)) 60 13 (0 : Int32)) 60 15 (0 : Int32)) 60 18))) 60 19) (wi (wi (wi (wi (wi s 60 11 (0 : Int32)) 60 12 (0 : Int32)) 60 13 (0 : Int32)) 60 15 (0 : Int32)) 60 19 ((1 : Int32) - ((wi (wi (wi (wi s 60 11 (0 : Int32)) 60 12 (0 : Int32)) 60 13 (0 : Int32)) 60 15 (0 : Int32)) 60 18))) l).2

set_option maxRecDepth 100000 in
set_option maxHeartbeats 1000000 in
theorem lp_X12_read_45 {G : ab_G} {fu : Nat} {d : Nat} {D : fl_D} : ∀ (s : fl_I) (l : fl_L), p_X12_read_45 fu  s l → ab_C G (d + 7) 0 0 M_X12_read 45 [some (.ref 60), none] [] (hp D s l) (rt (some (.int (f_X12_read_45 fu  s l).1)) (hp D (f_X12_read_45 fu  s l).2.1 (f_X12_read_45 fu  s l).2.2)) := by
  intro  s l hk
  generalize he : f_X12_read_45 fu  s l = res
  unfold f_X12_read_45 at he
  unfold p_X12_read_45 at hk
  refine r_aload_n rfl rfl ?_
  refine r_iconst_ (a := 0) rfl (by decide) ?_
  refine w_put rfl (cc_60 _) ff_12_11 ft_12_11 (fun _ _ => (Nat.le_of_ble_eq_true rfl)) (fun _ _ => rfl) ?_
  refine r_aload_n rfl rfl ?_
  refine r_iconst_ (a := 0) rfl (by decide) ?_
  refine w_put rfl (cc_60 _) ff_12_12 ft_12_12 (fun _ _ => (Nat.le_of_ble_eq_true rfl)) (fun _ _ => rfl) ?_
  refine r_aload_n rfl rfl ?_
  refine r_iconst_ (a := 0) rfl (by decide) ?_
  refine w_put rfl (cc_60 _) ff_12_13 ft_12_13 (fun _ _ => (Nat.le_of_ble_eq_true rfl)) (fun _ _ => rfl) ?_
  refine r_aload_n rfl rfl ?_
  refine r_iconst_ (a := 0) rfl (by decide) ?_
  refine w_put rfl (cc_60 _) ff_12_15 ft_12_15 (fun _ _ => (Nat.le_of_ble_eq_true rfl)) (fun _ _ => rfl) ?_
  refine r_aload_n rfl rfl ?_
  refine r_iconst_ (a := 1) rfl (by decide) ?_
  refine r_aload_n rfl rfl ?_
  refine q_getfield rfl (cc_60 _) rfl ?_
  refine r_isub rfl ?_
  refine w_put rfl (cc_60 _) ff_12_19 ft_12_19 (fun _ _ => (Nat.le_of_ble_eq_true rfl)) (fun _ _ => rfl) ?_
  refine r_aload_n rfl rfl ?_
  refine r_aload_n rfl rfl ?_
  refine q_getfield rfl (cc_60 _) rfl ?_
  obtain ⟨hb1, hk⟩ := hk
  refine q_callV0 [_] _ rfl kY_X12_plain kT_X12_plain rfl rfl (Nat.le_of_ble_eq_true rfl) (Nat.le_of_ble_eq_true rfl) (cc_60 _) (s_X12_plain hb1) (fun r h q => ?_)
  obtain ⟨rfl, rfl⟩ := q
  simp only [Option.toList, List.cons_append, List.nil_append]
  subst he
  exact r_weak (L1 := [some (.ref 60), none]) ⟨rfl, trivial⟩ (lp_X12_read_83 _ _ hk)

def f_X12_read_10 (fu : Nat) : Nat → Int32 → fl_I → fl_L → Int32 × fl_I × fl_L
  | 0, x1, s, l => (0, s, l)
  | n + 1, x1, s, l =>
    if ((s 60 4) ≤ x1) then f_X12_read_45 fu  (f_X12_cut fu (wi s 60 2 (0 : Int32)) l).1 (f_X12_cut fu (wi s 60 2 (0 : Int32)) l).2 else f_X12_read_10 fu n (x1 + 1) (wi s 62 x1.toNatClampNeg (vp_nar .byte (s 61 x1.toNatClampNeg))) l

def p_X12_read_10 (fu : Nat) : Nat → Int32 → fl_I → fl_L → Prop
  | 0, _, _, _ => False
  | n + 1, x1, s, l =>
    ((((s 60 4) ≤ x1) → (p_X12_cut fu (wi s 60 2 (0 : Int32)) l) ∧ p_X12_read_45 fu  (f_X12_cut fu (wi s 60 2 (0 : Int32)) l).1 (f_X12_cut fu (wi s 60 2 (0 : Int32)) l).2) ∧ (¬ ((s 60 4) ≤ x1) → (vp_in x1 2000) ∧ (vp_in x1 2000) ∧ p_X12_read_10 fu n (x1 + 1) (wi s 62 x1.toNatClampNeg (vp_nar .byte (s 61 x1.toNatClampNeg))) l))

set_option maxRecDepth 100000 in
set_option maxHeartbeats 1000000 in
theorem lp_X12_read_10 {G : ab_G} {fu : Nat} {d : Nat} {D : fl_D} : ∀ (n : Nat) (x1 : Int32) (s : fl_I) (l : fl_L), p_X12_read_10 fu n x1 s l → ab_C G (d + 7) 0 0 M_X12_read 10 [some (.ref 60), some (.int x1)] [] (hp D s l) (rt (some (.int (f_X12_read_10 fu n x1 s l).1)) (hp D (f_X12_read_10 fu n x1 s l).2.1 (f_X12_read_10 fu n x1 s l).2.2)) := by
  intro n
  induction n with
  | zero => intro x1 s l hk; exact hk.elim
  | succ n ih =>
    intro x1 s l hk
    generalize he : f_X12_read_10 fu (n + 1) x1 s l = res
    unfold f_X12_read_10 at he
    unfold p_X12_read_10 at hk
    refine r_iload_n rfl rfl ?_
    refine r_aload_n rfl rfl ?_
    refine q_getfield rfl (cc_60 _) rfl ?_
    refine r_icmp_ge rfl (fun c_15 => ?_) (fun c_15 => ?_)
    · rw [if_pos c_15] at he
      replace hk := hk.1 c_15
      refine r_aload_n rfl rfl ?_
      refine r_iconst_ (a := 0) rfl (by decide) ?_
      refine w_put rfl (cc_60 _) ff_12_2 ft_12_2 (fun _ _ => (Nat.le_of_ble_eq_true rfl)) (fun _ _ => rfl) ?_
      refine r_aload_n rfl rfl ?_
      obtain ⟨hb0, hk⟩ := hk
      refine q_callV0 [] _ rfl kY_X12_cut kT_X12_cut rfl rfl (Nat.le_of_ble_eq_true rfl) (Nat.le_of_ble_eq_true rfl) (cc_60 _) (s_X12_cut hb0) (fun r h q => ?_)
      obtain ⟨rfl, rfl⟩ := q
      simp only [Option.toList, List.cons_append, List.nil_append]
      subst he
      exact r_weak (L1 := [some (.ref 60), none]) ⟨rfl, trivial⟩ (lp_X12_read_45 _ _ hk)
    · rw [if_neg c_15] at he
      replace hk := hk.2 c_15
      refine r_aload_n rfl rfl ?_
      refine q_getfield rfl (cc_60 _) rfl ?_
      refine r_iload_n rfl rfl ?_
      refine r_aload_n rfl rfl ?_
      refine q_getfield rfl (cc_60 _) rfl ?_
      refine r_iload_n rfl rfl ?_
      obtain ⟨hb9, hk⟩ := hk
      refine q_bald rfl (cc_61 _) hb9 ?_
      obtain ⟨hb10, hk⟩ := hk
      refine w_bast rfl (cc_62 _) hb10 ?_
      refine r_iinc (b := x1 + 1) rfl rfl rfl (Nat.le_of_ble_eq_true rfl) rfl ?_
      refine r_goto rfl ?_
      subst he
      exact r_weak (L1 := [some (.ref 60), some (.int (x1 + 1))]) ⟨rfl, rfl, trivial⟩ (ih _ _ _ hk)

def f_X12_read (fu : Nat) (s : fl_I) (l : fl_L) : Int32 × fl_I × fl_L :=
  f_X12_read_10 fu fu (0 : Int32) (wi s 60 4 (s 60 2)) l

def p_X12_read (fu : Nat) (s : fl_I) (l : fl_L) : Prop :=
  p_X12_read_10 fu fu (0 : Int32) (wi s 60 4 (s 60 2)) l

set_option maxRecDepth 100000 in
set_option maxHeartbeats 1000000 in
theorem s_X12_read {G : ab_G} {fu : Nat} {d : Nat} {D : fl_D} {s : fl_I} {l : fl_L}  (hk : p_X12_read fu s l) : ab_C G (d + 7) 0 0 M_X12_read 0 (ab_ent [.ref 60]) [] (hp D s l) (rt (some (.int (f_X12_read fu s l).1)) (hp D (f_X12_read fu s l).2.1 (f_X12_read fu s l).2.2)) := by
  generalize he : (f_X12_read fu s l) = res
  unfold f_X12_read at he
  unfold p_X12_read at hk
  refine r_weak (L1 := [some (.ref 60), none]) ⟨rfl, trivial⟩ ?_
  refine r_aload_n rfl rfl ?_
  refine r_aload_n rfl rfl ?_
  refine q_getfield rfl (cc_60 _) rfl ?_
  refine w_put rfl (cc_60 _) ff_12_4 ft_12_4 (fun _ _ => (Nat.le_of_ble_eq_true rfl)) (fun _ _ => rfl) ?_
  refine r_iconst_ (a := 0) rfl (by decide) ?_
  refine r_istore_n rfl (Nat.le_of_ble_eq_true rfl) rfl ?_
  subst he
  exact r_weak (L1 := [some (.ref 60), some (.int (0 : Int32))]) ⟨rfl, rfl, trivial⟩ (lp_X12_read_10 fu _ _ _ hk)

def f_X11_made (fu : Nat) (v0 : Int32) (D : fl_D) (s : fl_I) (l : fl_L) : Int32 × fl_I × fl_L :=
  if ((f_X11_isHeap fu v0 s l) = 0) then ((-1 : Int32), s, l) else ((f_X0_makes fu (if D.2.2.1 then 20 else 9) (f_X0_gather fu v0 (if D.2.2.1 then 20 else 9) 31 s l).1 (f_X0_gather fu v0 (if D.2.2.1 then 20 else 9) 31 s l).2).1, (f_X0_makes fu (if D.2.2.1 then 20 else 9) (f_X0_gather fu v0 (if D.2.2.1 then 20 else 9) 31 s l).1 (f_X0_gather fu v0 (if D.2.2.1 then 20 else 9) 31 s l).2).2.1, (f_X0_makes fu (if D.2.2.1 then 20 else 9) (f_X0_gather fu v0 (if D.2.2.1 then 20 else 9) 31 s l).1 (f_X0_gather fu v0 (if D.2.2.1 then 20 else 9) 31 s l).2).2.2)

def p_X11_made (fu : Nat) (v0 : Int32) (D : fl_D) (s : fl_I) (l : fl_L) : Prop :=
  (p_X11_isHeap fu v0 s l) ∧ ((((f_X11_isHeap fu v0 s l) = 0) → True) ∧ (¬ ((f_X11_isHeap fu v0 s l) = 0) → (p_X0_gather fu v0 (if D.2.2.1 then 20 else 9) 31 s l) ∧ (p_X0_makes fu (if D.2.2.1 then 20 else 9) (f_X0_gather fu v0 (if D.2.2.1 then 20 else 9) 31 s l).1 (f_X0_gather fu v0 (if D.2.2.1 then 20 else 9) 31 s l).2) ∧ True))

set_option maxRecDepth 100000 in
set_option maxHeartbeats 1000000 in
theorem s_X11_made {G : ab_G} {fu : Nat} {d : Nat} {D : fl_D} {s : fl_I} {l : fl_L} {v0 : Int32} (hk : p_X11_made fu v0 D s l) : ab_C G (d + 5) 0 0 M_X11_made 0 (ab_ent [.ref 0, .int v0]) [] (hp D s l) (rt (some (.int (f_X11_made fu v0 D s l).1)) (hp D (f_X11_made fu v0 D s l).2.1 (f_X11_made fu v0 D s l).2.2)) := by
  generalize he : (f_X11_made fu v0 D s l) = res
  unfold f_X11_made at he
  unfold p_X11_made at hk
  refine r_weak (L1 := [some (.ref 0), some (.int v0)]) ⟨rfl, rfl, trivial⟩ ?_
  refine r_aload_n rfl rfl ?_
  refine r_iload_n rfl rfl ?_
  obtain ⟨hb0, hk⟩ := hk
  refine q_callV0 [_] _ rfl kY_X11_isHeap kT_X11_isHeap rfl rfl (Nat.le_of_ble_eq_true rfl) (Nat.le_of_ble_eq_true rfl) (cc_0 _) (s_X11_isHeap hb0) (fun r h q => ?_)
  obtain ⟨rfl, rfl⟩ := q
  simp only [Option.toList, List.cons_append, List.nil_append]
  refine r_if_ne rfl (fun c_5 => ?_) (fun c_5 => ?_)
  · rw [if_neg c_5] at he
    replace hk := hk.2 c_5
    refine r_aload_n rfl rfl ?_
    refine q_getfield rfl (cc_0 _) rfl ?_
    refine r_aload_n rfl rfl ?_
    refine q_getfield rfl (cc_0 _) rfl ?_
    refine r_aload_n rfl rfl ?_
    refine q_getfield rfl (cc_0 _) rfl ?_
    refine r_iload_n rfl rfl ?_
    obtain ⟨hb1, hk⟩ := hk
    refine q_callV0 [_, _, _] _ rfl kY_X0_gather kT_X0_gather rfl rfl (Nat.le_of_ble_eq_true rfl) (Nat.le_of_ble_eq_true rfl) (cc_55 _) (s_X0_gather (isT_l _) (Or.inl rfl) hb1) (fun r h q => ?_)
    obtain ⟨rfl, rfl⟩ := q
    simp only [Option.toList, List.cons_append, List.nil_append]
    refine r_aload_n rfl rfl ?_
    refine q_getfield rfl (cc_0 _) rfl ?_
    refine r_aload_n rfl rfl ?_
    refine q_getfield rfl (cc_0 _) rfl ?_
    obtain ⟨hb2, hk⟩ := hk
    refine q_callV0 [_] _ rfl kY_X0_makes kT_X0_makes rfl rfl (Nat.le_of_ble_eq_true rfl) (Nat.le_of_ble_eq_true rfl) (cc_55 _) (s_X0_makes (isT_l _) hb2) (fun r h q => ?_)
    obtain ⟨rfl, rfl⟩ := q
    simp only [Option.toList, List.cons_append, List.nil_append]
    refine r_iret rfl rfl rfl ?_
    first | with_reducible exact fin_i he | exact fin_i he
  · rw [if_pos c_5] at he
    replace hk := hk.1 c_5
    refine r_iconst_ (a := -1) rfl (by decide) ?_
    refine r_iret rfl rfl rfl ?_
    first | with_reducible exact fin_i he | exact fin_i he

def f_X11_ask (fu : Nat) (v0 : Int32) (D : fl_D) (s : fl_I) (l : fl_L) : Int32 :=
  if (v0 < 0) then (-1 : Int32) else if (v0 ≤ (s 57 0)) then (f_X7_bestQuestion fu (f_X7_left fu v0 (if D.2.2.1 then 20 else 9) s l) (if D.2.2.1 then 20 else 9) s l) else (-1 : Int32)

def p_X11_ask (fu : Nat) (v0 : Int32) (D : fl_D) (s : fl_I) (l : fl_L) : Prop :=
  (((v0 < 0) → True) ∧ (¬ (v0 < 0) → (((v0 ≤ (s 57 0)) → (p_X7_left fu v0 (if D.2.2.1 then 20 else 9) s l) ∧ (p_X7_bestQuestion fu (f_X7_left fu v0 (if D.2.2.1 then 20 else 9) s l) (if D.2.2.1 then 20 else 9) s l) ∧ True) ∧ (¬ (v0 ≤ (s 57 0)) → True))))

set_option maxRecDepth 100000 in
set_option maxHeartbeats 1000000 in
theorem s_X11_ask {G : ab_G} {fu : Nat} {d : Nat} {D : fl_D} {s : fl_I} {l : fl_L} {v0 : Int32} (hk : p_X11_ask fu v0 D s l) : ab_C G (d + 4) 0 0 M_X11_ask 0 (ab_ent [.ref 0, .int v0]) [] (hp D s l) (rt (some (.int (f_X11_ask fu v0 D s l))) (hp D s l)) := by
  generalize he : (f_X11_ask fu v0 D s l) = res
  unfold f_X11_ask at he
  unfold p_X11_ask at hk
  refine r_weak (L1 := [some (.ref 0), some (.int v0)]) ⟨rfl, rfl, trivial⟩ ?_
  refine r_iload_n rfl rfl ?_
  refine r_if_lt rfl (fun c_1 => ?_) (fun c_1 => ?_)
  · rw [if_pos c_1] at he
    replace hk := hk.1 c_1
    refine r_iconst_ (a := -1) rfl (by decide) ?_
    refine r_iret rfl rfl rfl ?_
    first | with_reducible exact fin_ri he | exact fin_ri he
  · rw [if_neg c_1] at he
    replace hk := hk.2 c_1
    refine r_iload_n rfl rfl ?_
    refine r_aload_n rfl rfl ?_
    refine q_getfield rfl (cc_0 _) rfl ?_
    refine q_getfield rfl (cc_57 _) rfl ?_
    refine r_icmp_le rfl (fun c_12 => ?_) (fun c_12 => ?_)
    · rw [if_pos c_12] at he
      replace hk := hk.1 c_12
      refine r_aload_n rfl rfl ?_
      refine q_getfield rfl (cc_0 _) rfl ?_
      refine r_aload_n rfl rfl ?_
      refine q_getfield rfl (cc_0 _) rfl ?_
      refine r_aload_n rfl rfl ?_
      refine q_getfield rfl (cc_0 _) rfl ?_
      refine r_aload_n rfl rfl ?_
      refine q_getfield rfl (cc_0 _) rfl ?_
      refine r_iload_n rfl rfl ?_
      obtain ⟨hb0, hk⟩ := hk
      refine q_callV0 [_, _] _ rfl kY_X7_left kT_X7_left rfl rfl (Nat.le_of_ble_eq_true rfl) (Nat.le_of_ble_eq_true rfl) (cc_57 _) (s_X7_left (isT_l _) hb0) (fun r h q => ?_)
      obtain ⟨rfl, rfl⟩ := q
      simp only [Option.toList, List.cons_append, List.nil_append]
      obtain ⟨hb1, hk⟩ := hk
      refine q_callV0 [_, _] _ rfl kY_X7_bestQuestion kT_X7_bestQuestion rfl rfl (Nat.le_of_ble_eq_true rfl) (Nat.le_of_ble_eq_true rfl) (cc_57 _) (s_X7_bestQuestion (isT_l _) hb1) (fun r h q => ?_)
      obtain ⟨rfl, rfl⟩ := q
      simp only [Option.toList, List.cons_append, List.nil_append]
      refine r_iret rfl rfl rfl ?_
      first | with_reducible exact fin_ri he | exact fin_ri he
    · rw [if_neg c_12] at he
      replace hk := hk.2 c_12
      refine r_iconst_ (a := -1) rfl (by decide) ?_
      refine r_iret rfl rfl rfl ?_
      first | with_reducible exact fin_ri he | exact fin_ri he

def f_X11_owedToAll_4 (fu : Nat) : Nat → Int32 → Int32 → fl_D → fl_I → fl_L → Int32 × fl_I × fl_L
  | 0, x1, x2, D, s, l => (0, s, l)
  | n + 1, x1, x2, D, s, l =>
    if ((s 31 2) ≤ x2) then (x1, s, l) else f_X11_owedToAll_4 fu n (x1 + (f_X9_owed fu x2 (if D.2.2.1 then 20 else 9) 31 s l).1) (x2 + 1) D (f_X9_owed fu x2 (if D.2.2.1 then 20 else 9) 31 s l).2.1 (f_X9_owed fu x2 (if D.2.2.1 then 20 else 9) 31 s l).2.2

def p_X11_owedToAll_4 (fu : Nat) : Nat → Int32 → Int32 → fl_D → fl_I → fl_L → Prop
  | 0, _, _, _, _, _ => False
  | n + 1, x1, x2, D, s, l =>
    ((((s 31 2) ≤ x2) → True) ∧ (¬ ((s 31 2) ≤ x2) → (p_X9_owed fu x2 (if D.2.2.1 then 20 else 9) 31 s l) ∧ p_X11_owedToAll_4 fu n (x1 + (f_X9_owed fu x2 (if D.2.2.1 then 20 else 9) 31 s l).1) (x2 + 1) D (f_X9_owed fu x2 (if D.2.2.1 then 20 else 9) 31 s l).2.1 (f_X9_owed fu x2 (if D.2.2.1 then 20 else 9) 31 s l).2.2))

set_option maxRecDepth 100000 in
set_option maxHeartbeats 1000000 in
theorem lp_X11_owedToAll_4 {G : ab_G} {fu : Nat} {d : Nat} {D : fl_D} : ∀ (n : Nat) (x1 : Int32) (x2 : Int32) (s : fl_I) (l : fl_L), p_X11_owedToAll_4 fu n x1 x2 D s l → ab_C G (d + 4) 0 0 M_X11_owedToAll 4 [some (.ref 0), some (.int x1), some (.int x2)] [] (hp D s l) (rt (some (.int (f_X11_owedToAll_4 fu n x1 x2 D s l).1)) (hp D (f_X11_owedToAll_4 fu n x1 x2 D s l).2.1 (f_X11_owedToAll_4 fu n x1 x2 D s l).2.2)) := by
  intro n
  induction n with
  | zero => intro x1 x2 s l hk; exact hk.elim
  | succ n ih =>
    intro x1 x2 s l hk
    generalize he : f_X11_owedToAll_4 fu (n + 1) x1 x2 D s l = res
    unfold f_X11_owedToAll_4 at he
    unfold p_X11_owedToAll_4 at hk
    refine r_iload_n rfl rfl ?_
    refine r_aload_n rfl rfl ?_
    refine q_getfield rfl (cc_0 _) rfl ?_
    refine q_getfield rfl (cc_31 _) rfl ?_
    refine r_icmp_ge rfl (fun c_12 => ?_) (fun c_12 => ?_)
    · rw [if_pos c_12] at he
      replace hk := hk.1 c_12
      refine r_iload_n rfl rfl ?_
      refine r_iret rfl rfl rfl ?_
      first | with_reducible exact fin_i he | exact fin_i he
    · rw [if_neg c_12] at he
      replace hk := hk.2 c_12
      refine r_iload_n rfl rfl ?_
      refine r_aload_n rfl rfl ?_
      refine q_getfield rfl (cc_0 _) rfl ?_
      refine r_aload_n rfl rfl ?_
      refine q_getfield rfl (cc_0 _) rfl ?_
      refine r_aload_n rfl rfl ?_
      refine q_getfield rfl (cc_0 _) rfl ?_
      refine r_iload_n rfl rfl ?_
      obtain ⟨hb0, hk⟩ := hk
      refine q_callV0 [_, _, _] _ rfl kY_X9_owed kT_X9_owed rfl rfl (Nat.le_of_ble_eq_true rfl) (Nat.le_of_ble_eq_true rfl) (cc_46 _) (s_X9_owed (isT_l _) (Or.inl rfl) hb0) (fun r h q => ?_)
      obtain ⟨rfl, rfl⟩ := q
      simp only [Option.toList, List.cons_append, List.nil_append]
      refine r_iadd rfl ?_
      refine r_istore_n rfl (Nat.le_of_ble_eq_true rfl) rfl ?_
      refine r_iinc (b := x2 + 1) rfl rfl rfl (Nat.le_of_ble_eq_true rfl) rfl ?_
      refine r_goto rfl ?_
      subst he
      exact r_weak (L1 := [some (.ref 0), some (.int (x1 + (f_X9_owed fu x2 (if D.2.2.1 then 20 else 9) 31 s l).1)), some (.int (x2 + 1))]) ⟨rfl, rfl, rfl, trivial⟩ (ih _ _ _ _ hk)

def f_X11_owedToAll (fu : Nat) (D : fl_D) (s : fl_I) (l : fl_L) : Int32 × fl_I × fl_L :=
  f_X11_owedToAll_4 fu fu (0 : Int32) (0 : Int32) D s l

def p_X11_owedToAll (fu : Nat) (D : fl_D) (s : fl_I) (l : fl_L) : Prop :=
  p_X11_owedToAll_4 fu fu (0 : Int32) (0 : Int32) D s l

set_option maxRecDepth 100000 in
set_option maxHeartbeats 1000000 in
theorem s_X11_owedToAll {G : ab_G} {fu : Nat} {d : Nat} {D : fl_D} {s : fl_I} {l : fl_L}  (hk : p_X11_owedToAll fu D s l) : ab_C G (d + 4) 0 0 M_X11_owedToAll 0 (ab_ent [.ref 0]) [] (hp D s l) (rt (some (.int (f_X11_owedToAll fu D s l).1)) (hp D (f_X11_owedToAll fu D s l).2.1 (f_X11_owedToAll fu D s l).2.2)) := by
  generalize he : (f_X11_owedToAll fu D s l) = res
  unfold f_X11_owedToAll at he
  unfold p_X11_owedToAll at hk
  refine r_weak (L1 := [some (.ref 0), none, none]) ⟨rfl, trivial⟩ ?_
  refine r_iconst_ (a := 0) rfl (by decide) ?_
  refine r_istore_n rfl (Nat.le_of_ble_eq_true rfl) rfl ?_
  refine r_iconst_ (a := 0) rfl (by decide) ?_
  refine r_istore_n rfl (Nat.le_of_ble_eq_true rfl) rfl ?_
  subst he
  exact r_weak (L1 := [some (.ref 0), some (.int (0 : Int32)), some (.int (0 : Int32))]) ⟨rfl, rfl, rfl, trivial⟩ (lp_X11_owedToAll_4 fu _ _ _ _ hk)

def f_X12_owedTo_4 (fu : Nat) : Nat → Int32 → Int32 → Int32 → fl_I → fl_L → Int32 × fl_I × fl_L
  | 0, x1, x2, x3, s, l => (0, s, l)
  | n + 1, x1, x2, x3, s, l =>
    if ((s 60 54) ≤ x3) then (x2, s, l) else if ((s 95 ((64 : Int32) + x3).toNatClampNeg) = x1) then f_X12_owedTo_4 fu n x1 (x2 + (f_X12_paysOf fu x1 x3 s l).1) (x3 + 1) (f_X12_paysOf fu x1 x3 s l).2.1 (f_X12_paysOf fu x1 x3 s l).2.2 else f_X12_owedTo_4 fu n x1 x2 (x3 + 1) s l

def p_X12_owedTo_4 (fu : Nat) : Nat → Int32 → Int32 → Int32 → fl_I → fl_L → Prop
  | 0, _, _, _, _, _ => False
  | n + 1, x1, x2, x3, s, l =>
    ((((s 60 54) ≤ x3) → True) ∧ (¬ ((s 60 54) ≤ x3) → (vp_in ((64 : Int32) + x3) 141) ∧ ((((s 95 ((64 : Int32) + x3).toNatClampNeg) = x1) → (p_X12_paysOf fu x1 x3 s l) ∧ p_X12_owedTo_4 fu n x1 (x2 + (f_X12_paysOf fu x1 x3 s l).1) (x3 + 1) (f_X12_paysOf fu x1 x3 s l).2.1 (f_X12_paysOf fu x1 x3 s l).2.2) ∧ (¬ ((s 95 ((64 : Int32) + x3).toNatClampNeg) = x1) → p_X12_owedTo_4 fu n x1 x2 (x3 + 1) s l))))

set_option maxRecDepth 100000 in
set_option maxHeartbeats 1000000 in
theorem lp_X12_owedTo_4 {G : ab_G} {fu : Nat} {d : Nat} {D : fl_D} : ∀ (n : Nat) (x1 : Int32) (x2 : Int32) (x3 : Int32) (s : fl_I) (l : fl_L), p_X12_owedTo_4 fu n x1 x2 x3 s l → ab_C G (d + 3) 0 0 M_X12_owedTo 4 [some (.ref 60), some (.int x1), some (.int x2), some (.int x3)] [] (hp D s l) (rt (some (.int (f_X12_owedTo_4 fu n x1 x2 x3 s l).1)) (hp D (f_X12_owedTo_4 fu n x1 x2 x3 s l).2.1 (f_X12_owedTo_4 fu n x1 x2 x3 s l).2.2)) := by
  intro n
  induction n with
  | zero => intro x1 x2 x3 s l hk; exact hk.elim
  | succ n ih =>
    intro x1 x2 x3 s l hk
    generalize he : f_X12_owedTo_4 fu (n + 1) x1 x2 x3 s l = res
    unfold f_X12_owedTo_4 at he
    unfold p_X12_owedTo_4 at hk
    refine r_iload_n rfl rfl ?_
    refine r_aload_n rfl rfl ?_
    refine q_getfield rfl (cc_60 _) rfl ?_
    refine r_icmp_ge rfl (fun c_9 => ?_) (fun c_9 => ?_)
    · rw [if_pos c_9] at he
      replace hk := hk.1 c_9
      refine r_iload_n rfl rfl ?_
      refine r_iret rfl rfl rfl ?_
      first | with_reducible exact fin_i he | exact fin_i he
    · rw [if_neg c_9] at he
      replace hk := hk.2 c_9
      refine r_aload_n rfl rfl ?_
      refine q_getfield rfl (cc_60 _) rfl ?_
      refine r_bipush_ (a := 64) rfl (by decide) ?_
      refine r_iload_n rfl rfl ?_
      refine r_iadd rfl ?_
      obtain ⟨hb0, hk⟩ := hk
      refine q_iald rfl (cc_95 _) hb0 ?_
      refine r_iload_n rfl rfl ?_
      refine r_icmp_ne rfl (fun c_22 => ?_) (fun c_22 => ?_)
      · rw [if_neg c_22] at he
        replace hk := hk.2 c_22
        refine r_iinc (b := x3 + 1) rfl rfl rfl (Nat.le_of_ble_eq_true rfl) rfl ?_
        refine r_goto rfl ?_
        subst he
        exact r_weak (L1 := [some (.ref 60), some (.int x1), some (.int x2), some (.int (x3 + 1))]) ⟨rfl, rfl, rfl, rfl, trivial⟩ (ih _ _ _ _ _ hk)
      · rw [if_pos c_22] at he
        replace hk := hk.1 c_22
        refine r_iload_n rfl rfl ?_
        refine r_aload_n rfl rfl ?_
        refine r_iload_n rfl rfl ?_
        refine r_iload_n rfl rfl ?_
        obtain ⟨hb1, hk⟩ := hk
        refine q_callV0 [_, _] _ rfl kY_X12_paysOf kT_X12_paysOf rfl rfl (Nat.le_of_ble_eq_true rfl) (Nat.le_of_ble_eq_true rfl) (cc_60 _) (s_X12_paysOf hb1) (fun r h q => ?_)
        obtain ⟨rfl, rfl⟩ := q
        simp only [Option.toList, List.cons_append, List.nil_append]
        refine r_iadd rfl ?_
        refine r_istore_n rfl (Nat.le_of_ble_eq_true rfl) rfl ?_
        refine r_iinc (b := x3 + 1) rfl rfl rfl (Nat.le_of_ble_eq_true rfl) rfl ?_
        refine r_goto rfl ?_
        subst he
        exact r_weak (L1 := [some (.ref 60), some (.int x1), some (.int (x2 + (f_X12_paysOf fu x1 x3 s l).1)), some (.int (x3 + 1))]) ⟨rfl, rfl, rfl, rfl, trivial⟩ (ih _ _ _ _ _ hk)

def f_X12_owedTo (fu : Nat) (v0 : Int32) (s : fl_I) (l : fl_L) : Int32 × fl_I × fl_L :=
  f_X12_owedTo_4 fu fu v0 (0 : Int32) (0 : Int32) s l

def p_X12_owedTo (fu : Nat) (v0 : Int32) (s : fl_I) (l : fl_L) : Prop :=
  p_X12_owedTo_4 fu fu v0 (0 : Int32) (0 : Int32) s l

set_option maxRecDepth 100000 in
set_option maxHeartbeats 1000000 in
theorem s_X12_owedTo {G : ab_G} {fu : Nat} {d : Nat} {D : fl_D} {s : fl_I} {l : fl_L} {v0 : Int32} (hk : p_X12_owedTo fu v0 s l) : ab_C G (d + 3) 0 0 M_X12_owedTo 0 (ab_ent [.ref 60, .int v0]) [] (hp D s l) (rt (some (.int (f_X12_owedTo fu v0 s l).1)) (hp D (f_X12_owedTo fu v0 s l).2.1 (f_X12_owedTo fu v0 s l).2.2)) := by
  generalize he : (f_X12_owedTo fu v0 s l) = res
  unfold f_X12_owedTo at he
  unfold p_X12_owedTo at hk
  refine r_weak (L1 := [some (.ref 60), some (.int v0), none, none]) ⟨rfl, rfl, trivial⟩ ?_
  refine r_iconst_ (a := 0) rfl (by decide) ?_
  refine r_istore_n rfl (Nat.le_of_ble_eq_true rfl) rfl ?_
  refine r_iconst_ (a := 0) rfl (by decide) ?_
  refine r_istore_n rfl (Nat.le_of_ble_eq_true rfl) rfl ?_
  subst he
  exact r_weak (L1 := [some (.ref 60), some (.int v0), some (.int (0 : Int32)), some (.int (0 : Int32))]) ⟨rfl, rfl, rfl, rfl, trivial⟩ (lp_X12_owedTo_4 fu _ _ _ _ _ hk)

