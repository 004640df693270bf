def f_X12_feed (v0 : Int32) (v1 : Int32) (v2 : Int32) (v3 : Int32) (v4 : Int32) (s : fl_I) (l : fl_L) : Int32 × fl_I × fl_L :=
  if (((s 60 2) + (20 : Int32)) ≤ (2000 : Int32)) then (((f_X12_put v4 (f_X12_put v3 (f_X12_put v2 (f_X12_put v1 (f_X12_put v0 s l).1 (f_X12_put v0 s l).2).1 (f_X12_put v1 (f_X12_put v0 s l).1 (f_X12_put v0 s l).2).2).1 (f_X12_put v2 (f_X12_put v1 (f_X12_put v0 s l).1 (f_X12_put v0 s l).2).1 (f_X12_put v1 (f_X12_put v0 s l).1 (f_X12_put v0 s l).2).2).2).1 (f_X12_put v3 (f_X12_put v2 (f_X12_put v1 (f_X12_put v0 s l).1 (f_X12_put v0 s l).2).1 (f_X12_put v1 (f_X12_put v0 s l).1 (f_X12_put v0 s l).2).2).1 (f_X12_put v2 (f_X12_put v1 (f_X12_put v0 s l).1 (f_X12_put v0 s l).2).1 (f_X12_put v1 (f_X12_put v0 s l).1 (f_X12_put v0 s l).2).2).2).2).1 60 2), (f_X12_put v4 (f_X12_put v3 (f_X12_put v2 (f_X12_put v1 (f_X12_put v0 s l).1 (f_X12_put v0 s l).2).1 (f_X12_put v1 (f_X12_put v0 s l).1 (f_X12_put v0 s l).2).2).1 (f_X12_put v2 (f_X12_put v1 (f_X12_put v0 s l).1 (f_X12_put v0 s l).2).1 (f_X12_put v1 (f_X12_put v0 s l).1 (f_X12_put v0 s l).2).2).2).1 (f_X12_put v3 (f_X12_put v2 (f_X12_put v1 (f_X12_put v0 s l).1 (f_X12_put v0 s l).2).1 (f_X12_put v1 (f_X12_put v0 s l).1 (f_X12_put v0 s l).2).2).1 (f_X12_put v2 (f_X12_put v1 (f_X12_put v0 s l).1 (f_X12_put v0 s l).2).1 (f_X12_put v1 (f_X12_put v0 s l).1 (f_X12_put v0 s l).2).2).2).2).1, (f_X12_put v4 (f_X12_put v3 (f_X12_put v2 (f_X12_put v1 (f_X12_put v0 s l).1 (f_X12_put v0 s l).2).1 (f_X12_put v1 (f_X12_put v0 s l).1 (f_X12_put v0 s l).2).2).1 (f_X12_put v2 (f_X12_put v1 (f_X12_put v0 s l).1 (f_X12_put v0 s l).2).1 (f_X12_put v1 (f_X12_put v0 s l).1 (f_X12_put v0 s l).2).2).2).1 (f_X12_put v3 (f_X12_put v2 (f_X12_put v1 (f_X12_put v0 s l).1 (f_X12_put v0 s l).2).1 (f_X12_put v1 (f_X12_put v0 s l).1 (f_X12_put v0 s l).2).2).1 (f_X12_put v2 (f_X12_put v1 (f_X12_put v0 s l).1 (f_X12_put v0 s l).2).1 (f_X12_put v1 (f_X12_put v0 s l).1 (f_X12_put v0 s l).2).2).2).2).2) else ((-1 : Int32), s, l)

def p_X12_feed (v0 : Int32) (v1 : Int32) (v2 : Int32) (v3 : Int32) (v4 : Int32) (s : fl_I) (l : fl_L) : Prop :=
  (((((s 60 2) + (20 : Int32)) ≤ (2000 : Int32)) → (p_X12_put v0 s l) ∧ (p_X12_put v1 (f_X12_put v0 s l).1 (f_X12_put v0 s l).2) ∧ (p_X12_put v2 (f_X12_put v1 (f_X12_put v0 s l).1 (f_X12_put v0 s l).2).1 (f_X12_put v1 (f_X12_put v0 s l).1 (f_X12_put v0 s l).2).2) ∧ (p_X12_put v3 (f_X12_put v2 (f_X12_put v1 (f_X12_put v0 s l).1 (f_X12_put v0 s l).2).1 (f_X12_put v1 (f_X12_put v0 s l).1 (f_X12_put v0 s l).2).2).1 (f_X12_put v2 (f_X12_put v1 (f_X12_put v0 s l).1 (f_X12_put v0 s l).2).1 (f_X12_put v1 (f_X12_put v0 s l).1 (f_X12_put v0 s l).2).2).2) ∧ (p_X12_put v4 (f_X12_put v3 (f_X12_put v2 (f_X12_put v1 (f_X12_put v0 s l).1 (f_X12_put v0 s l).2).1 (f_X12_put v1 (f_X12_put v0 s l).1 (f_X12_put v0 s l).2).2).1 (f_X12_put v2 (f_X12_put v1 (f_X12_put v0 s l).1 (f_X12_put v0 s l).2).1 (f_X12_put v1 (f_X12_put v0 s l).1 (f_X12_put v0 s l).2).2).2).1 (f_X12_put v3 (f_X12_put v2 (f_X12_put v1 (f_X12_put v0 s l).1 (f_X12_put v0 s l).2).1 (f_X12_put v1 (f_X12_put v0 s l).1 (f_X12_put v0 s l).2).2).1 (f_X12_put v2 (f_X12_put v1 (f_X12_put v0 s l).1 (f_X12_put v0 s l).2).1 (f_X12_put v1 (f_X12_put v0 s l).1 (f_X12_put v0 s l).2).2).2).2) ∧ True) ∧ (¬ (((s 60 2) + (20 : Int32)) ≤ (2000 : Int32)) → True))

set_option maxRecDepth 100000 in
set_option maxHeartbeats 4000000 in
theorem s_X12_feed {G : ab_G} {d : Nat} {D : fl_D} {s : fl_I} {l : fl_L} {v0 : Int32} {v1 : Int32} {v2 : Int32} {v3 : Int32} {v4 : Int32} (hk : p_X12_feed v0 v1 v2 v3 v4 s l) : ab_C G (d + 1) 0 0 M_X12_feed 0 (ab_ent [.ref 60, .int v0, .int v1, .int v2, .int v3, .int v4]) [] (hp D s l) (rt (some (.int (f_X12_feed v0 v1 v2 v3 v4 s l).1)) (hp D (f_X12_feed v0 v1 v2 v3 v4 s l).2.1 (f_X12_feed v0 v1 v2 v3 v4 s l).2.2)) := by
  generalize he : (f_X12_feed v0 v1 v2 v3 v4 s l) = res
  unfold f_X12_feed at he
  unfold p_X12_feed at hk
  refine r_weak (L1 := [some (.ref 60), some (.int v0), some (.int v1), some (.int v2), some (.int v3), some (.int v4)]) ⟨rfl, rfl, rfl, rfl, rfl, rfl, trivial⟩ ?_
  refine r_aload_n rfl rfl ?_
  refine q_getfield rfl (cc_60 _) rfl ?_
  refine r_bipush_ (a := 20) rfl (by decide) ?_
  refine r_iadd rfl ?_
  refine r_sipush_ (a := 2000) rfl (by decide) ?_
  refine r_icmp_le rfl (fun c_10 => ?_) (fun c_10 => ?_)
  · rw [if_pos c_10] at he
    replace hk := hk.1 c_10
    refine r_aload_n rfl rfl ?_
    refine r_iload_n rfl rfl ?_
    obtain ⟨hb0, hk⟩ := hk
    refine q_callV0 [_] _ rfl kY_X12_put kT_X12_put rfl rfl (Nat.le_of_ble_eq_true rfl) (Nat.le_of_ble_eq_true rfl) (cc_60 _) (s_X12_put hb0) (fun r h q => ?_)
    obtain ⟨rfl, rfl⟩ := q
    simp only [Option.toList, List.cons_append, List.nil_append]
    refine r_aload_n rfl rfl ?_
    refine r_iload_n rfl rfl ?_
    obtain ⟨hb1, hk⟩ := hk
    refine q_callV0 [_] _ rfl kY_X12_put kT_X12_put rfl rfl (Nat.le_of_ble_eq_true rfl) (Nat.le_of_ble_eq_true rfl) (cc_60 _) (s_X12_put hb1) (fun r h q => ?_)
    obtain ⟨rfl, rfl⟩ := q
    simp only [Option.toList, List.cons_append, List.nil_append]
    refine r_aload_n rfl rfl ?_
    refine r_iload_n rfl rfl ?_
    obtain ⟨hb2, hk⟩ := hk
    refine q_callV0 [_] _ rfl kY_X12_put kT_X12_put rfl rfl (Nat.le_of_ble_eq_true rfl) (Nat.le_of_ble_eq_true rfl) (cc_60 _) (s_X12_put hb2) (fun r h q => ?_)
    obtain ⟨rfl, rfl⟩ := q
    simp only [Option.toList, List.cons_append, List.nil_append]
    refine r_aload_n rfl rfl ?_
    refine r_iload rfl rfl ?_
    obtain ⟨hb3, hk⟩ := hk
    refine q_callV0 [_] _ rfl kY_X12_put kT_X12_put rfl rfl (Nat.le_of_ble_eq_true rfl) (Nat.le_of_ble_eq_true rfl) (cc_60 _) (s_X12_put hb3) (fun r h q => ?_)
    obtain ⟨rfl, rfl⟩ := q
    simp only [Option.toList, List.cons_append, List.nil_append]
    refine r_aload_n rfl rfl ?_
    refine r_iload rfl rfl ?_
    obtain ⟨hb4, hk⟩ := hk
    refine q_callV0 [_] _ rfl kY_X12_put kT_X12_put rfl rfl (Nat.le_of_ble_eq_true rfl) (Nat.le_of_ble_eq_true rfl) (cc_60 _) (s_X12_put hb4) (fun r h q => ?_)
    obtain ⟨rfl, rfl⟩ := q
    simp only [Option.toList, List.cons_append, List.nil_append]
    refine r_aload_n rfl rfl ?_
    refine q_getfield rfl (cc_60 _) rfl ?_
    refine r_iret rfl rfl rfl ?_
    subst he
    exact ⟨rfl, rfl⟩
  · rw [if_neg c_10] at he
    replace hk := hk.2 c_10
    refine r_iconst_ (a := -1) rfl (by decide) ?_
    refine r_iret rfl rfl rfl ?_
    subst he
    exact ⟨rfl, rfl⟩

def f_X12_copies_2 : Nat → Int32 → fl_I → fl_L → fl_I × fl_L
  | 0, x1, s, l => (s, l)
  | n + 1, x1, s, l =>
    if ((141 : Int32) ≤ x1) then ((wi (wi s 60 52 (s 81 (s 60 18).toNatClampNeg)) 60 53 (0 : Int32)), l) else f_X12_copies_2 n (x1 + 1) (wi s 95 x1.toNatClampNeg (s 94 x1.toNatClampNeg)) l

def p_X12_copies_2 : Nat → Int32 → fl_I → fl_L → Prop
  | 0, _, _, _ => False
  | n + 1, x1, s, l =>
    ((((141 : Int32) ≤ x1) → (vp_in (s 60 18) 2) ∧ True) ∧ (¬ ((141 : Int32) ≤ x1) → (vp_in x1 141) ∧ (vp_in x1 141) ∧ p_X12_copies_2 n (x1 + 1) (wi s 95 x1.toNatClampNeg (s 94 x1.toNatClampNeg)) l))

set_option maxRecDepth 100000 in
set_option maxHeartbeats 4000000 in
theorem lp_X12_copies_2 {G : ab_G} {d : Nat} {D : fl_D} : ∀ (n : Nat) (x1 : Int32) (s : fl_I) (l : fl_L), p_X12_copies_2 n x1 s l → ab_C G d 0 0 M_X12_copies 2 [some (.ref 60), some (.int x1)] [] (hp D s l) (rt none (hp D (f_X12_copies_2 n x1 s l).1 (f_X12_copies_2 n x1 s l).2)) := by
  intro n
  induction n with
  | zero => intro x1 s l hk; exact hk.elim
  | succ n ih =>
    intro x1 s l hk
    generalize he : f_X12_copies_2 (n + 1) x1 s l = res
    unfold f_X12_copies_2 at he
    unfold p_X12_copies_2 at hk
    refine r_iload_n rfl rfl ?_
    refine r_sipush_ (a := 141) rfl (by decide) ?_
    refine r_icmp_ge rfl (fun c_6 => ?_) (fun c_6 => ?_)
    · rw [if_pos c_6] at he
      replace hk := hk.1 c_6
      refine r_aload_n rfl rfl ?_
      refine r_aload_n rfl rfl ?_
      refine q_getfield rfl (cc_60 _) rfl ?_
      refine r_aload_n rfl rfl ?_
      refine q_getfield rfl (cc_60 _) rfl ?_
      obtain ⟨hb0, hk⟩ := hk
      refine q_iald rfl (cc_81 _) hb0 ?_
      refine w_put rfl (cc_60 _) ff_12_52 ft_12_52 (Nat.le_of_ble_eq_true rfl) rfl ?_
      refine r_aload_n rfl rfl ?_
      refine r_iconst_ (a := 0) rfl (by decide) ?_
      refine w_putZ rfl (cc_60 _) ff_12_53 ft_12_53 (by decide) (Nat.le_of_ble_eq_true rfl) rfl ?_
      refine r_ret rfl rfl ?_
      subst he
      exact ⟨rfl, rfl⟩
    · rw [if_neg c_6] at he
      replace hk := hk.2 c_6
      refine r_aload_n rfl rfl ?_
      refine q_getfield rfl (cc_60 _) rfl ?_
      refine r_iload_n rfl rfl ?_
      refine r_aload_n rfl rfl ?_
      refine q_getfield rfl (cc_60 _) rfl ?_
      refine r_iload_n rfl rfl ?_
      obtain ⟨hb1, hk⟩ := hk
      refine q_iald rfl (cc_94 _) hb1 ?_
      obtain ⟨hb2, hk⟩ := hk
      refine w_iast rfl (cc_95 _) hb2 ?_
      refine r_iinc (b := x1 + 1) rfl rfl rfl (Nat.le_of_ble_eq_true rfl) rfl ?_
      refine r_goto rfl ?_
      subst he
      exact r_weak (L1 := [some (.ref 60), some (.int (x1 + 1))]) ⟨rfl, rfl, trivial⟩ (ih _ _ _ hk)

def f_X12_copies (s : fl_I) (l : fl_L) : fl_I × fl_L :=
  f_X12_copies_2 fu (0 : Int32) s l

def p_X12_copies (s : fl_I) (l : fl_L) : Prop :=
  p_X12_copies_2 fu (0 : Int32) s l

set_option maxRecDepth 100000 in
set_option maxHeartbeats 4000000 in
theorem s_X12_copies {G : ab_G} {d : Nat} {D : fl_D} {s : fl_I} {l : fl_L}  (hk : p_X12_copies s l) : ab_C G d 0 0 M_X12_copies 0 (ab_ent [.ref 60]) [] (hp D s l) (rt none (hp D (f_X12_copies s l).1 (f_X12_copies s l).2)) := by
  generalize he : (f_X12_copies s l) = res
  unfold f_X12_copies at he
  unfold p_X12_copies at hk
  refine r_weak (L1 := [some (.ref 60), none]) ⟨rfl, trivial⟩ ?_
  refine r_iconst_ (a := 0) rfl (by decide) ?_
  refine r_istore_n rfl (Nat.le_of_ble_eq_true rfl) rfl ?_
  subst he
  exact r_weak (L1 := [some (.ref 60), some (.int (0 : Int32))]) ⟨rfl, rfl, trivial⟩ (lp_X12_copies_2 fu _ _ _ hk)

def f_X3_takeName_10 : Nat → Int32 → Int32 → Nat → Nat → fl_I → fl_L → Int32 × fl_I × fl_L
  | 0, x2, x3, q, z, s, l => (0, s, l)
  | n + 1, x2, x3, q, z, s, l =>
    if (x2 ≤ x3) then ((f_X3_take (2 : Int32) s l).1, (f_X3_take (2 : Int32) s l).2.1, (f_X3_take (2 : Int32) s l).2.2) else if ((nI z) ≤ x3) then ((f_X3_take (2 : Int32) s l).1, (f_X3_take (2 : Int32) s l).2.1, (f_X3_take (2 : Int32) s l).2.2) else if ((lg_cmp (l q x3.toNatClampNeg) (l 3 7)) = 0) then f_X3_takeName_10 n x2 (x3 + 1) q z (f_X3_noteLater (3 : Int32) s l).1 (f_X3_noteLater (3 : Int32) s l).2 else f_X3_takeName_10 n x2 (x3 + 1) q z s l

def p_X3_takeName_10 : Nat → Int32 → Int32 → Nat → Nat → fl_I → fl_L → Prop
  | 0, _, _, _, _, _, _ => False
  | n + 1, x2, x3, q, z, s, l =>
    (((x2 ≤ x3) → (p_X3_take (2 : Int32) s l) ∧ ((f_X3_take (2 : Int32) s l).1 = 0 ∨ (f_X3_take (2 : Int32) s l).1 = 1) ∧ True) ∧ (¬ (x2 ≤ x3) → ((((nI z) ≤ x3) → (p_X3_take (2 : Int32) s l) ∧ ((f_X3_take (2 : Int32) s l).1 = 0 ∨ (f_X3_take (2 : Int32) s l).1 = 1) ∧ True) ∧ (¬ ((nI z) ≤ x3) → (vp_in x3 z) ∧ ((((lg_cmp (l q x3.toNatClampNeg) (l 3 7)) = 0) → (p_X3_noteLater (3 : Int32) s l) ∧ p_X3_takeName_10 n x2 (x3 + 1) q z (f_X3_noteLater (3 : Int32) s l).1 (f_X3_noteLater (3 : Int32) s l).2) ∧ (¬ ((lg_cmp (l q x3.toNatClampNeg) (l 3 7)) = 0) → p_X3_takeName_10 n x2 (x3 + 1) q z s l))))))

set_option maxRecDepth 100000 in
set_option maxHeartbeats 4000000 in
theorem lp_X3_takeName_10 {G : ab_G} {d : Nat} {D : fl_D} {q z : Nat} (hcq : ∀ f g, cl D q f g = some (.inl (1, z, .inr (.inl g)))) : ∀ (n : Nat) (x2 : Int32) (x3 : Int32) (s : fl_I) (l : fl_L), p_X3_takeName_10 n x2 x3 q z s l → ab_C G (d + 2) 0 0 M_X3_takeName 10 [some (.ref 3), some (.ref q), some (.int x2), some (.int x3)] [] (hp D s l) (rt (some (.int (f_X3_takeName_10 n x2 x3 q z s l).1)) (hp D (f_X3_takeName_10 n x2 x3 q z s l).2.1 (f_X3_takeName_10 n x2 x3 q z s l).2.2)) := by
  intro n
  induction n with
  | zero => intro x2 x3 s l hk; exact hk.elim
  | succ n ih =>
    intro x2 x3 s l hk
    generalize he : f_X3_takeName_10 (n + 1) x2 x3 q z s l = res
    unfold f_X3_takeName_10 at he
    unfold p_X3_takeName_10 at hk
    refine r_iload_n rfl rfl ?_
    refine r_iload_n rfl rfl ?_
    refine r_icmp_ge rfl (fun c_12 => ?_) (fun c_12 => ?_)
    · rw [if_pos c_12] at he
      replace hk := hk.1 c_12
      refine r_aload_n rfl rfl ?_
      refine r_iconst_ (a := 2) rfl (by decide) ?_
      obtain ⟨hb1, hk⟩ := hk
      refine q_callV0 [_] _ rfl kY_X3_take kT_X3_take rfl rfl (Nat.le_of_ble_eq_true rfl) (Nat.le_of_ble_eq_true rfl) (cc_3 _) (s_X3_take hb1) (fun r h q => ?_)
      obtain ⟨rfl, rfl⟩ := q
      simp only [Option.toList, List.cons_append, List.nil_append]
      obtain ⟨hb2, hk⟩ := hk
      refine r_iret rfl rfl (nar_b hb2) ?_
      subst he
      exact ⟨rfl, rfl⟩
    · rw [if_neg c_12] at he
      replace hk := hk.2 c_12
      refine r_iload_n rfl rfl ?_
      refine r_aload_n rfl rfl ?_
      refine q_alen (v := (nI z)) rfl hcq (Nat.le_of_ble_eq_true rfl) rfl ?_
      refine r_icmp_ge rfl (fun c_18 => ?_) (fun c_18 => ?_)
      · rw [if_pos c_18] at he
        replace hk := hk.1 c_18
        refine r_aload_n rfl rfl ?_
        refine r_iconst_ (a := 2) rfl (by decide) ?_
        obtain ⟨hb3, hk⟩ := hk
        refine q_callV0 [_] _ rfl kY_X3_take kT_X3_take rfl rfl (Nat.le_of_ble_eq_true rfl) (Nat.le_of_ble_eq_true rfl) (cc_3 _) (s_X3_take hb3) (fun r h q => ?_)
        obtain ⟨rfl, rfl⟩ := q
        simp only [Option.toList, List.cons_append, List.nil_append]
        obtain ⟨hb4, hk⟩ := hk
        refine r_iret rfl rfl (nar_b hb4) ?_
        subst he
        exact ⟨rfl, rfl⟩
      · rw [if_neg c_18] at he
        replace hk := hk.2 c_18
        refine r_aload_n rfl rfl ?_
        refine r_iload_n rfl rfl ?_
        obtain ⟨hb5, hk⟩ := hk
        refine q_lald rfl hcq hb5 ?_
        refine r_aload_n rfl rfl ?_
        refine q_getfield rfl (cc_3 _) rfl ?_
        refine r_lcmp rfl ?_
        refine r_if_ne rfl (fun c_29 => ?_) (fun c_29 => ?_)
        · rw [if_neg c_29] at he
          replace hk := hk.2 c_29
          refine r_iinc (b := x3 + 1) rfl rfl rfl (Nat.le_of_ble_eq_true rfl) rfl ?_
          refine r_goto rfl ?_
          subst he
          exact r_weak (L1 := [some (.ref 3), some (.ref q), some (.int x2), some (.int (x3 + 1))]) ⟨rfl, rfl, rfl, rfl, trivial⟩ (ih _ _ _ _ hk)
        · rw [if_pos c_29] at he
          replace hk := hk.1 c_29
          refine r_aload_n rfl rfl ?_
          refine r_iconst_ (a := 3) rfl (by decide) ?_
          obtain ⟨hb6, hk⟩ := hk
          refine q_callV0 [_] _ rfl kY_X3_noteLater kT_X3_noteLater rfl rfl (Nat.le_of_ble_eq_true rfl) (Nat.le_of_ble_eq_true rfl) (cc_3 _) (s_X3_noteLater hb6) (fun r h q => ?_)
          obtain ⟨rfl, rfl⟩ := q
          simp only [Option.toList, List.cons_append, List.nil_append]
          refine r_iinc (b := x3 + 1) rfl rfl rfl (Nat.le_of_ble_eq_true rfl) rfl ?_
          refine r_goto rfl ?_
          subst he
          exact r_weak (L1 := [some (.ref 3), some (.ref q), some (.int x2), some (.int (x3 + 1))]) ⟨rfl, rfl, rfl, rfl, trivial⟩ (ih _ _ _ _ hk)

def f_X3_takeName (v1 : Int32) (q : Nat) (z : Nat) (s : fl_I) (l : fl_L) : Int32 × fl_I × fl_L :=
  f_X3_takeName_10 fu v1 (0 : Int32) q z s (wl l 3 7 (f_X3_valueNow s l))

def p_X3_takeName (v1 : Int32) (q : Nat) (z : Nat) (s : fl_I) (l : fl_L) : Prop :=
  (p_X3_valueNow s l) ∧ p_X3_takeName_10 fu v1 (0 : Int32) q z s (wl l 3 7 (f_X3_valueNow s l))

set_option maxRecDepth 100000 in
set_option maxHeartbeats 4000000 in
theorem s_X3_takeName {G : ab_G} {d : Nat} {D : fl_D} {s : fl_I} {l : fl_L} {q z : Nat} (hcq : ∀ f g, cl D q f g = some (.inl (1, z, .inr (.inl g)))) {v1 : Int32} (hk : p_X3_takeName v1 q z s l) : ab_C G (d + 2) 0 0 M_X3_takeName 0 (ab_ent [.ref 3, .ref q, .int v1]) [] (hp D s l) (rt (some (.int (f_X3_takeName v1 q z s l).1)) (hp D (f_X3_takeName v1 q z s l).2.1 (f_X3_takeName v1 q z s l).2.2)) := by
  generalize he : (f_X3_takeName v1 q z s l) = res
  unfold f_X3_takeName at he
  unfold p_X3_takeName at hk
  refine r_weak (L1 := [some (.ref 3), some (.ref q), some (.int v1), none]) ⟨rfl, rfl, rfl, trivial⟩ ?_
  refine r_aload_n rfl rfl ?_
  refine r_aload_n rfl rfl ?_
  obtain ⟨hb0, hk⟩ := hk
  refine q_callV0 [] _ rfl kY_X3_valueNow kT_X3_valueNow rfl rfl (Nat.le_of_ble_eq_true rfl) (Nat.le_of_ble_eq_true rfl) (cc_3 _) (s_X3_valueNow hb0) (fun r h q => ?_)
  obtain ⟨rfl, rfl⟩ := q
  simp only [Option.toList, List.cons_append, List.nil_append]
  refine w_putL rfl (cc_3 _) ff_3_7 ft_3_7 (Nat.le_of_ble_eq_true rfl) rfl ?_
  refine r_iconst_ (a := 0) rfl (by decide) ?_
  refine r_istore_n rfl (Nat.le_of_ble_eq_true rfl) rfl ?_
  subst he
  exact r_weak (L1 := [some (.ref 3), some (.ref q), some (.int v1), some (.int (0 : Int32))]) ⟨rfl, rfl, rfl, rfl, trivial⟩ (lp_X3_takeName_10 hcq fu _ _ _ _ hk)

def f_X11_pickersWithFullHat_4 : Nat → Int32 → Int32 → fl_D → fl_I → fl_L → Int32
  | 0, _, _, _, _, _ => 0
  | n + 1, x1, x2, D, s, l =>
    if ((s 31 2) ≤ x2) then x1 else if ((s 36 x2.toNatClampNeg) < (s ((if D.2.2.1 then 20 else 9) + 8) x2.toNatClampNeg)) then f_X11_pickersWithFullHat_4 n x1 (x2 + 1) D s l else f_X11_pickersWithFullHat_4 n (x1 ||| ((1 : Int32) <<< (x2 &&& 31))) (x2 + 1) D s l

def p_X11_pickersWithFullHat_4 : Nat → Int32 → Int32 → fl_D → fl_I → fl_L → Prop
  | 0, _, _, _, _, _ => False
  | n + 1, x1, x2, D, s, l =>
    ((((s 31 2) ≤ x2) → True) ∧ (¬ ((s 31 2) ≤ x2) → (vp_in x2 4) ∧ (vp_in x2 4) ∧ ((((s 36 x2.toNatClampNeg) < (s ((if D.2.2.1 then 20 else 9) + 8) x2.toNatClampNeg)) → p_X11_pickersWithFullHat_4 n x1 (x2 + 1) D s l) ∧ (¬ ((s 36 x2.toNatClampNeg) < (s ((if D.2.2.1 then 20 else 9) + 8) x2.toNatClampNeg)) → p_X11_pickersWithFullHat_4 n (x1 ||| ((1 : Int32) <<< (x2 &&& 31))) (x2 + 1) D s l))))

set_option maxRecDepth 100000 in
set_option maxHeartbeats 4000000 in
theorem lp_X11_pickersWithFullHat_4 {G : ab_G} {d : Nat} {D : fl_D} {s : fl_I} {l : fl_L} : ∀ (n : Nat) (x1 : Int32) (x2 : Int32), p_X11_pickersWithFullHat_4 n x1 x2 D s l → ab_C G d 0 0 M_X11_pickersWithFullHat 4 [some (.ref 0), some (.int x1), some (.int x2)] [] (hp D s l) (rt (some (.int (f_X11_pickersWithFullHat_4 n x1 x2 D s l))) (hp D s l)) := by
  intro n
  induction n with
  | zero => intro x1 x2 hk; exact hk.elim
  | succ n ih =>
    intro x1 x2 hk
    generalize he : f_X11_pickersWithFullHat_4 (n + 1) x1 x2 D s l = res
    unfold f_X11_pickersWithFullHat_4 at he
    unfold p_X11_pickersWithFullHat_4 at hk
    refine r_iload_n rfl rfl ?_
    refine r_aload_n rfl rfl ?_
    refine q_getfield rfl (cc_0 _) rfl ?_
    refine q_getfield rfl (cc_31 _) rfl ?_
    refine r_icmp_ge rfl (fun c_12 => ?_) (fun c_12 => ?_)
    · rw [if_pos c_12] at he
      replace hk := hk.1 c_12
      refine r_iload_n rfl rfl ?_
      refine r_iret rfl rfl rfl ?_
      subst he
      exact ⟨rfl, rfl⟩
    · rw [if_neg c_12] at he
      replace hk := hk.2 c_12
      refine r_aload_n rfl rfl ?_
      refine q_getfield rfl (cc_0 _) rfl ?_
      refine q_getfield rfl (cc_31 _) rfl ?_
      refine r_iload_n rfl rfl ?_
      obtain ⟨hb0, hk⟩ := hk
      refine q_iald rfl (cc_36 _) hb0 ?_
      refine r_aload_n rfl rfl ?_
      refine q_getfield rfl (cc_0 _) rfl ?_
      refine q_getfield rfl (cT_0 (isT_l _)) rfl ?_
      refine r_iload_n rfl rfl ?_
      obtain ⟨hb1, hk⟩ := hk
      refine q_iald rfl (cT_8 (isT_l _)) hb1 ?_
      refine r_icmp_lt rfl (fun c_33 => ?_) (fun c_33 => ?_)
      · rw [if_pos c_33] at he
        replace hk := hk.1 c_33
        refine r_iinc (b := x2 + 1) rfl rfl rfl (Nat.le_of_ble_eq_true rfl) rfl ?_
        refine r_goto rfl ?_
        subst he
        exact r_weak (L1 := [some (.ref 0), some (.int x1), some (.int (x2 + 1))]) ⟨rfl, rfl, rfl, trivial⟩ (ih _ _ hk)
      · rw [if_neg c_33] at he
        replace hk := hk.2 c_33
        refine r_iload_n rfl rfl ?_
        refine r_iconst_ (a := 1) rfl (by decide) ?_
        refine r_iload_n rfl rfl ?_
        refine r_ishl rfl ?_
        refine r_ior rfl ?_
        refine r_istore_n rfl (Nat.le_of_ble_eq_true rfl) rfl ?_
        refine r_iinc (b := x2 + 1) rfl rfl rfl (Nat.le_of_ble_eq_true rfl) rfl ?_
        refine r_goto rfl ?_
        subst he
        exact r_weak (L1 := [some (.ref 0), some (.int (x1 ||| ((1 : Int32) <<< (x2 &&& 31)))), some (.int (x2 + 1))]) ⟨rfl, rfl, rfl, trivial⟩ (ih _ _ hk)

def f_X11_pickersWithFullHat (D : fl_D) (s : fl_I) (l : fl_L) : Int32 :=
  f_X11_pickersWithFullHat_4 fu (0 : Int32) (0 : Int32) D s l

def p_X11_pickersWithFullHat (D : fl_D) (s : fl_I) (l : fl_L) : Prop :=
  p_X11_pickersWithFullHat_4 fu (0 : Int32) (0 : Int32) D s l

set_option maxRecDepth 100000 in
set_option maxHeartbeats 4000000 in
theorem s_X11_pickersWithFullHat {G : ab_G} {d : Nat} {D : fl_D} {s : fl_I} {l : fl_L}  (hk : p_X11_pickersWithFullHat D s l) : ab_C G d 0 0 M_X11_pickersWithFullHat 0 (ab_ent [.ref 0]) [] (hp D s l) (rt (some (.int (f_X11_pickersWithFullHat D s l))) (hp D s l)) := by
  generalize he : (f_X11_pickersWithFullHat D s l) = res
  unfold f_X11_pickersWithFullHat at he
  unfold p_X11_pickersWithFullHat at hk
  refine r_weak (L1 := [some (.ref 0), none, none]) ⟨rfl, trivial⟩ ?_
  refine r_iconst_ (a := 0) rfl (by decide) ?_
  refine r_istore_n rfl (Nat.le_of_ble_eq_true rfl) rfl ?_
  refine r_iconst_ (a := 0) rfl (by decide) ?_
  refine r_istore_n rfl (Nat.le_of_ble_eq_true rfl) rfl ?_
  subst he
  exact r_weak (L1 := [some (.ref 0), some (.int (0 : Int32)), some (.int (0 : Int32))]) ⟨rfl, rfl, rfl, trivial⟩ (lp_X11_pickersWithFullHat_4 fu _ _ hk)

def f_X3_wordTold (t : Nat) (s : fl_I) (l : fl_L) : Int32 × fl_I × fl_L :=
  if ((s t 1) < (8 : Int32)) then if ((f_X3_take (257 : Int32) s l).1 = 0) then ((0 : Int32), (f_X3_take (257 : Int32) s l).2.1, (f_X3_take (257 : Int32) s l).2.2) else if ((f_X3_takeName ((f_X3_take (257 : Int32) s l).2.1 t 1) (t + 2) 8 (f_X3_take (257 : Int32) s l).2.1 (f_X3_take (257 : Int32) s l).2.2).1 = 0) then ((0 : Int32), (f_X3_takeName ((f_X3_take (257 : Int32) s l).2.1 t 1) (t + 2) 8 (f_X3_take (257 : Int32) s l).2.1 (f_X3_take (257 : Int32) s l).2.2).2.1, (f_X3_takeName ((f_X3_take (257 : Int32) s l).2.1 t 1) (t + 2) 8 (f_X3_take (257 : Int32) s l).2.1 (f_X3_take (257 : Int32) s l).2.2).2.2) else if ((f_X3_take (59 : Int32) (f_X3_takeName ((f_X3_take (257 : Int32) s l).2.1 t 1) (t + 2) 8 (f_X3_take (257 : Int32) s l).2.1 (f_X3_take (257 : Int32) s l).2.2).2.1 (f_X3_takeName ((f_X3_take (257 : Int32) s l).2.1 t 1) (t + 2) 8 (f_X3_take (257 : Int32) s l).2.1 (f_X3_take (257 : Int32) s l).2.2).2.2).1 = 0) then ((0 : Int32), (f_X3_take (59 : Int32) (f_X3_takeName ((f_X3_take (257 : Int32) s l).2.1 t 1) (t + 2) 8 (f_X3_take (257 : Int32) s l).2.1 (f_X3_take (257 : Int32) s l).2.2).2.1 (f_X3_takeName ((f_X3_take (257 : Int32) s l).2.1 t 1) (t + 2) 8 (f_X3_take (257 : Int32) s l).2.1 (f_X3_take (257 : Int32) s l).2.2).2.2).2.1, (f_X3_take (59 : Int32) (f_X3_takeName ((f_X3_take (257 : Int32) s l).2.1 t 1) (t + 2) 8 (f_X3_take (257 : Int32) s l).2.1 (f_X3_take (257 : Int32) s l).2.2).2.1 (f_X3_takeName ((f_X3_take (257 : Int32) s l).2.1 t 1) (t + 2) 8 (f_X3_take (257 : Int32) s l).2.1 (f_X3_take (257 : Int32) s l).2.2).2.2).2.2) else ((1 : Int32), (f_X5_addWord ((f_X3_take (59 : Int32) (f_X3_takeName ((f_X3_take (257 : Int32) s l).2.1 t 1) (t + 2) 8 (f_X3_take (257 : Int32) s l).2.1 (f_X3_take (257 : Int32) s l).2.2).2.1 (f_X3_takeName ((f_X3_take (257 : Int32) s l).2.1 t 1) (t + 2) 8 (f_X3_take (257 : Int32) s l).2.1 (f_X3_take (257 : Int32) s l).2.2).2.2).2.2 3 7) t (f_X3_take (59 : Int32) (f_X3_takeName ((f_X3_take (257 : Int32) s l).2.1 t 1) (t + 2) 8 (f_X3_take (257 : Int32) s l).2.1 (f_X3_take (257 : Int32) s l).2.2).2.1 (f_X3_takeName ((f_X3_take (257 : Int32) s l).2.1 t 1) (t + 2) 8 (f_X3_take (257 : Int32) s l).2.1 (f_X3_take (257 : Int32) s l).2.2).2.2).2.1 (f_X3_take (59 : Int32) (f_X3_takeName ((f_X3_take (257 : Int32) s l).2.1 t 1) (t + 2) 8 (f_X3_take (257 : Int32) s l).2.1 (f_X3_take (257 : Int32) s l).2.2).2.1 (f_X3_takeName ((f_X3_take (257 : Int32) s l).2.1 t 1) (t + 2) 8 (f_X3_take (257 : Int32) s l).2.1 (f_X3_take (257 : Int32) s l).2.2).2.2).2.2).1, (f_X5_addWord ((f_X3_take (59 : Int32) (f_X3_takeName ((f_X3_take (257 : Int32) s l).2.1 t 1) (t + 2) 8 (f_X3_take (257 : Int32) s l).2.1 (f_X3_take (257 : Int32) s l).2.2).2.1 (f_X3_takeName ((f_X3_take (257 : Int32) s l).2.1 t 1) (t + 2) 8 (f_X3_take (257 : Int32) s l).2.1 (f_X3_take (257 : Int32) s l).2.2).2.2).2.2 3 7) t (f_X3_take (59 : Int32) (f_X3_takeName ((f_X3_take (257 : Int32) s l).2.1 t 1) (t + 2) 8 (f_X3_take (257 : Int32) s l).2.1 (f_X3_take (257 : Int32) s l).2.2).2.1 (f_X3_takeName ((f_X3_take (257 : Int32) s l).2.1 t 1) (t + 2) 8 (f_X3_take (257 : Int32) s l).2.1 (f_X3_take (257 : Int32) s l).2.2).2.2).2.1 (f_X3_take (59 : Int32) (f_X3_takeName ((f_X3_take (257 : Int32) s l).2.1 t 1) (t + 2) 8 (f_X3_take (257 : Int32) s l).2.1 (f_X3_take (257 : Int32) s l).2.2).2.1 (f_X3_takeName ((f_X3_take (257 : Int32) s l).2.1 t 1) (t + 2) 8 (f_X3_take (257 : Int32) s l).2.1 (f_X3_take (257 : Int32) s l).2.2).2.2).2.2).2) else ((f_X3_stop (2 : Int32) s l).1, (f_X3_stop (2 : Int32) s l).2.1, (f_X3_stop (2 : Int32) s l).2.2)

def p_X3_wordTold (t : Nat) (s : fl_I) (l : fl_L) : Prop :=
  ((((s t 1) < (8 : Int32)) → (p_X3_take (257 : Int32) s l) ∧ ((((f_X3_take (257 : Int32) s l).1 = 0) → True) ∧ (¬ ((f_X3_take (257 : Int32) s l).1 = 0) → (p_X3_takeName ((f_X3_take (257 : Int32) s l).2.1 t 1) (t + 2) 8 (f_X3_take (257 : Int32) s l).2.1 (f_X3_take (257 : Int32) s l).2.2) ∧ ((((f_X3_takeName ((f_X3_take (257 : Int32) s l).2.1 t 1) (t + 2) 8 (f_X3_take (257 : Int32) s l).2.1 (f_X3_take (257 : Int32) s l).2.2).1 = 0) → True) ∧ (¬ ((f_X3_takeName ((f_X3_take (257 : Int32) s l).2.1 t 1) (t + 2) 8 (f_X3_take (257 : Int32) s l).2.1 (f_X3_take (257 : Int32) s l).2.2).1 = 0) → (p_X3_take (59 : Int32) (f_X3_takeName ((f_X3_take (257 : Int32) s l).2.1 t 1) (t + 2) 8 (f_X3_take (257 : Int32) s l).2.1 (f_X3_take (257 : Int32) s l).2.2).2.1 (f_X3_takeName ((f_X3_take (257 : Int32) s l).2.1 t 1) (t + 2) 8 (f_X3_take (257 : Int32) s l).2.1 (f_X3_take (257 : Int32) s l).2.2).2.2) ∧ ((((f_X3_take (59 : Int32) (f_X3_takeName ((f_X3_take (257 : Int32) s l).2.1 t 1) (t + 2) 8 (f_X3_take (257 : Int32) s l).2.1 (f_X3_take (257 : Int32) s l).2.2).2.1 (f_X3_takeName ((f_X3_take (257 : Int32) s l).2.1 t 1) (t + 2) 8 (f_X3_take (257 : Int32) s l).2.1 (f_X3_take (257 : Int32) s l).2.2).2.2).1 = 0) → True) ∧ (¬ ((f_X3_take (59 : Int32) (f_X3_takeName ((f_X3_take (257 : Int32) s l).2.1 t 1) (t + 2) 8 (f_X3_take (257 : Int32) s l).2.1 (f_X3_take (257 : Int32) s l).2.2).2.1 (f_X3_takeName ((f_X3_take (257 : Int32) s l).2.1 t 1) (t + 2) 8 (f_X3_take (257 : Int32) s l).2.1 (f_X3_take (257 : Int32) s l).2.2).2.2).1 = 0) → (p_X5_addWord ((f_X3_take (59 : Int32) (f_X3_takeName ((f_X3_take (257 : Int32) s l).2.1 t 1) (t + 2) 8 (f_X3_take (257 : Int32) s l).2.1 (f_X3_take (257 : Int32) s l).2.2).2.1 (f_X3_takeName ((f_X3_take (257 : Int32) s l).2.1 t 1) (t + 2) 8 (f_X3_take (257 : Int32) s l).2.1 (f_X3_take (257 : Int32) s l).2.2).2.2).2.2 3 7) t (f_X3_take (59 : Int32) (f_X3_takeName ((f_X3_take (257 : Int32) s l).2.1 t 1) (t + 2) 8 (f_X3_take (257 : Int32) s l).2.1 (f_X3_take (257 : Int32) s l).2.2).2.1 (f_X3_takeName ((f_X3_take (257 : Int32) s l).2.1 t 1) (t + 2) 8 (f_X3_take (257 : Int32) s l).2.1 (f_X3_take (257 : Int32) s l).2.2).2.2).2.1 (f_X3_take (59 : Int32) (f_X3_takeName ((f_X3_take (257 : Int32) s l).2.1 t 1) (t + 2) 8 (f_X3_take (257 : Int32) s l).2.1 (f_X3_take (257 : Int32) s l).2.2).2.1 (f_X3_takeName ((f_X3_take (257 : Int32) s l).2.1 t 1) (t + 2) 8 (f_X3_take (257 : Int32) s l).2.1 (f_X3_take (257 : Int32) s l).2.2).2.2).2.2) ∧ True))))))) ∧ (¬ ((s t 1) < (8 : Int32)) → (p_X3_stop (2 : Int32) s l) ∧ ((f_X3_stop (2 : Int32) s l).1 = 0 ∨ (f_X3_stop (2 : Int32) s l).1 = 1) ∧ True))

set_option maxRecDepth 100000 in
set_option maxHeartbeats 4000000 in
theorem s_X3_wordTold {G : ab_G} {d : Nat} {D : fl_D} {s : fl_I} {l : fl_L} {t : Nat} (htt : isT t)  (hk : p_X3_wordTold t s l) : ab_C G (d + 3) 0 0 M_X3_wordTold 0 (ab_ent [.ref 3, .ref t]) [] (hp D s l) (rt (some (.int (f_X3_wordTold t s l).1)) (hp D (f_X3_wordTold t s l).2.1 (f_X3_wordTold t s l).2.2)) := by
  generalize he : (f_X3_wordTold t s l) = res
  unfold f_X3_wordTold at he
  unfold p_X3_wordTold at hk
  refine r_weak (L1 := [some (.ref 3), some (.ref t)]) ⟨rfl, rfl, trivial⟩ ?_
  refine r_aload_n rfl rfl ?_
  refine q_getfield rfl (cT_0 htt) rfl ?_
  refine r_bipush_ (a := 8) rfl (by decide) ?_
  refine r_icmp_lt rfl (fun c_6 => ?_) (fun c_6 => ?_)
  · rw [if_pos c_6] at he
    replace hk := hk.1 c_6
    refine r_aload_n rfl rfl ?_
    refine r_sipush_ (a := 257) rfl (by decide) ?_
    obtain ⟨hb0, hk⟩ := hk
    refine q_callV0 [_] _ rfl kY_X3_take kT_X3_take rfl rfl (Nat.le_of_ble_eq_true rfl) (Nat.le_of_ble_eq_true rfl) (cc_3 _) (s_X3_take hb0) (fun r h q => ?_)
    obtain ⟨rfl, rfl⟩ := q
    simp only [Option.toList, List.cons_append, List.nil_append]
    refine r_if_eq rfl (fun c_22 => ?_) (fun c_22 => ?_)
    · rw [if_pos c_22] at he
      replace hk := hk.1 c_22
      refine r_iconst_ (a := 0) rfl (by decide) ?_
      refine r_iret rfl rfl rfl ?_
      subst he
      exact ⟨rfl, rfl⟩
    · rw [if_neg c_22] at he
      replace hk := hk.2 c_22
      refine r_aload_n rfl rfl ?_
      refine r_aload_n rfl rfl ?_
      refine q_getfield rfl (cT_0 htt) rfl ?_
      refine r_aload_n rfl rfl ?_
      refine q_getfield rfl (cT_0 htt) rfl ?_
      obtain ⟨hb1, hk⟩ := hk
      refine q_callV0 [_, _] _ rfl kY_X3_takeName kT_X3_takeName rfl rfl (Nat.le_of_ble_eq_true rfl) (Nat.le_of_ble_eq_true rfl) (cc_3 _) (s_X3_takeName (cT_2 htt) hb1) (fun r h q => ?_)
      obtain ⟨rfl, rfl⟩ := q
      simp only [Option.toList, List.cons_append, List.nil_append]
      refine r_if_eq rfl (fun c_37 => ?_) (fun c_37 => ?_)
      · rw [if_pos c_37] at he
        replace hk := hk.1 c_37
        refine r_iconst_ (a := 0) rfl (by decide) ?_
        refine r_iret rfl rfl rfl ?_
        subst he
        exact ⟨rfl, rfl⟩
      · rw [if_neg c_37] at he
        replace hk := hk.2 c_37
        refine r_aload_n rfl rfl ?_
        refine r_bipush_ (a := 59) rfl (by decide) ?_
        obtain ⟨hb2, hk⟩ := hk
        refine q_callV0 [_] _ rfl kY_X3_take kT_X3_take rfl rfl (Nat.le_of_ble_eq_true rfl) (Nat.le_of_ble_eq_true rfl) (cc_3 _) (s_X3_take hb2) (fun r h q => ?_)
        obtain ⟨rfl, rfl⟩ := q
        simp only [Option.toList, List.cons_append, List.nil_append]
        refine r_if_ne rfl (fun c_46 => ?_) (fun c_46 => ?_)
        · rw [if_neg c_46] at he
          replace hk := hk.2 c_46
          refine r_aload_n rfl rfl ?_
          refine r_aload_n rfl rfl ?_
          refine q_getfield rfl (cc_3 _) rfl ?_
          obtain ⟨hb3, hk⟩ := hk
          refine q_callV0 [_] _ rfl kY_X5_addWord kT_X5_addWord rfl rfl (Nat.le_of_ble_eq_true rfl) (Nat.le_of_ble_eq_true rfl) (cT_0 htt) (s_X5_addWord htt hb3) (fun r h q => ?_)
          obtain ⟨rfl, rfl⟩ := q
          simp only [Option.toList, List.cons_append, List.nil_append]
          refine r_iconst_ (a := 1) rfl (by decide) ?_
          refine r_iret rfl rfl rfl ?_
          subst he
          exact ⟨rfl, rfl⟩
        · rw [if_pos c_46] at he
          replace hk := hk.1 c_46
          refine r_iconst_ (a := 0) rfl (by decide) ?_
          refine r_iret rfl rfl rfl ?_
          subst he
          exact ⟨rfl, rfl⟩
  · rw [if_neg c_6] at he
    replace hk := hk.2 c_6
    refine r_aload_n rfl rfl ?_
    refine r_iconst_ (a := 2) rfl (by decide) ?_
    obtain ⟨hb4, hk⟩ := hk
    refine q_callV0 [_] _ rfl kY_X3_stop kT_X3_stop rfl rfl (Nat.le_of_ble_eq_true rfl) (Nat.le_of_ble_eq_true rfl) (cc_3 _) (s_X3_stop hb4) (fun r h q => ?_)
    obtain ⟨rfl, rfl⟩ := q
    simp only [Option.toList, List.cons_append, List.nil_append]
    obtain ⟨hb5, hk⟩ := hk
    refine r_iret rfl rfl (nar_b hb5) ?_
    subst he
    exact ⟨rfl, rfl⟩

def f_X7_add (v0 : Int32) (v1 : Int32) (s : fl_I) (l : fl_L) : Int32 × fl_I × fl_L :=
  if ((s 57 0) < 0) then ((-1 : Int32), s, l) else if ((s 57 0) < (20 : Int32)) then if (v1 = 0) then ((((wi (wi s 58 (s 57 0).toNatClampNeg (-v0)) 57 0 (((wi s 58 (s 57 0).toNatClampNeg (-v0)) 57 0) + (1 : Int32))) 57 0) - (1 : Int32)), (wi (wi s 58 (s 57 0).toNatClampNeg (-v0)) 57 0 (((wi s 58 (s 57 0).toNatClampNeg (-v0)) 57 0) + (1 : Int32))), l) else ((((wi (wi s 58 (s 57 0).toNatClampNeg v0) 57 0 (((wi s 58 (s 57 0).toNatClampNeg v0) 57 0) + (1 : Int32))) 57 0) - (1 : Int32)), (wi (wi s 58 (s 57 0).toNatClampNeg v0) 57 0 (((wi s 58 (s 57 0).toNatClampNeg v0) 57 0) + (1 : Int32))), l) else ((-1 : Int32), s, l)

def p_X7_add (v0 : Int32) (v1 : Int32) (s : fl_I) (l : fl_L) : Prop :=
  ((((s 57 0) < 0) → True) ∧ (¬ ((s 57 0) < 0) → ((((s 57 0) < (20 : Int32)) → (((v1 = 0) → (vp_in (s 57 0) 20) ∧ True) ∧ (¬ (v1 = 0) → (vp_in (s 57 0) 20) ∧ True))) ∧ (¬ ((s 57 0) < (20 : Int32)) → True))))

set_option maxRecDepth 100000 in
set_option maxHeartbeats 4000000 in
theorem s_X7_add {G : ab_G} {d : Nat} {D : fl_D} {s : fl_I} {l : fl_L} {v0 : Int32} {v1 : Int32} (hk : p_X7_add v0 v1 s l) : ab_C G d 0 0 M_X7_add 0 (ab_ent [.ref 57, .int v0, .int v1]) [] (hp D s l) (rt (some (.int (f_X7_add v0 v1 s l).1)) (hp D (f_X7_add v0 v1 s l).2.1 (f_X7_add v0 v1 s l).2.2)) := by
  generalize he : (f_X7_add v0 v1 s l) = res
  unfold f_X7_add at he
  unfold p_X7_add at hk
  refine r_weak (L1 := [some (.ref 57), some (.int v0), some (.int v1)]) ⟨rfl, rfl, rfl, trivial⟩ ?_
  refine r_aload_n rfl rfl ?_
  refine q_getfield rfl (cc_57 _) rfl ?_
  refine r_if_lt rfl (fun c_4 => ?_) (fun c_4 => ?_)
  · rw [if_pos c_4] at he
    replace hk := hk.1 c_4
    refine r_iconst_ (a := -1) rfl (by decide) ?_
    refine r_iret rfl rfl rfl ?_
    subst he
    exact ⟨rfl, rfl⟩
  · rw [if_neg c_4] at he
    replace hk := hk.2 c_4
    refine r_aload_n rfl rfl ?_
    refine q_getfield rfl (cc_57 _) rfl ?_
    refine r_bipush_ (a := 20) rfl (by decide) ?_
    refine r_icmp_lt rfl (fun c_13 => ?_) (fun c_13 => ?_)
    · rw [if_pos c_13] at he
      replace hk := hk.1 c_13
      refine r_aload_n rfl rfl ?_
      refine q_getfield rfl (cc_57 _) rfl ?_
      refine r_aload_n rfl rfl ?_
      refine q_getfield rfl (cc_57 _) rfl ?_
      refine r_iload_n rfl rfl ?_
      refine r_if_eq rfl (fun c_27 => ?_) (fun c_27 => ?_)
      · rw [if_pos c_27] at he
        replace hk := hk.1 c_27
        refine r_iload_n rfl rfl ?_
        refine r_ineg rfl ?_
        obtain ⟨hb0, hk⟩ := hk
        refine w_iast rfl (cc_58 _) hb0 ?_
        refine r_aload_n rfl rfl ?_
        refine r_dup rfl rfl ?_
        refine q_getfield rfl (cc_57 _) rfl ?_
        refine r_iconst_ (a := 1) rfl (by decide) ?_
        refine r_iadd rfl ?_
        refine w_put rfl (cc_57 _) ff_7_0 ft_7_0 (Nat.le_of_ble_eq_true rfl) rfl ?_
        refine r_aload_n rfl rfl ?_
        refine q_getfield rfl (cc_57 _) rfl ?_
        refine r_iconst_ (a := 1) rfl (by decide) ?_
        refine r_isub rfl ?_
        refine r_iret rfl rfl rfl ?_
        subst he
        exact ⟨rfl, rfl⟩
      · rw [if_neg c_27] at he
        replace hk := hk.2 c_27
        refine r_iload_n rfl rfl ?_
        refine r_goto rfl ?_
        obtain ⟨hb1, hk⟩ := hk
        refine w_iast rfl (cc_58 _) hb1 ?_
        refine r_aload_n rfl rfl ?_
        refine r_dup rfl rfl ?_
        refine q_getfield rfl (cc_57 _) rfl ?_
        refine r_iconst_ (a := 1) rfl (by decide) ?_
        refine r_iadd rfl ?_
        refine w_put rfl (cc_57 _) ff_7_0 ft_7_0 (Nat.le_of_ble_eq_true rfl) rfl ?_
        refine r_aload_n rfl rfl ?_
        refine q_getfield rfl (cc_57 _) rfl ?_
        refine r_iconst_ (a := 1) rfl (by decide) ?_
        refine r_isub rfl ?_
        refine r_iret rfl rfl rfl ?_
        subst he
        exact ⟨rfl, rfl⟩
    · rw [if_neg c_13] at he
      replace hk := hk.2 c_13
      refine r_iconst_ (a := -1) rfl (by decide) ?_
      refine r_iret rfl rfl rfl ?_
      subst he
      exact ⟨rfl, rfl⟩

def f_X10_layDown (v0 : Int32) (a : Nat) (s : fl_I) (l : fl_L) : fl_I × fl_L :=
  if ((f_X10_holder v0 a s l) < 0) then (s, l) else if ((4 : Int32) ≤ (f_X10_holder v0 a s l)) then (s, l) else ((wi (wi (wi s (a + 5) (f_X10_holder v0 a s l).toNatClampNeg ((s (a + 5) (f_X10_holder v0 a s l).toNatClampNeg) - (1 : Int32))) (a + 1) v0.toNatClampNeg ((wi s (a + 5) (f_X10_holder v0 a s l).toNatClampNeg ((s (a + 5) (f_X10_holder v0 a s l).toNatClampNeg) - (1 : Int32))) (a + 3) (f_X10_holder v0 a s l).toNatClampNeg)) (a + 2) v0.toNatClampNeg (0 : Int32)), l)

def p_X10_layDown (v0 : Int32) (a : Nat) (s : fl_I) (l : fl_L) : Prop :=
  (p_X10_holder v0 a s l) ∧ ((((f_X10_holder v0 a s l) < 0) → True) ∧ (¬ ((f_X10_holder v0 a s l) < 0) → ((((4 : Int32) ≤ (f_X10_holder v0 a s l)) → True) ∧ (¬ ((4 : Int32) ≤ (f_X10_holder v0 a s l)) → (vp_in (f_X10_holder v0 a s l) 4) ∧ (vp_in (f_X10_holder v0 a s l) 4) ∧ (vp_in (f_X10_holder v0 a s l) 4) ∧ (vp_in v0 32) ∧ (vp_in v0 32) ∧ True))))

set_option maxRecDepth 100000 in
set_option maxHeartbeats 4000000 in
theorem s_X10_layDown {G : ab_G} {d : Nat} {D : fl_D} {s : fl_I} {l : fl_L} {a : Nat} (hya : isY D a) {v0 : Int32} (hk : p_X10_layDown v0 a s l) : ab_C G (d + 1) 0 0 M_X10_layDown 0 (ab_ent [.ref a, .int v0]) [] (hp D s l) (rt none (hp D (f_X10_layDown v0 a s l).1 (f_X10_layDown v0 a s l).2)) := by
  generalize he : (f_X10_layDown v0 a s l) = res
  unfold f_X10_layDown at he
  unfold p_X10_layDown at hk
  refine r_weak (L1 := [some (.ref a), some (.int v0), none]) ⟨rfl, rfl, trivial⟩ ?_
  refine r_aload_n rfl rfl ?_
  refine r_iload_n rfl rfl ?_
  obtain ⟨hb0, hk⟩ := hk
  refine q_callV0 [_] _ rfl kY_X10_holder kT_X10_holder rfl rfl (Nat.le_of_ble_eq_true rfl) (Nat.le_of_ble_eq_true rfl) (cY_0 hya) (s_X10_holder hya hb0) (fun r h q => ?_)
  obtain ⟨rfl, rfl⟩ := q
  simp only [Option.toList, List.cons_append, List.nil_append]
  refine r_istore_n rfl (Nat.le_of_ble_eq_true rfl) rfl ?_
  refine r_iload_n rfl rfl ?_
  refine r_if_lt rfl (fun c_7 => ?_) (fun c_7 => ?_)
  · rw [if_pos c_7] at he
    replace hk := hk.1 c_7
    refine r_ret rfl rfl ?_
    subst he
    exact ⟨rfl, rfl⟩
  · rw [if_neg c_7] at he
    replace hk := hk.2 c_7
    refine r_iload_n rfl rfl ?_
    refine r_iconst_ (a := 4) rfl (by decide) ?_
    refine r_icmp_ge rfl (fun c_12 => ?_) (fun c_12 => ?_)
    · rw [if_pos c_12] at he
      replace hk := hk.1 c_12
      refine r_ret rfl rfl ?_
      subst he
      exact ⟨rfl, rfl⟩
    · rw [if_neg c_12] at he
      replace hk := hk.2 c_12
      refine r_aload_n rfl rfl ?_
      refine q_getfield rfl (cY_0 hya) rfl ?_
      refine r_iload_n rfl rfl ?_
      refine r_dup2 rfl rfl rfl ?_
      obtain ⟨hb1, hk⟩ := hk
      refine q_iald rfl (cY_5 hya) hb1 ?_
      refine r_iconst_ (a := 1) rfl (by decide) ?_
      refine r_isub rfl ?_
      obtain ⟨hb2, hk⟩ := hk
      refine w_iast rfl (cY_5 hya) hb2 ?_
      refine r_aload_n rfl rfl ?_
      refine q_getfield rfl (cY_0 hya) rfl ?_
      refine r_iload_n rfl rfl ?_
      refine r_aload_n rfl rfl ?_
      refine q_getfield rfl (cY_0 hya) rfl ?_
      refine r_iload_n rfl rfl ?_
      obtain ⟨hb3, hk⟩ := hk
      refine q_iald rfl (cY_3 hya) hb3 ?_
      obtain ⟨hb4, hk⟩ := hk
      refine w_iast rfl (cY_1 hya) hb4 ?_
      refine r_aload_n rfl rfl ?_
      refine q_getfield rfl (cY_0 hya) rfl ?_
      refine r_iload_n rfl rfl ?_
      refine r_iconst_ (a := 0) rfl (by decide) ?_
      obtain ⟨hb5, hk⟩ := hk
      refine w_iast rfl (cY_2 hya) hb5 ?_
      refine r_ret rfl rfl ?_
      subst he
      exact ⟨rfl, rfl⟩

def f_X12_token (v0 : Int32) (v1 : Int32) (v2 : Int32) (v3 : Int64) (s : fl_I) (l : fl_L) : fl_I × fl_L :=
  ((wi (wi (wi (wi s 63 (s 60 10).toNatClampNeg v0) 64 ((wi s 63 (s 60 10).toNatClampNeg v0) 60 10).toNatClampNeg v1) 65 ((wi (wi s 63 (s 60 10).toNatClampNeg v0) 64 ((wi s 63 (s 60 10).toNatClampNeg v0) 60 10).toNatClampNeg v1) 60 10).toNatClampNeg v2) 60 10 (((wi (wi (wi s 63 (s 60 10).toNatClampNeg v0) 64 ((wi s 63 (s 60 10).toNatClampNeg v0) 60 10).toNatClampNeg v1) 65 ((wi (wi s 63 (s 60 10).toNatClampNeg v0) 64 ((wi s 63 (s 60 10).toNatClampNeg v0) 60 10).toNatClampNeg v1) 60 10).toNatClampNeg v2) 60 10) + (1 : Int32))), (wl l 66 ((wi (wi (wi s 63 (s 60 10).toNatClampNeg v0) 64 ((wi s 63 (s 60 10).toNatClampNeg v0) 60 10).toNatClampNeg v1) 65 ((wi (wi s 63 (s 60 10).toNatClampNeg v0) 64 ((wi s 63 (s 60 10).toNatClampNeg v0) 60 10).toNatClampNeg v1) 60 10).toNatClampNeg v2) 60 10).toNatClampNeg v3))

def p_X12_token (v0 : Int32) (v1 : Int32) (v2 : Int32) (v3 : Int64) (s : fl_I) (l : fl_L) : Prop :=
  (vp_in (s 60 10) 403) ∧ (vp_in ((wi s 63 (s 60 10).toNatClampNeg v0) 60 10) 403) ∧ (vp_in ((wi (wi s 63 (s 60 10).toNatClampNeg v0) 64 ((wi s 63 (s 60 10).toNatClampNeg v0) 60 10).toNatClampNeg v1) 60 10) 403) ∧ (vp_in ((wi (wi (wi s 63 (s 60 10).toNatClampNeg v0) 64 ((wi s 63 (s 60 10).toNatClampNeg v0) 60 10).toNatClampNeg v1) 65 ((wi (wi s 63 (s 60 10).toNatClampNeg v0) 64 ((wi s 63 (s 60 10).toNatClampNeg v0) 60 10).toNatClampNeg v1) 60 10).toNatClampNeg v2) 60 10) 403) ∧ True

set_option maxRecDepth 100000 in
set_option maxHeartbeats 4000000 in
theorem s_X12_token {G : ab_G} {d : Nat} {D : fl_D} {s : fl_I} {l : fl_L} {v0 : Int32} {v1 : Int32} {v2 : Int32} {v3 : Int64} (hk : p_X12_token v0 v1 v2 v3 s l) : ab_C G d 0 0 M_X12_token 0 (ab_ent [.ref 60, .int v0, .int v1, .int v2, .long v3]) [] (hp D s l) (rt none (hp D (f_X12_token v0 v1 v2 v3 s l).1 (f_X12_token v0 v1 v2 v3 s l).2)) := by
  generalize he : (f_X12_token v0 v1 v2 v3 s l) = res
  unfold f_X12_token at he
  unfold p_X12_token at hk
  refine r_weak (L1 := [some (.ref 60), some (.int v0), some (.int v1), some (.int v2), some (.long v3), none]) ⟨rfl, rfl, rfl, rfl, rfl, trivial⟩ ?_
  refine r_aload_n rfl rfl ?_
  refine q_getfield rfl (cc_60 _) rfl ?_
  refine r_aload_n rfl rfl ?_
  refine q_getfield rfl (cc_60 _) rfl ?_
  refine r_iload_n rfl rfl ?_
  obtain ⟨hb0, hk⟩ := hk
  refine w_iast rfl (cc_63 _) hb0 ?_
  refine r_aload_n rfl rfl ?_
  refine q_getfield rfl (cc_60 _) rfl ?_
  refine r_aload_n rfl rfl ?_
  refine q_getfield rfl (cc_60 _) rfl ?_
  refine r_iload_n rfl rfl ?_
  obtain ⟨hb1, hk⟩ := hk
  refine w_iast rfl (cc_64 _) hb1 ?_
  refine r_aload_n rfl rfl ?_
  refine q_getfield rfl (cc_60 _) rfl ?_
  refine r_aload_n rfl rfl ?_
  refine q_getfield rfl (cc_60 _) rfl ?_
  refine r_iload_n rfl rfl ?_
  obtain ⟨hb2, hk⟩ := hk
  refine w_iast rfl (cc_65 _) hb2 ?_
  refine r_aload_n rfl rfl ?_
  refine q_getfield rfl (cc_60 _) rfl ?_
  refine r_aload_n rfl rfl ?_
  refine q_getfield rfl (cc_60 _) rfl ?_
  refine r_lload rfl rfl ?_
  obtain ⟨hb3, hk⟩ := hk
  refine w_last rfl (cc_66 _) hb3 ?_
  refine r_aload_n rfl rfl ?_
  refine r_dup rfl rfl ?_
  refine q_getfield rfl (cc_60 _) rfl ?_
  refine r_iconst_ (a := 1) rfl (by decide) ?_
  refine r_iadd rfl ?_
  refine w_put rfl (cc_60 _) ff_12_10 ft_12_10 (Nat.le_of_ble_eq_true rfl) rfl ?_
  refine r_ret rfl rfl ?_
  subst he
  exact ⟨rfl, rfl⟩

def f_X12_wrong (v0 : Int32) (v1 : Int32) (s : fl_I) (l : fl_L) : fl_I × fl_L :=
  if (0 < (s 60 13)) then (s, l) else if ((s 60 15) = 0) then ((wi (wi s 60 15 v0) 60 16 (s 64 v1.toNatClampNeg)), l) else if ((s 60 16) < (s 64 v1.toNatClampNeg)) then (s, l) else if ((s 64 v1.toNatClampNeg) = (s 60 16)) then if (v0 < (s 60 15)) then ((wi (wi s 60 15 v0) 60 16 (s 64 v1.toNatClampNeg)), l) else (s, l) else ((wi (wi s 60 15 v0) 60 16 (s 64 v1.toNatClampNeg)), l)

def p_X12_wrong (v0 : Int32) (v1 : Int32) (s : fl_I) (l : fl_L) : Prop :=
  (vp_in v1 403) ∧ (((0 < (s 60 13)) → True) ∧ (¬ (0 < (s 60 13)) → ((((s 60 15) = 0) → True) ∧ (¬ ((s 60 15) = 0) → ((((s 60 16) < (s 64 v1.toNatClampNeg)) → True) ∧ (¬ ((s 60 16) < (s 64 v1.toNatClampNeg)) → ((((s 64 v1.toNatClampNeg) = (s 60 16)) → (((v0 < (s 60 15)) → True) ∧ (¬ (v0 < (s 60 15)) → True))) ∧ (¬ ((s 64 v1.toNatClampNeg) = (s 60 16)) → True))))))))

set_option maxRecDepth 100000 in
set_option maxHeartbeats 4000000 in
theorem s_X12_wrong {G : ab_G} {d : Nat} {D : fl_D} {s : fl_I} {l : fl_L} {v0 : Int32} {v1 : Int32} (hk : p_X12_wrong v0 v1 s l) : ab_C G d 0 0 M_X12_wrong 0 (ab_ent [.ref 60, .int v0, .int v1]) [] (hp D s l) (rt none (hp D (f_X12_wrong v0 v1 s l).1 (f_X12_wrong v0 v1 s l).2)) := by
  generalize he : (f_X12_wrong v0 v1 s l) = res
  unfold f_X12_wrong at he
  unfold p_X12_wrong at hk
  refine r_weak (L1 := [some (.ref 60), some (.int v0), some (.int v1), none]) ⟨rfl, rfl, rfl, trivial⟩ ?_
  refine r_aload_n rfl rfl ?_
  refine q_getfield rfl (cc_60 _) rfl ?_
  refine r_iload_n rfl rfl ?_
  obtain ⟨hb0, hk⟩ := hk
  refine q_iald rfl (cc_64 _) hb0 ?_
  refine r_istore_n rfl (Nat.le_of_ble_eq_true rfl) rfl ?_
  refine r_aload_n rfl rfl ?_
  refine q_getfield rfl (cc_60 _) rfl ?_
  refine r_if_gt rfl (fun c_11 => ?_) (fun c_11 => ?_)
  · rw [if_pos c_11] at he
    replace hk := hk.1 c_11
    refine r_ret rfl rfl ?_
    subst he
    exact ⟨rfl, rfl⟩
  · rw [if_neg c_11] at he
    replace hk := hk.2 c_11
    refine r_aload_n rfl rfl ?_
    refine q_getfield rfl (cc_60 _) rfl ?_
    refine r_if_eq rfl (fun c_18 => ?_) (fun c_18 => ?_)
    · rw [if_pos c_18] at he
      replace hk := hk.1 c_18
      refine r_aload_n rfl rfl ?_
      refine r_iload_n rfl rfl ?_
      refine w_put rfl (cc_60 _) ff_12_15 ft_12_15 (Nat.le_of_ble_eq_true rfl) rfl ?_
      refine r_aload_n rfl rfl ?_
      refine r_iload_n rfl rfl ?_
      refine w_put rfl (cc_60 _) ff_12_16 ft_12_16 (Nat.le_of_ble_eq_true rfl) rfl ?_
      refine r_ret rfl rfl ?_
      subst he
      exact ⟨rfl, rfl⟩
    · rw [if_neg c_18] at he
      replace hk := hk.2 c_18
      refine r_iload_n rfl rfl ?_
      refine r_aload_n rfl rfl ?_
      refine q_getfield rfl (cc_60 _) rfl ?_
      refine r_icmp_gt rfl (fun c_26 => ?_) (fun c_26 => ?_)
      · rw [if_pos c_26] at he
        replace hk := hk.1 c_26
        refine r_ret rfl rfl ?_
        subst he
        exact ⟨rfl, rfl⟩
      · rw [if_neg c_26] at he
        replace hk := hk.2 c_26
        refine r_iload_n rfl rfl ?_
        refine r_aload_n rfl rfl ?_
        refine q_getfield rfl (cc_60 _) rfl ?_
        refine r_icmp_ne rfl (fun c_34 => ?_) (fun c_34 => ?_)
        · rw [if_neg c_34] at he
          replace hk := hk.2 c_34
          refine r_aload_n rfl rfl ?_
          refine r_iload_n rfl rfl ?_
          refine w_put rfl (cc_60 _) ff_12_15 ft_12_15 (Nat.le_of_ble_eq_true rfl) rfl ?_
          refine r_aload_n rfl rfl ?_
          refine r_iload_n rfl rfl ?_
          refine w_put rfl (cc_60 _) ff_12_16 ft_12_16 (Nat.le_of_ble_eq_true rfl) rfl ?_
          refine r_ret rfl rfl ?_
          subst he
          exact ⟨rfl, rfl⟩
        · rw [if_pos c_34] at he
          replace hk := hk.1 c_34
          refine r_iload_n rfl rfl ?_
          refine r_aload_n rfl rfl ?_
          refine q_getfield rfl (cc_60 _) rfl ?_
          refine r_icmp_lt rfl (fun c_42 => ?_) (fun c_42 => ?_)
          · rw [if_pos c_42] at he
            replace hk := hk.1 c_42
            refine r_aload_n rfl rfl ?_
            refine r_iload_n rfl rfl ?_
            refine w_put rfl (cc_60 _) ff_12_15 ft_12_15 (Nat.le_of_ble_eq_true rfl) rfl ?_
            refine r_aload_n rfl rfl ?_
            refine r_iload_n rfl rfl ?_
            refine w_put rfl (cc_60 _) ff_12_16 ft_12_16 (Nat.le_of_ble_eq_true rfl) rfl ?_
            refine r_ret rfl rfl ?_
            subst he
            exact ⟨rfl, rfl⟩
          · rw [if_neg c_42] at he
            replace hk := hk.2 c_42
            refine r_ret rfl rfl ?_
            subst he
            exact ⟨rfl, rfl⟩

def f_X5_addPicker (v0 : Int64) (v1 : Int32) (v2 : Int32) (t : Nat) (s : fl_I) (l : fl_L) : fl_I × fl_L :=
  if ((s t 2) < 0) then (s, l) else if ((4 : Int32) ≤ (s t 2)) then (s, l) else ((wi (wi (wi s (t + 7) (s t 2).toNatClampNeg v1) (t + 8) ((wi s (t + 7) (s t 2).toNatClampNeg v1) t 2).toNatClampNeg v2) t 2 (((wi (wi s (t + 7) (s t 2).toNatClampNeg v1) (t + 8) ((wi s (t + 7) (s t 2).toNatClampNeg v1) t 2).toNatClampNeg v2) t 2) + (1 : Int32))), (wl l (t + 3) (s t 2).toNatClampNeg v0))

def p_X5_addPicker (v0 : Int64) (v1 : Int32) (v2 : Int32) (t : Nat) (s : fl_I) (l : fl_L) : Prop :=
  ((((s t 2) < 0) → True) ∧ (¬ ((s t 2) < 0) → ((((4 : Int32) ≤ (s t 2)) → True) ∧ (¬ ((4 : Int32) ≤ (s t 2)) → (vp_in (s t 2) 4) ∧ (vp_in (s t 2) 4) ∧ (vp_in ((wi s (t + 7) (s t 2).toNatClampNeg v1) t 2) 4) ∧ True))))

set_option maxRecDepth 100000 in
set_option maxHeartbeats 4000000 in
theorem s_X5_addPicker {G : ab_G} {d : Nat} {D : fl_D} {s : fl_I} {l : fl_L} {t : Nat} (htt : isT t) {v0 : Int64} {v1 : Int32} {v2 : Int32} (hk : p_X5_addPicker v0 v1 v2 t s l) : ab_C G d 0 0 M_X5_addPicker 0 (ab_ent [.ref t, .long v0, .int v1, .int v2]) [] (hp D s l) (rt none (hp D (f_X5_addPicker v0 v1 v2 t s l).1 (f_X5_addPicker v0 v1 v2 t s l).2)) := by
  generalize he : (f_X5_addPicker v0 v1 v2 t s l) = res
  unfold f_X5_addPicker at he
  unfold p_X5_addPicker at hk
  refine r_weak (L1 := [some (.ref t), some (.long v0), none, some (.int v1), some (.int v2)]) ⟨rfl, rfl, rfl, rfl, trivial⟩ ?_
  refine r_aload_n rfl rfl ?_
  refine q_getfield rfl (cT_0 htt) rfl ?_
  refine r_if_lt rfl (fun c_4 => ?_) (fun c_4 => ?_)
  · rw [if_pos c_4] at he
    replace hk := hk.1 c_4
    refine r_ret rfl rfl ?_
    subst he
    exact ⟨rfl, rfl⟩
  · rw [if_neg c_4] at he
    replace hk := hk.2 c_4
    refine r_aload_n rfl rfl ?_
    refine q_getfield rfl (cT_0 htt) rfl ?_
    refine r_iconst_ (a := 4) rfl (by decide) ?_
    refine r_icmp_ge rfl (fun c_12 => ?_) (fun c_12 => ?_)
    · rw [if_pos c_12] at he
      replace hk := hk.1 c_12
      refine r_ret rfl rfl ?_
      subst he
      exact ⟨rfl, rfl⟩
    · rw [if_neg c_12] at he
      replace hk := hk.2 c_12
      refine r_aload_n rfl rfl ?_
      refine q_getfield rfl (cT_0 htt) rfl ?_
      refine r_aload_n rfl rfl ?_
      refine q_getfield rfl (cT_0 htt) rfl ?_
      refine r_lload_n rfl rfl ?_
      obtain ⟨hb0, hk⟩ := hk
      refine w_last rfl (cT_3 htt) hb0 ?_
      refine r_aload_n rfl rfl ?_
      refine q_getfield rfl (cT_0 htt) rfl ?_
      refine r_aload_n rfl rfl ?_
      refine q_getfield rfl (cT_0 htt) rfl ?_
      refine r_iload_n rfl rfl ?_
      obtain ⟨hb1, hk⟩ := hk
      refine w_iast rfl (cT_7 htt) hb1 ?_
      refine r_aload_n rfl rfl ?_
      refine q_getfield rfl (cT_0 htt) rfl ?_
      refine r_aload_n rfl rfl ?_
      refine q_getfield rfl (cT_0 htt) rfl ?_
      refine r_iload rfl rfl ?_
      obtain ⟨hb2, hk⟩ := hk
      refine w_iast rfl (cT_8 htt) hb2 ?_
      refine r_aload_n rfl rfl ?_
      refine r_dup rfl rfl ?_
      refine q_getfield rfl (cT_0 htt) rfl ?_
      refine r_iconst_ (a := 1) rfl (by decide) ?_
      refine r_iadd rfl ?_
      refine w_put rfl (cT_0 htt) ff_5_2 ft_5_2 (Nat.le_of_ble_eq_true rfl) rfl ?_
      refine r_ret rfl rfl ?_
      subst he
      exact ⟨rfl, rfl⟩

def f_X10_countAll_7 : Nat → Int32 → Nat → Nat → fl_I → fl_L → fl_I × fl_L
  | 0, x2, a, q, s, l => (s, l)
  | n + 1, x2, a, q, s, l =>
    if ((s a 1) ≤ x2) then (s, l) else if ((s (a + 1) x2.toNatClampNeg) < 0) then f_X10_countAll_7 n (x2 + 1) a q s l else if ((80 : Int32) ≤ (s (a + 1) x2.toNatClampNeg)) then f_X10_countAll_7 n (x2 + 1) a q s l else if ((80 : Int32) ≤ (s (a + 1) x2.toNatClampNeg)) then f_X10_countAll_7 n (x2 + 1) a q s l else f_X10_countAll_7 n (x2 + 1) a q (wi s q (s (a + 1) x2.toNatClampNeg).toNatClampNeg ((s q (s (a + 1) x2.toNatClampNeg).toNatClampNeg) + (1 : Int32))) l

def p_X10_countAll_7 : Nat → Int32 → Nat → Nat → fl_I → fl_L → Prop
  | 0, _, _, _, _, _ => False
  | n + 1, x2, a, q, s, l =>
    ((((s a 1) ≤ x2) → True) ∧ (¬ ((s a 1) ≤ x2) → (vp_in x2 32) ∧ ((((s (a + 1) x2.toNatClampNeg) < 0) → p_X10_countAll_7 n (x2 + 1) a q s l) ∧ (¬ ((s (a + 1) x2.toNatClampNeg) < 0) → ((((80 : Int32) ≤ (s (a + 1) x2.toNatClampNeg)) → p_X10_countAll_7 n (x2 + 1) a q s l) ∧ (¬ ((80 : Int32) ≤ (s (a + 1) x2.toNatClampNeg)) → ((((80 : Int32) ≤ (s (a + 1) x2.toNatClampNeg)) → p_X10_countAll_7 n (x2 + 1) a q s l) ∧ (¬ ((80 : Int32) ≤ (s (a + 1) x2.toNatClampNeg)) → (vp_in (s (a + 1) x2.toNatClampNeg) 80) ∧ (vp_in (s (a + 1) x2.toNatClampNeg) 80) ∧ p_X10_countAll_7 n (x2 + 1) a q (wi s q (s (a + 1) x2.toNatClampNeg).toNatClampNeg ((s q (s (a + 1) x2.toNatClampNeg).toNatClampNeg) + (1 : Int32))) l))))))))

set_option maxRecDepth 100000 in
set_option maxHeartbeats 4000000 in
theorem lp_X10_countAll_7 {G : ab_G} {d : Nat} {D : fl_D} {a : Nat} (hya : isY D a) {q : Nat} (hcq : ∀ f g, cl D q f g = some (.inl (0, 80, .inl f))) : ∀ (n : Nat) (x2 : Int32) (s : fl_I) (l : fl_L), p_X10_countAll_7 n x2 a q s l → ab_C G (d + 1) 0 0 M_X10_countAll 7 [some (.ref a), some (.ref q), some (.int x2), none] [] (hp D s l) (rt none (hp D (f_X10_countAll_7 n x2 a q s l).1 (f_X10_countAll_7 n x2 a q s l).2)) := by
  intro n
  induction n with
  | zero => intro x2 s l hk; exact hk.elim
  | succ n ih =>
    intro x2 s l hk
    generalize he : f_X10_countAll_7 (n + 1) x2 a q s l = res
    unfold f_X10_countAll_7 at he
    unfold p_X10_countAll_7 at hk
    refine r_iload_n rfl rfl ?_
    refine r_aload_n rfl rfl ?_
    refine q_getfield rfl (cY_0 hya) rfl ?_
    refine r_icmp_ge rfl (fun c_12 => ?_) (fun c_12 => ?_)
    · rw [if_pos c_12] at he
      replace hk := hk.1 c_12
      refine r_ret rfl rfl ?_
      subst he
      exact ⟨rfl, rfl⟩
    · rw [if_neg c_12] at he
      replace hk := hk.2 c_12
      refine r_aload_n rfl rfl ?_
      refine q_getfield rfl (cY_0 hya) rfl ?_
      refine r_iload_n rfl rfl ?_
      obtain ⟨hb0, hk⟩ := hk
      refine q_iald rfl (cY_1 hya) hb0 ?_
      refine r_istore_n rfl (Nat.le_of_ble_eq_true rfl) rfl ?_
      refine r_iload_n rfl rfl ?_
      refine r_if_lt rfl (fun c_23 => ?_) (fun c_23 => ?_)
      · rw [if_pos c_23] at he
        replace hk := hk.1 c_23
        refine r_iinc (b := x2 + 1) rfl rfl rfl (Nat.le_of_ble_eq_true rfl) rfl ?_
        refine r_goto rfl ?_
        subst he
        exact r_weak (L1 := [some (.ref a), some (.ref q), some (.int (x2 + 1)), none]) ⟨rfl, rfl, rfl, trivial⟩ (ih _ _ _ hk)
      · rw [if_neg c_23] at he
        replace hk := hk.2 c_23
        refine r_iload_n rfl rfl ?_
        refine r_bipush_ (a := 80) rfl (by decide) ?_
        refine r_icmp_ge rfl (fun c_29 => ?_) (fun c_29 => ?_)
        · rw [if_pos c_29] at he
          replace hk := hk.1 c_29
          refine r_iinc (b := x2 + 1) rfl rfl rfl (Nat.le_of_ble_eq_true rfl) rfl ?_
          refine r_goto rfl ?_
          subst he
          exact r_weak (L1 := [some (.ref a), some (.ref q), some (.int (x2 + 1)), none]) ⟨rfl, rfl, rfl, trivial⟩ (ih _ _ _ hk)
        · rw [if_neg c_29] at he
          replace hk := hk.2 c_29
          refine r_iload_n rfl rfl ?_
          refine r_aload_n rfl rfl ?_
          refine q_alen (v := (80 : Int32)) rfl hcq (Nat.le_of_ble_eq_true rfl) rfl ?_
          refine r_icmp_ge rfl (fun c_35 => ?_) (fun c_35 => ?_)
          · rw [if_pos c_35] at he
            replace hk := hk.1 c_35
            refine r_iinc (b := x2 + 1) rfl rfl rfl (Nat.le_of_ble_eq_true rfl) rfl ?_
            refine r_goto rfl ?_
            subst he
            exact r_weak (L1 := [some (.ref a), some (.ref q), some (.int (x2 + 1)), none]) ⟨rfl, rfl, rfl, trivial⟩ (ih _ _ _ hk)
          · rw [if_neg c_35] at he
            replace hk := hk.2 c_35
            refine r_aload_n rfl rfl ?_
            refine r_iload_n rfl rfl ?_
            refine r_dup2 rfl rfl rfl ?_
            obtain ⟨hb1, hk⟩ := hk
            refine q_iald rfl hcq hb1 ?_
            refine r_iconst_ (a := 1) rfl (by decide) ?_
            refine r_iadd rfl ?_
            obtain ⟨hb2, hk⟩ := hk
            refine w_iast rfl hcq hb2 ?_
            refine r_iinc (b := x2 + 1) rfl rfl rfl (Nat.le_of_ble_eq_true rfl) rfl ?_
            refine r_goto rfl ?_
            subst he
            exact r_weak (L1 := [some (.ref a), some (.ref q), some (.int (x2 + 1)), none]) ⟨rfl, rfl, rfl, trivial⟩ (ih _ _ _ hk)

def f_X10_countAll (a : Nat) (q : Nat) (s : fl_I) (l : fl_L) : fl_I × fl_L :=
  f_X10_countAll_7 fu (0 : Int32) a q (fl_fill (0 : Int32) q 80 s l).1 (fl_fill (0 : Int32) q 80 s l).2

def p_X10_countAll (a : Nat) (q : Nat) (s : fl_I) (l : fl_L) : Prop :=
  p_X10_countAll_7 fu (0 : Int32) a q (fl_fill (0 : Int32) q 80 s l).1 (fl_fill (0 : Int32) q 80 s l).2

set_option maxRecDepth 100000 in
set_option maxHeartbeats 4000000 in
theorem s_X10_countAll {G : ab_G} {d : Nat} {D : fl_D} {s : fl_I} {l : fl_L} {a : Nat} (hya : isY D a) {q : Nat} (hcq : ∀ f g, cl D q f g = some (.inl (0, 80, .inl f)))  (hk : p_X10_countAll a q s l) : ab_C G (d + 1) 0 0 M_X10_countAll 0 (ab_ent [.ref a, .ref q]) [] (hp D s l) (rt none (hp D (f_X10_countAll a q s l).1 (f_X10_countAll a q s l).2)) := by
  generalize he : (f_X10_countAll a q s l) = res
  unfold f_X10_countAll at he
  unfold p_X10_countAll at hk
  refine r_weak (L1 := [some (.ref a), some (.ref q), none, none]) ⟨rfl, rfl, trivial⟩ ?_
  refine r_aload_n rfl rfl ?_
  refine r_iconst_ (a := 0) rfl (by decide) ?_
  refine r_callS0 [_, _] _ rfl kY_J7_fill_53178 kT_J7_fill_53178 rfl rfl (Nat.le_of_ble_eq_true rfl) (Nat.le_of_ble_eq_true rfl) (s_fill hcq (by omega)) (fun r h q => ?_)
  obtain ⟨rfl, rfl⟩ := q
  simp only [Option.toList, List.cons_append, List.nil_append]
  refine r_iconst_ (a := 0) rfl (by decide) ?_
  refine r_istore_n rfl (Nat.le_of_ble_eq_true rfl) rfl ?_
  subst he
  exact r_weak (L1 := [some (.ref a), some (.ref q), some (.int (0 : Int32)), none]) ⟨rfl, rfl, rfl, trivial⟩ (lp_X10_countAll_7 hya hcq fu _ _ _ hk)

def f_X11_feed (v0 : Int32) (v1 : Int32) (v2 : Int32) (v3 : Int32) (v4 : Int32) (s : fl_I) (l : fl_L) : Int32 × fl_I × fl_L :=
  if (((s 1 1) + (20 : Int32)) ≤ (2000 : Int32)) then (((f_X4_add v4 (f_X4_add v3 (f_X4_add v2 (f_X4_add v1 (f_X4_add v0 s l).1 (f_X4_add v0 s l).2).1 (f_X4_add v1 (f_X4_add v0 s l).1 (f_X4_add v0 s l).2).2).1 (f_X4_add v2 (f_X4_add v1 (f_X4_add v0 s l).1 (f_X4_add v0 s l).2).1 (f_X4_add v1 (f_X4_add v0 s l).1 (f_X4_add v0 s l).2).2).2).1 (f_X4_add v3 (f_X4_add v2 (f_X4_add v1 (f_X4_add v0 s l).1 (f_X4_add v0 s l).2).1 (f_X4_add v1 (f_X4_add v0 s l).1 (f_X4_add v0 s l).2).2).1 (f_X4_add v2 (f_X4_add v1 (f_X4_add v0 s l).1 (f_X4_add v0 s l).2).1 (f_X4_add v1 (f_X4_add v0 s l).1 (f_X4_add v0 s l).2).2).2).2).1 1 1), (f_X4_add v4 (f_X4_add v3 (f_X4_add v2 (f_X4_add v1 (f_X4_add v0 s l).1 (f_X4_add v0 s l).2).1 (f_X4_add v1 (f_X4_add v0 s l).1 (f_X4_add v0 s l).2).2).1 (f_X4_add v2 (f_X4_add v1 (f_X4_add v0 s l).1 (f_X4_add v0 s l).2).1 (f_X4_add v1 (f_X4_add v0 s l).1 (f_X4_add v0 s l).2).2).2).1 (f_X4_add v3 (f_X4_add v2 (f_X4_add v1 (f_X4_add v0 s l).1 (f_X4_add v0 s l).2).1 (f_X4_add v1 (f_X4_add v0 s l).1 (f_X4_add v0 s l).2).2).1 (f_X4_add v2 (f_X4_add v1 (f_X4_add v0 s l).1 (f_X4_add v0 s l).2).1 (f_X4_add v1 (f_X4_add v0 s l).1 (f_X4_add v0 s l).2).2).2).2).1, (f_X4_add v4 (f_X4_add v3 (f_X4_add v2 (f_X4_add v1 (f_X4_add v0 s l).1 (f_X4_add v0 s l).2).1 (f_X4_add v1 (f_X4_add v0 s l).1 (f_X4_add v0 s l).2).2).1 (f_X4_add v2 (f_X4_add v1 (f_X4_add v0 s l).1 (f_X4_add v0 s l).2).1 (f_X4_add v1 (f_X4_add v0 s l).1 (f_X4_add v0 s l).2).2).2).1 (f_X4_add v3 (f_X4_add v2 (f_X4_add v1 (f_X4_add v0 s l).1 (f_X4_add v0 s l).2).1 (f_X4_add v1 (f_X4_add v0 s l).1 (f_X4_add v0 s l).2).2).1 (f_X4_add v2 (f_X4_add v1 (f_X4_add v0 s l).1 (f_X4_add v0 s l).2).1 (f_X4_add v1 (f_X4_add v0 s l).1 (f_X4_add v0 s l).2).2).2).2).2) else ((-1 : Int32), s, l)

def p_X11_feed (v0 : Int32) (v1 : Int32) (v2 : Int32) (v3 : Int32) (v4 : Int32) (s : fl_I) (l : fl_L) : Prop :=
  (((((s 1 1) + (20 : Int32)) ≤ (2000 : Int32)) → (p_X4_add v0 s l) ∧ (p_X4_add v1 (f_X4_add v0 s l).1 (f_X4_add v0 s l).2) ∧ (p_X4_add v2 (f_X4_add v1 (f_X4_add v0 s l).1 (f_X4_add v0 s l).2).1 (f_X4_add v1 (f_X4_add v0 s l).1 (f_X4_add v0 s l).2).2) ∧ (p_X4_add v3 (f_X4_add v2 (f_X4_add v1 (f_X4_add v0 s l).1 (f_X4_add v0 s l).2).1 (f_X4_add v1 (f_X4_add v0 s l).1 (f_X4_add v0 s l).2).2).1 (f_X4_add v2 (f_X4_add v1 (f_X4_add v0 s l).1 (f_X4_add v0 s l).2).1 (f_X4_add v1 (f_X4_add v0 s l).1 (f_X4_add v0 s l).2).2).2) ∧ (p_X4_add v4 (f_X4_add v3 (f_X4_add v2 (f_X4_add v1 (f_X4_add v0 s l).1 (f_X4_add v0 s l).2).1 (f_X4_add v1 (f_X4_add v0 s l).1 (f_X4_add v0 s l).2).2).1 (f_X4_add v2 (f_X4_add v1 (f_X4_add v0 s l).1 (f_X4_add v0 s l).2).1 (f_X4_add v1 (f_X4_add v0 s l).1 (f_X4_add v0 s l).2).2).2).1 (f_X4_add v3 (f_X4_add v2 (f_X4_add v1 (f_X4_add v0 s l).1 (f_X4_add v0 s l).2).1 (f_X4_add v1 (f_X4_add v0 s l).1 (f_X4_add v0 s l).2).2).1 (f_X4_add v2 (f_X4_add v1 (f_X4_add v0 s l).1 (f_X4_add v0 s l).2).1 (f_X4_add v1 (f_X4_add v0 s l).1 (f_X4_add v0 s l).2).2).2).2) ∧ True) ∧ (¬ (((s 1 1) + (20 : Int32)) ≤ (2000 : Int32)) → True))

set_option maxRecDepth 100000 in
set_option maxHeartbeats 4000000 in
theorem s_X11_feed {G : ab_G} {d : Nat} {D : fl_D} {s : fl_I} {l : fl_L} {v0 : Int32} {v1 : Int32} {v2 : Int32} {v3 : Int32} {v4 : Int32} (hk : p_X11_feed v0 v1 v2 v3 v4 s l) : ab_C G (d + 1) 0 0 M_X11_feed 0 (ab_ent [.ref 0, .int v0, .int v1, .int v2, .int v3, .int v4]) [] (hp D s l) (rt (some (.int (f_X11_feed v0 v1 v2 v3 v4 s l).1)) (hp D (f_X11_feed v0 v1 v2 v3 v4 s l).2.1 (f_X11_feed v0 v1 v2 v3 v4 s l).2.2)) := by
  generalize he : (f_X11_feed v0 v1 v2 v3 v4 s l) = res
  unfold f_X11_feed at he
  unfold p_X11_feed at hk
  refine r_weak (L1 := [some (.ref 0), some (.int v0), some (.int v1), some (.int v2), some (.int v3), some (.int v4)]) ⟨rfl, rfl, rfl, rfl, rfl, rfl, trivial⟩ ?_
  refine r_aload_n rfl rfl ?_
  refine q_getfield rfl (cc_0 _) rfl ?_
  refine q_getfield rfl (cc_1 _) rfl ?_
  refine r_bipush_ (a := 20) rfl (by decide) ?_
  refine r_iadd rfl ?_
  refine r_sipush_ (a := 2000) rfl (by decide) ?_
  refine r_icmp_le rfl (fun c_13 => ?_) (fun c_13 => ?_)
  · rw [if_pos c_13] at he
    replace hk := hk.1 c_13
    refine r_aload_n rfl rfl ?_
    refine q_getfield rfl (cc_0 _) rfl ?_
    refine r_iload_n rfl rfl ?_
    obtain ⟨hb0, hk⟩ := hk
    refine q_callV0 [_] _ rfl kY_X4_add kT_X4_add rfl rfl (Nat.le_of_ble_eq_true rfl) (Nat.le_of_ble_eq_true rfl) (cc_1 _) (s_X4_add hb0) (fun r h q => ?_)
    obtain ⟨rfl, rfl⟩ := q
    simp only [Option.toList, List.cons_append, List.nil_append]
    refine r_aload_n rfl rfl ?_
    refine q_getfield rfl (cc_0 _) rfl ?_
    refine r_iload_n rfl rfl ?_
    obtain ⟨hb1, hk⟩ := hk
    refine q_callV0 [_] _ rfl kY_X4_add kT_X4_add rfl rfl (Nat.le_of_ble_eq_true rfl) (Nat.le_of_ble_eq_true rfl) (cc_1 _) (s_X4_add hb1) (fun r h q => ?_)
    obtain ⟨rfl, rfl⟩ := q
    simp only [Option.toList, List.cons_append, List.nil_append]
    refine r_aload_n rfl rfl ?_
    refine q_getfield rfl (cc_0 _) rfl ?_
    refine r_iload_n rfl rfl ?_
    obtain ⟨hb2, hk⟩ := hk
    refine q_callV0 [_] _ rfl kY_X4_add kT_X4_add rfl rfl (Nat.le_of_ble_eq_true rfl) (Nat.le_of_ble_eq_true rfl) (cc_1 _) (s_X4_add hb2) (fun r h q => ?_)
    obtain ⟨rfl, rfl⟩ := q
    simp only [Option.toList, List.cons_append, List.nil_append]
    refine r_aload_n rfl rfl ?_
    refine q_getfield rfl (cc_0 _) rfl ?_
    refine r_iload rfl rfl ?_
    obtain ⟨hb3, hk⟩ := hk
    refine q_callV0 [_] _ rfl kY_X4_add kT_X4_add rfl rfl (Nat.le_of_ble_eq_true rfl) (Nat.le_of_ble_eq_true rfl) (cc_1 _) (s_X4_add hb3) (fun r h q => ?_)
    obtain ⟨rfl, rfl⟩ := q
    simp only [Option.toList, List.cons_append, List.nil_append]
    refine r_aload_n rfl rfl ?_
    refine q_getfield rfl (cc_0 _) rfl ?_
    refine r_iload rfl rfl ?_
    obtain ⟨hb4, hk⟩ := hk
    refine q_callV0 [_] _ rfl kY_X4_add kT_X4_add rfl rfl (Nat.le_of_ble_eq_true rfl) (Nat.le_of_ble_eq_true rfl) (cc_1 _) (s_X4_add hb4) (fun r h q => ?_)
    obtain ⟨rfl, rfl⟩ := q
    simp only [Option.toList, List.cons_append, List.nil_append]
    refine r_aload_n rfl rfl ?_
    refine q_getfield rfl (cc_0 _) rfl ?_
    refine q_getfield rfl (cc_1 _) rfl ?_
    refine r_iret rfl rfl rfl ?_
    subst he
    exact ⟨rfl, rfl⟩
  · rw [if_neg c_13] at he
    replace hk := hk.2 c_13
    refine r_iconst_ (a := -1) rfl (by decide) ?_
    refine r_iret rfl rfl rfl ?_
    subst he
    exact ⟨rfl, rfl⟩

def f_X12_bounded (v0 : Int32) (v1 : Int32) (s : fl_I) (l : fl_L) : Int32 × fl_I × fl_L :=
  if (0 < (s 60 13)) then (v0, (f_X12_fail (1 : Int32) s l).1, (f_X12_fail (1 : Int32) s l).2) else if ((f_X12_is (2 : Int32) s l) = 0) then (v0, (f_X12_fail (1 : Int32) s l).1, (f_X12_fail (1 : Int32) s l).2) else if ((s 65 (s 60 11).toNatClampNeg) < v0) then ((s 65 (s 60 11).toNatClampNeg), (f_X12_goesOn (f_X12_wrong (5 : Int32) (s 60 11) s l).1 (f_X12_wrong (5 : Int32) (s 60 11) s l).2).1, (f_X12_goesOn (f_X12_wrong (5 : Int32) (s 60 11) s l).1 (f_X12_wrong (5 : Int32) (s 60 11) s l).2).2) else if ((s 65 (s 60 11).toNatClampNeg) ≤ v1) then ((s 65 (s 60 11).toNatClampNeg), (f_X12_goesOn s l).1, (f_X12_goesOn s l).2) else ((s 65 (s 60 11).toNatClampNeg), (f_X12_goesOn (f_X12_wrong (5 : Int32) (s 60 11) s l).1 (f_X12_wrong (5 : Int32) (s 60 11) s l).2).1, (f_X12_goesOn (f_X12_wrong (5 : Int32) (s 60 11) s l).1 (f_X12_wrong (5 : Int32) (s 60 11) s l).2).2)

def p_X12_bounded (v0 : Int32) (v1 : Int32) (s : fl_I) (l : fl_L) : Prop :=
  (((0 < (s 60 13)) → (p_X12_fail (1 : Int32) s l) ∧ True) ∧ (¬ (0 < (s 60 13)) → (p_X12_is (2 : Int32) s l) ∧ ((((f_X12_is (2 : Int32) s l) = 0) → (p_X12_fail (1 : Int32) s l) ∧ True) ∧ (¬ ((f_X12_is (2 : Int32) s l) = 0) → (vp_in (s 60 11) 403) ∧ ((((s 65 (s 60 11).toNatClampNeg) < v0) → (p_X12_wrong (5 : Int32) (s 60 11) s l) ∧ (p_X12_goesOn (f_X12_wrong (5 : Int32) (s 60 11) s l).1 (f_X12_wrong (5 : Int32) (s 60 11) s l).2) ∧ True) ∧ (¬ ((s 65 (s 60 11).toNatClampNeg) < v0) → ((((s 65 (s 60 11).toNatClampNeg) ≤ v1) → (p_X12_goesOn s l) ∧ True) ∧ (¬ ((s 65 (s 60 11).toNatClampNeg) ≤ v1) → (p_X12_wrong (5 : Int32) (s 60 11) s l) ∧ (p_X12_goesOn (f_X12_wrong (5 : Int32) (s 60 11) s l).1 (f_X12_wrong (5 : Int32) (s 60 11) s l).2) ∧ True))))))))

set_option maxRecDepth 100000 in
set_option maxHeartbeats 4000000 in
theorem s_X12_bounded {G : ab_G} {d : Nat} {D : fl_D} {s : fl_I} {l : fl_L} {v0 : Int32} {v1 : Int32} (hk : p_X12_bounded v0 v1 s l) : ab_C G (d + 2) 0 0 M_X12_bounded 0 (ab_ent [.ref 60, .int v0, .int v1]) [] (hp D s l) (rt (some (.int (f_X12_bounded v0 v1 s l).1)) (hp D (f_X12_bounded v0 v1 s l).2.1 (f_X12_bounded v0 v1 s l).2.2)) := by
  generalize he : (f_X12_bounded v0 v1 s l) = res
  unfold f_X12_bounded at he
  unfold p_X12_bounded at hk
  refine r_weak (L1 := [some (.ref 60), some (.int v0), some (.int v1), none]) ⟨rfl, rfl, rfl, trivial⟩ ?_
  refine r_aload_n rfl rfl ?_
  refine q_getfield rfl (cc_60 _) rfl ?_
  refine r_if_gt rfl (fun c_4 => ?_) (fun c_4 => ?_)
  · rw [if_pos c_4] at he
    replace hk := hk.1 c_4
    refine r_aload_n rfl rfl ?_
    refine r_iconst_ (a := 1) rfl (by decide) ?_
    obtain ⟨hb0, hk⟩ := hk
    refine q_callV0 [_] _ rfl kY_X12_fail kT_X12_fail rfl rfl (Nat.le_of_ble_eq_true rfl) (Nat.le_of_ble_eq_true rfl) (cc_60 _) (s_X12_fail hb0) (fun r h q => ?_)
    obtain ⟨rfl, rfl⟩ := q
    simp only [Option.toList, List.cons_append, List.nil_append]
    refine r_iload_n rfl rfl ?_
    refine r_iret rfl rfl rfl ?_
    subst he
    exact ⟨rfl, rfl⟩
  · rw [if_neg c_4] at he
    replace hk := hk.2 c_4
    refine r_aload_n rfl rfl ?_
    refine r_iconst_ (a := 2) rfl (by decide) ?_
    obtain ⟨hb1, hk⟩ := hk
    refine q_callV0 [_] _ rfl kY_X12_is kT_X12_is rfl rfl (Nat.le_of_ble_eq_true rfl) (Nat.le_of_ble_eq_true rfl) (cc_60 _) (s_X12_is hb1) (fun r h q => ?_)
    obtain ⟨rfl, rfl⟩ := q
    simp only [Option.toList, List.cons_append, List.nil_append]
    refine r_if_ne rfl (fun c_12 => ?_) (fun c_12 => ?_)
    · rw [if_neg c_12] at he
      replace hk := hk.2 c_12
      refine r_aload_n rfl rfl ?_
      refine q_getfield rfl (cc_60 _) rfl ?_
      refine r_aload_n rfl rfl ?_
      refine q_getfield rfl (cc_60 _) rfl ?_
      obtain ⟨hb2, hk⟩ := hk
      refine q_iald rfl (cc_65 _) hb2 ?_
      refine r_istore_n rfl (Nat.le_of_ble_eq_true rfl) rfl ?_
      refine r_iload_n rfl rfl ?_
      refine r_iload_n rfl rfl ?_
      refine r_icmp_lt rfl (fun c_34 => ?_) (fun c_34 => ?_)
      · rw [if_pos c_34] at he
        replace hk := hk.1 c_34
        refine r_aload_n rfl rfl ?_
        refine r_iconst_ (a := 5) rfl (by decide) ?_
        refine r_aload_n rfl rfl ?_
        refine q_getfield rfl (cc_60 _) rfl ?_
        obtain ⟨hb3, hk⟩ := hk
        refine q_callV0 [_, _] _ rfl kY_X12_wrong kT_X12_wrong rfl rfl (Nat.le_of_ble_eq_true rfl) (Nat.le_of_ble_eq_true rfl) (cc_60 _) (s_X12_wrong hb3) (fun r h q => ?_)
        obtain ⟨rfl, rfl⟩ := q
        simp only [Option.toList, List.cons_append, List.nil_append]
        refine r_aload_n rfl rfl ?_
        obtain ⟨hb4, hk⟩ := hk
        refine q_callV0 [] _ rfl kY_X12_goesOn kT_X12_goesOn rfl rfl (Nat.le_of_ble_eq_true rfl) (Nat.le_of_ble_eq_true rfl) (cc_60 _) (s_X12_goesOn hb4) (fun r h q => ?_)
        obtain ⟨rfl, rfl⟩ := q
        simp only [Option.toList, List.cons_append, List.nil_append]
        refine r_iload_n rfl rfl ?_
        refine r_iret rfl rfl rfl ?_
        subst he
        exact ⟨rfl, rfl⟩
      · rw [if_neg c_34] at he
        replace hk := hk.2 c_34
        refine r_iload_n rfl rfl ?_
        refine r_iload_n rfl rfl ?_
        refine r_icmp_le rfl (fun c_39 => ?_) (fun c_39 => ?_)
        · rw [if_pos c_39] at he
          replace hk := hk.1 c_39
          refine r_aload_n rfl rfl ?_
          obtain ⟨hb5, hk⟩ := hk
          refine q_callV0 [] _ rfl kY_X12_goesOn kT_X12_goesOn rfl rfl (Nat.le_of_ble_eq_true rfl) (Nat.le_of_ble_eq_true rfl) (cc_60 _) (s_X12_goesOn hb5) (fun r h q => ?_)
          obtain ⟨rfl, rfl⟩ := q
          simp only [Option.toList, List.cons_append, List.nil_append]
          refine r_iload_n rfl rfl ?_
          refine r_iret rfl rfl rfl ?_
          subst he
          exact ⟨rfl, rfl⟩
        · rw [if_neg c_39] at he
          replace hk := hk.2 c_39
          refine r_aload_n rfl rfl ?_
          refine r_iconst_ (a := 5) rfl (by decide) ?_
          refine r_aload_n rfl rfl ?_
          refine q_getfield rfl (cc_60 _) rfl ?_
          obtain ⟨hb6, hk⟩ := hk
          refine q_callV0 [_, _] _ rfl kY_X12_wrong kT_X12_wrong rfl rfl (Nat.le_of_ble_eq_true rfl) (Nat.le_of_ble_eq_true rfl) (cc_60 _) (s_X12_wrong hb6) (fun r h q => ?_)
          obtain ⟨rfl, rfl⟩ := q
          simp only [Option.toList, List.cons_append, List.nil_append]
          refine r_aload_n rfl rfl ?_
          obtain ⟨hb7, hk⟩ := hk
          refine q_callV0 [] _ rfl kY_X12_goesOn kT_X12_goesOn rfl rfl (Nat.le_of_ble_eq_true rfl) (Nat.le_of_ble_eq_true rfl) (cc_60 _) (s_X12_goesOn hb7) (fun r h q => ?_)
          obtain ⟨rfl, rfl⟩ := q
          simp only [Option.toList, List.cons_append, List.nil_append]
          refine r_iload_n rfl rfl ?_
          refine r_iret rfl rfl rfl ?_
          subst he
          exact ⟨rfl, rfl⟩
    · rw [if_pos c_12] at he
      replace hk := hk.1 c_12
      refine r_aload_n rfl rfl ?_
      refine r_iconst_ (a := 1) rfl (by decide) ?_
      obtain ⟨hb8, hk⟩ := hk
      refine q_callV0 [_] _ rfl kY_X12_fail kT_X12_fail rfl rfl (Nat.le_of_ble_eq_true rfl) (Nat.le_of_ble_eq_true rfl) (cc_60 _) (s_X12_fail hb8) (fun r h q => ?_)
      obtain ⟨rfl, rfl⟩ := q
      simp only [Option.toList, List.cons_append, List.nil_append]
      refine r_iload_n rfl rfl ?_
      refine r_iret rfl rfl rfl ?_
      subst he
      exact ⟨rfl, rfl⟩

def f_X12_undo_21 : Nat → Int32 → fl_I → fl_L → Int32 × fl_I × fl_L
  | 0, x1, s, l => (0, s, l)
  | n + 1, x1, s, l =>
    if ((141 : Int32) ≤ x1) then ((1 : Int32), s, l) else f_X12_undo_21 n (x1 + 1) (wi s 94 x1.toNatClampNeg (s 99 (((141 : Int32) * (s 60 58)) + x1).toNatClampNeg)) l

def p_X12_undo_21 : Nat → Int32 → fl_I → fl_L → Prop
  | 0, _, _, _ => False
  | n + 1, x1, s, l =>
    ((((141 : Int32) ≤ x1) → True) ∧ (¬ ((141 : Int32) ≤ x1) → (vp_in (((141 : Int32) * (s 60 58)) + x1) 5640) ∧ (vp_in x1 141) ∧ p_X12_undo_21 n (x1 + 1) (wi s 94 x1.toNatClampNeg (s 99 (((141 : Int32) * (s 60 58)) + x1).toNatClampNeg)) l))

set_option maxRecDepth 100000 in
set_option maxHeartbeats 4000000 in
theorem lp_X12_undo_21 {G : ab_G} {d : Nat} {D : fl_D} : ∀ (n : Nat) (x1 : Int32) (s : fl_I) (l : fl_L), p_X12_undo_21 n x1 s l → ab_C G d 0 0 M_X12_undo 21 [some (.ref 60), some (.int x1)] [] (hp D s l) (rt (some (.int (f_X12_undo_21 n x1 s l).1)) (hp D (f_X12_undo_21 n x1 s l).2.1 (f_X12_undo_21 n x1 s l).2.2)) := by
  intro n
  induction n with
  | zero => intro x1 s l hk; exact hk.elim
  | succ n ih =>
    intro x1 s l hk
    generalize he : f_X12_undo_21 (n + 1) x1 s l = res
    unfold f_X12_undo_21 at he
    unfold p_X12_undo_21 at hk
    refine r_iload_n rfl rfl ?_
    refine r_sipush_ (a := 141) rfl (by decide) ?_
    refine r_icmp_ge rfl (fun c_25 => ?_) (fun c_25 => ?_)
    · rw [if_pos c_25] at he
      replace hk := hk.1 c_25
      refine r_iconst_ (a := 1) rfl (by decide) ?_
      refine r_iret rfl rfl rfl ?_
      subst he
      exact ⟨rfl, rfl⟩
    · rw [if_neg c_25] at he
      replace hk := hk.2 c_25
      refine r_aload_n rfl rfl ?_
      refine q_getfield rfl (cc_60 _) rfl ?_
      refine r_iload_n rfl rfl ?_
      refine r_aload_n rfl rfl ?_
      refine q_getfield rfl (cc_60 _) rfl ?_
      refine r_sipush_ (a := 141) rfl (by decide) ?_
      refine r_aload_n rfl rfl ?_
      refine q_getfield rfl (cc_60 _) rfl ?_
      refine r_imul rfl ?_
      refine r_iload_n rfl rfl ?_
      refine r_iadd rfl ?_
      obtain ⟨hb0, hk⟩ := hk
      refine q_iald rfl (cc_99 _) hb0 ?_
      obtain ⟨hb1, hk⟩ := hk
      refine w_iast rfl (cc_94 _) hb1 ?_
      refine r_iinc (b := x1 + 1) rfl rfl rfl (Nat.le_of_ble_eq_true rfl) rfl ?_
      refine r_goto rfl ?_
      subst he
      exact r_weak (L1 := [some (.ref 60), some (.int (x1 + 1))]) ⟨rfl, rfl, trivial⟩ (ih _ _ _ hk)

def f_X12_undo (s : fl_I) (l : fl_L) : Int32 × fl_I × fl_L :=
  if ((s 60 58) = 0) then ((0 : Int32), s, l) else f_X12_undo_21 fu (0 : Int32) (wi s 60 58 ((s 60 58) - (1 : Int32))) l

def p_X12_undo (s : fl_I) (l : fl_L) : Prop :=
  ((((s 60 58) = 0) → True) ∧ (¬ ((s 60 58) = 0) → p_X12_undo_21 fu (0 : Int32) (wi s 60 58 ((s 60 58) - (1 : Int32))) l))

set_option maxRecDepth 100000 in
set_option maxHeartbeats 4000000 in
theorem s_X12_undo {G : ab_G} {d : Nat} {D : fl_D} {s : fl_I} {l : fl_L}  (hk : p_X12_undo s l) : ab_C G d 0 0 M_X12_undo 0 (ab_ent [.ref 60]) [] (hp D s l) (rt (some (.int (f_X12_undo s l).1)) (hp D (f_X12_undo s l).2.1 (f_X12_undo s l).2.2)) := by
  generalize he : (f_X12_undo s l) = res
  unfold f_X12_undo at he
  unfold p_X12_undo at hk
  refine r_weak (L1 := [some (.ref 60), none]) ⟨rfl, trivial⟩ ?_
  refine r_aload_n rfl rfl ?_
  refine q_getfield rfl (cc_60 _) rfl ?_
  refine r_if_ne rfl (fun c_4 => ?_) (fun c_4 => ?_)
  · rw [if_neg c_4] at he
    replace hk := hk.2 c_4
    refine r_aload_n rfl rfl ?_
    refine r_dup rfl rfl ?_
    refine q_getfield rfl (cc_60 _) rfl ?_
    refine r_iconst_ (a := 1) rfl (by decide) ?_
    refine r_isub rfl ?_
    refine w_put rfl (cc_60 _) ff_12_58 ft_12_58 (Nat.le_of_ble_eq_true rfl) rfl ?_
    refine r_iconst_ (a := 0) rfl (by decide) ?_
    refine r_istore_n rfl (Nat.le_of_ble_eq_true rfl) rfl ?_
    subst he
    exact r_weak (L1 := [some (.ref 60), some (.int (0 : Int32))]) ⟨rfl, rfl, trivial⟩ (lp_X12_undo_21 fu _ _ _ hk)
  · rw [if_pos c_4] at he
    replace hk := hk.1 c_4
    refine r_iconst_ (a := 0) rfl (by decide) ?_
    refine r_iret rfl rfl rfl ?_
    subst he
    exact ⟨rfl, rfl⟩

def f_X12_hold_20 : Nat → Int32 → Int32 → fl_I → fl_L → Int32 × fl_I × fl_L
  | 0, x1, x2, s, l => (0, s, l)
  | n + 1, x1, x2, s, l =>
    if ((141 : Int32) ≤ x2) then ((1 : Int32), s, l) else f_X12_hold_20 n x1 (x2 + 1) (wi s 106 (((141 : Int32) * x1) + x2).toNatClampNeg (s 94 x2.toNatClampNeg)) l

def p_X12_hold_20 : Nat → Int32 → Int32 → fl_I → fl_L → Prop
  | 0, _, _, _, _ => False
  | n + 1, x1, x2, s, l =>
    ((((141 : Int32) ≤ x2) → True) ∧ (¬ ((141 : Int32) ≤ x2) → (vp_in x2 141) ∧ (vp_in (((141 : Int32) * x1) + x2) 423) ∧ p_X12_hold_20 n x1 (x2 + 1) (wi s 106 (((141 : Int32) * x1) + x2).toNatClampNeg (s 94 x2.toNatClampNeg)) l))

set_option maxRecDepth 100000 in
set_option maxHeartbeats 4000000 in
theorem lp_X12_hold_20 {G : ab_G} {d : Nat} {D : fl_D} : ∀ (n : Nat) (x1 : Int32) (x2 : Int32) (s : fl_I) (l : fl_L), p_X12_hold_20 n x1 x2 s l → ab_C G (d + 1) 0 0 M_X12_hold 20 [some (.ref 60), some (.int x1), some (.int x2)] [] (hp D s l) (rt (some (.int (f_X12_hold_20 n x1 x2 s l).1)) (hp D (f_X12_hold_20 n x1 x2 s l).2.1 (f_X12_hold_20 n x1 x2 s l).2.2)) := by
  intro n
  induction n with
  | zero => intro x1 x2 s l hk; exact hk.elim
  | succ n ih =>
    intro x1 x2 s l hk
    generalize he : f_X12_hold_20 (n + 1) x1 x2 s l = res
    unfold f_X12_hold_20 at he
    unfold p_X12_hold_20 at hk
    refine r_iload_n rfl rfl ?_
    refine r_sipush_ (a := 141) rfl (by decide) ?_
    refine r_icmp_ge rfl (fun c_24 => ?_) (fun c_24 => ?_)
    · rw [if_pos c_24] at he
      replace hk := hk.1 c_24
      refine r_iconst_ (a := 1) rfl (by decide) ?_
      refine r_iret rfl rfl rfl ?_
      subst he
      exact ⟨rfl, rfl⟩
    · rw [if_neg c_24] at he
      replace hk := hk.2 c_24
      refine r_aload_n rfl rfl ?_
      refine q_getfield rfl (cc_60 _) rfl ?_
      refine r_sipush_ (a := 141) rfl (by decide) ?_
      refine r_iload_n rfl rfl ?_
      refine r_imul rfl ?_
      refine r_iload_n rfl rfl ?_
      refine r_iadd rfl ?_
      refine r_aload_n rfl rfl ?_
      refine q_getfield rfl (cc_60 _) rfl ?_
      refine r_iload_n rfl rfl ?_
      obtain ⟨hb2, hk⟩ := hk
      refine q_iald rfl (cc_94 _) hb2 ?_
      obtain ⟨hb3, hk⟩ := hk
      refine w_iast rfl (cc_106 _) hb3 ?_
      refine r_iinc (b := x2 + 1) rfl rfl rfl (Nat.le_of_ble_eq_true rfl) rfl ?_
      refine r_goto rfl ?_
      subst he
      exact r_weak (L1 := [some (.ref 60), some (.int x1), some (.int (x2 + 1))]) ⟨rfl, rfl, rfl, trivial⟩ (ih _ _ _ _ hk)

def f_X12_hold (v0 : Int32) (s : fl_I) (l : fl_L) : Int32 × fl_I × fl_L :=
  if ((f_X12_in v0 (0 : Int32) (2 : Int32)) = 0) then ((0 : Int32), s, l) else f_X12_hold_20 fu v0 (0 : Int32) (wi s 105 v0.toNatClampNeg (vp_nar .boolean (1 : Int32))) l

def p_X12_hold (v0 : Int32) (s : fl_I) (l : fl_L) : Prop :=
  (p_X12_in v0 (0 : Int32) (2 : Int32)) ∧ ((((f_X12_in v0 (0 : Int32) (2 : Int32)) = 0) → True) ∧ (¬ ((f_X12_in v0 (0 : Int32) (2 : Int32)) = 0) → (vp_in v0 3) ∧ p_X12_hold_20 fu v0 (0 : Int32) (wi s 105 v0.toNatClampNeg (vp_nar .boolean (1 : Int32))) l))

set_option maxRecDepth 100000 in
set_option maxHeartbeats 4000000 in
theorem s_X12_hold {G : ab_G} {d : Nat} {D : fl_D} {s : fl_I} {l : fl_L} {v0 : Int32} (hk : p_X12_hold v0 s l) : ab_C G (d + 1) 0 0 M_X12_hold 0 (ab_ent [.ref 60, .int v0]) [] (hp D s l) (rt (some (.int (f_X12_hold v0 s l).1)) (hp D (f_X12_hold v0 s l).2.1 (f_X12_hold v0 s l).2.2)) := by
  generalize he : (f_X12_hold v0 s l) = res
  unfold f_X12_hold at he
  unfold p_X12_hold at hk
  refine r_weak (L1 := [some (.ref 60), some (.int v0), none]) ⟨rfl, rfl, trivial⟩ ?_
  refine r_iload_n rfl rfl ?_
  refine r_iconst_ (a := 0) rfl (by decide) ?_
  refine r_iconst_ (a := 2) rfl (by decide) ?_
  obtain ⟨hb0, hk⟩ := hk
  refine r_callS0 [_, _, _] _ rfl kY_X12_in kT_X12_in rfl rfl (Nat.le_of_ble_eq_true rfl) (Nat.le_of_ble_eq_true rfl) (s_X12_in hb0) (fun r h q => ?_)
  obtain ⟨rfl, rfl⟩ := q
  simp only [Option.toList, List.cons_append, List.nil_append]
  refine r_if_ne rfl (fun c_6 => ?_) (fun c_6 => ?_)
  · rw [if_neg c_6] at he
    replace hk := hk.2 c_6
    refine r_aload_n rfl rfl ?_
    refine q_getfield rfl (cc_60 _) rfl ?_
    refine r_iload_n rfl rfl ?_
    refine r_iconst_ (a := 1) rfl (by decide) ?_
    obtain ⟨hb1, hk⟩ := hk
    refine w_zast rfl (cc_105 _) hb1 ?_
    refine r_iconst_ (a := 0) rfl (by decide) ?_
    refine r_istore_n rfl (Nat.le_of_ble_eq_true rfl) rfl ?_
    subst he
    exact r_weak (L1 := [some (.ref 60), some (.int v0), some (.int (0 : Int32))]) ⟨rfl, rfl, rfl, trivial⟩ (lp_X12_hold_20 fu _ _ _ _ hk)
  · rw [if_pos c_6] at he
    replace hk := hk.1 c_6
    refine r_iconst_ (a := 0) rfl (by decide) ?_
    refine r_iret rfl rfl rfl ?_
    subst he
    exact ⟨rfl, rfl⟩

def f_X12_fillsCells_7 : Nat → Int32 → Int32 → Int32 → fl_I → fl_L → fl_I × fl_L
  | 0, x1, x2, x3, s, l => (s, l)
  | n + 1, x1, x2, x3, s, l =>
    if ((80 : Int32) ≤ x3) then (s, l) else if (x3 = x1) then f_X12_fillsCells_7 n x1 x2 (x3 + 1) s l else if (x3 = x2) then f_X12_fillsCells_7 n x1 x2 (x3 + 1) s l else if ((f_X12_lieAt x3 s l) = 0) then f_X12_fillsCells_7 n x1 x2 (x3 + 1) s l else f_X12_fillsCells_7 n x1 x2 (x3 + 1) (wi (wi s 100 (s 60 60).toNatClampNeg x3) 60 60 (((wi s 100 (s 60 60).toNatClampNeg x3) 60 60) + (1 : Int32))) l

def p_X12_fillsCells_7 : Nat → Int32 → Int32 → Int32 → fl_I → fl_L → Prop
  | 0, _, _, _, _, _ => False
  | n + 1, x1, x2, x3, s, l =>
    ((((80 : Int32) ≤ x3) → True) ∧ (¬ ((80 : Int32) ≤ x3) → (((x3 = x1) → p_X12_fillsCells_7 n x1 x2 (x3 + 1) s l) ∧ (¬ (x3 = x1) → (((x3 = x2) → p_X12_fillsCells_7 n x1 x2 (x3 + 1) s l) ∧ (¬ (x3 = x2) → (p_X12_lieAt x3 s l) ∧ ((((f_X12_lieAt x3 s l) = 0) → p_X12_fillsCells_7 n x1 x2 (x3 + 1) s l) ∧ (¬ ((f_X12_lieAt x3 s l) = 0) → (vp_in (s 60 60) 80) ∧ p_X12_fillsCells_7 n x1 x2 (x3 + 1) (wi (wi s 100 (s 60 60).toNatClampNeg x3) 60 60 (((wi s 100 (s 60 60).toNatClampNeg x3) 60 60) + (1 : Int32))) l))))))))

set_option maxRecDepth 100000 in
set_option maxHeartbeats 4000000 in
theorem lp_X12_fillsCells_7 {G : ab_G} {d : Nat} {D : fl_D} : ∀ (n : Nat) (x1 : Int32) (x2 : Int32) (x3 : Int32) (s : fl_I) (l : fl_L), p_X12_fillsCells_7 n x1 x2 x3 s l → ab_C G (d + 2) 0 0 M_X12_fillsCells 7 [some (.ref 60), some (.int x1), some (.int x2), some (.int x3)] [] (hp D s l) (rt none (hp D (f_X12_fillsCells_7 n x1 x2 x3 s l).1 (f_X12_fillsCells_7 n x1 x2 x3 s l).2)) := by
  intro n
  induction n with
  | zero => intro x1 x2 x3 s l hk; exact hk.elim
  | succ n ih =>
    intro x1 x2 x3 s l hk
    generalize he : f_X12_fillsCells_7 (n + 1) x1 x2 x3 s l = res
    unfold f_X12_fillsCells_7 at he
    unfold p_X12_fillsCells_7 at hk
    refine r_iload_n rfl rfl ?_
    refine r_bipush_ (a := 80) rfl (by decide) ?_
    refine r_icmp_ge rfl (fun c_10 => ?_) (fun c_10 => ?_)
    · rw [if_pos c_10] at he
      replace hk := hk.1 c_10
      refine r_ret rfl rfl ?_
      subst he
      exact ⟨rfl, rfl⟩
    · rw [if_neg c_10] at he
      replace hk := hk.2 c_10
      refine r_iload_n rfl rfl ?_
      refine r_iload_n rfl rfl ?_
      refine r_icmp_eq rfl (fun c_15 => ?_) (fun c_15 => ?_)
      · rw [if_pos c_15] at he
        replace hk := hk.1 c_15
        refine r_iinc (b := x3 + 1) rfl rfl rfl (Nat.le_of_ble_eq_true rfl) rfl ?_
        refine r_goto rfl ?_
        subst he
        exact r_weak (L1 := [some (.ref 60), some (.int x1), some (.int x2), some (.int (x3 + 1))]) ⟨rfl, rfl, rfl, rfl, trivial⟩ (ih _ _ _ _ _ hk)
      · rw [if_neg c_15] at he
        replace hk := hk.2 c_15
        refine r_iload_n rfl rfl ?_
        refine r_iload_n rfl rfl ?_
        refine r_icmp_eq rfl (fun c_20 => ?_) (fun c_20 => ?_)
        · rw [if_pos c_20] at he
          replace hk := hk.1 c_20
          refine r_iinc (b := x3 + 1) rfl rfl rfl (Nat.le_of_ble_eq_true rfl) rfl ?_
          refine r_goto rfl ?_
          subst he
          exact r_weak (L1 := [some (.ref 60), some (.int x1), some (.int x2), some (.int (x3 + 1))]) ⟨rfl, rfl, rfl, rfl, trivial⟩ (ih _ _ _ _ _ hk)
        · rw [if_neg c_20] at he
          replace hk := hk.2 c_20
          refine r_aload_n rfl rfl ?_
          refine r_iload_n rfl rfl ?_
          obtain ⟨hb0, hk⟩ := hk
          refine q_callV0 [_] _ rfl kY_X12_lieAt kT_X12_lieAt rfl rfl (Nat.le_of_ble_eq_true rfl) (Nat.le_of_ble_eq_true rfl) (cc_60 _) (s_X12_lieAt hb0) (fun r h q => ?_)
          obtain ⟨rfl, rfl⟩ := q
          simp only [Option.toList, List.cons_append, List.nil_append]
          refine r_if_ne rfl (fun c_28 => ?_) (fun c_28 => ?_)
          · rw [if_neg c_28] at he
            replace hk := hk.2 c_28
            refine r_aload_n rfl rfl ?_
            refine q_getfield rfl (cc_60 _) rfl ?_
            refine r_aload_n rfl rfl ?_
            refine q_getfield rfl (cc_60 _) rfl ?_
            refine r_iload_n rfl rfl ?_
            obtain ⟨hb1, hk⟩ := hk
            refine w_iast rfl (cc_100 _) hb1 ?_
            refine r_aload_n rfl rfl ?_
            refine r_dup rfl rfl ?_
            refine q_getfield rfl (cc_60 _) rfl ?_
            refine r_iconst_ (a := 1) rfl (by decide) ?_
            refine r_iadd rfl ?_
            refine w_put rfl (cc_60 _) ff_12_60 ft_12_60 (Nat.le_of_ble_eq_true rfl) rfl ?_
            refine r_iinc (b := x3 + 1) rfl rfl rfl (Nat.le_of_ble_eq_true rfl) rfl ?_
            refine r_goto rfl ?_
            subst he
            exact r_weak (L1 := [some (.ref 60), some (.int x1), some (.int x2), some (.int (x3 + 1))]) ⟨rfl, rfl, rfl, rfl, trivial⟩ (ih _ _ _ _ _ hk)
          · rw [if_pos c_28] at he
            replace hk := hk.1 c_28
            refine r_goto rfl ?_
            refine r_iinc (b := x3 + 1) rfl rfl rfl (Nat.le_of_ble_eq_true rfl) rfl ?_
            refine r_goto rfl ?_
            subst he
            exact r_weak (L1 := [some (.ref 60), some (.int x1), some (.int x2), some (.int (x3 + 1))]) ⟨rfl, rfl, rfl, rfl, trivial⟩ (ih _ _ _ _ _ hk)

def f_X12_fillsCells (v0 : Int32) (v1 : Int32) (s : fl_I) (l : fl_L) : fl_I × fl_L :=
  f_X12_fillsCells_7 fu v0 v1 (0 : Int32) (wi s 60 60 (0 : Int32)) l

def p_X12_fillsCells (v0 : Int32) (v1 : Int32) (s : fl_I) (l : fl_L) : Prop :=
  p_X12_fillsCells_7 fu v0 v1 (0 : Int32) (wi s 60 60 (0 : Int32)) l

set_option maxRecDepth 100000 in
set_option maxHeartbeats 4000000 in
theorem s_X12_fillsCells {G : ab_G} {d : Nat} {D : fl_D} {s : fl_I} {l : fl_L} {v0 : Int32} {v1 : Int32} (hk : p_X12_fillsCells v0 v1 s l) : ab_C G (d + 2) 0 0 M_X12_fillsCells 0 (ab_ent [.ref 60, .int v0, .int v1]) [] (hp D s l) (rt none (hp D (f_X12_fillsCells v0 v1 s l).1 (f_X12_fillsCells v0 v1 s l).2)) := by
  generalize he : (f_X12_fillsCells v0 v1 s l) = res
  unfold f_X12_fillsCells at he
  unfold p_X12_fillsCells at hk
  refine r_weak (L1 := [some (.ref 60), some (.int v0), some (.int v1), none]) ⟨rfl, rfl, rfl, trivial⟩ ?_
  refine r_aload_n rfl rfl ?_
  refine r_iconst_ (a := 0) rfl (by decide) ?_
  refine w_put rfl (cc_60 _) ff_12_60 ft_12_60 (Nat.le_of_ble_eq_true rfl) rfl ?_
  refine r_iconst_ (a := 0) rfl (by decide) ?_
  refine r_istore_n rfl (Nat.le_of_ble_eq_true rfl) rfl ?_
  subst he
  exact r_weak (L1 := [some (.ref 60), some (.int v0), some (.int v1), some (.int (0 : Int32))]) ⟨rfl, rfl, rfl, rfl, trivial⟩ (lp_X12_fillsCells_7 fu _ _ _ _ _ hk)

def f_X12_missingOf_4 : Nat → Int32 → Int32 → Int32 → fl_I → fl_L → Int32
  | 0, _, _, _, _, _ => 0
  | n + 1, x1, x2, x3, s, l =>
    if ((27 : Int32) ≤ x3) then x2 else if ((f_X12_timesIn (f_X12_wordAt x1 s l) x3) ≤ (s 102 x3.toNatClampNeg)) then f_X12_missingOf_4 n x1 x2 (x3 + 1) s l else f_X12_missingOf_4 n x1 (x2 + ((f_X12_timesIn (f_X12_wordAt x1 s l) x3) - (s 102 x3.toNatClampNeg))) (x3 + 1) s l

def p_X12_missingOf_4 : Nat → Int32 → Int32 → Int32 → fl_I → fl_L → Prop
  | 0, _, _, _, _, _ => False
  | n + 1, x1, x2, x3, s, l =>
    ((((27 : Int32) ≤ x3) → True) ∧ (¬ ((27 : Int32) ≤ x3) → (p_X12_wordAt x1 s l) ∧ (p_X12_timesIn (f_X12_wordAt x1 s l) x3) ∧ (vp_in x3 27) ∧ ((((f_X12_timesIn (f_X12_wordAt x1 s l) x3) ≤ (s 102 x3.toNatClampNeg)) → p_X12_missingOf_4 n x1 x2 (x3 + 1) s l) ∧ (¬ ((f_X12_timesIn (f_X12_wordAt x1 s l) x3) ≤ (s 102 x3.toNatClampNeg)) → (p_X12_wordAt x1 s l) ∧ (p_X12_timesIn (f_X12_wordAt x1 s l) x3) ∧ (vp_in x3 27) ∧ p_X12_missingOf_4 n x1 (x2 + ((f_X12_timesIn (f_X12_wordAt x1 s l) x3) - (s 102 x3.toNatClampNeg))) (x3 + 1) s l))))

set_option maxRecDepth 100000 in
set_option maxHeartbeats 4000000 in
theorem lp_X12_missingOf_4 {G : ab_G} {d : Nat} {D : fl_D} {s : fl_I} {l : fl_L} : ∀ (n : Nat) (x1 : Int32) (x2 : Int32) (x3 : Int32), p_X12_missingOf_4 n x1 x2 x3 s l → ab_C G (d + 1) 0 0 M_X12_missingOf 4 [some (.ref 60), some (.int x1), some (.int x2), some (.int x3)] [] (hp D s l) (rt (some (.int (f_X12_missingOf_4 n x1 x2 x3 s l))) (hp D s l)) := by
  intro n
  induction n with
  | zero => intro x1 x2 x3 hk; exact hk.elim
  | succ n ih =>
    intro x1 x2 x3 hk
    generalize he : f_X12_missingOf_4 (n + 1) x1 x2 x3 s l = res
    unfold f_X12_missingOf_4 at he
    unfold p_X12_missingOf_4 at hk
    refine r_iload_n rfl rfl ?_
    refine r_bipush_ (a := 27) rfl (by decide) ?_
    refine r_icmp_ge rfl (fun c_7 => ?_) (fun c_7 => ?_)
    · rw [if_pos c_7] at he
      replace hk := hk.1 c_7
      refine r_iload_n rfl rfl ?_
      refine r_iret rfl rfl rfl ?_
      subst he
      exact ⟨rfl, rfl⟩
    · rw [if_neg c_7] at he
      replace hk := hk.2 c_7
      refine r_aload_n rfl rfl ?_
      refine r_iload_n rfl rfl ?_
      obtain ⟨hb0, hk⟩ := hk
      refine q_callV0 [_] _ rfl kY_X12_wordAt kT_X12_wordAt rfl rfl (Nat.le_of_ble_eq_true rfl) (Nat.le_of_ble_eq_true rfl) (cc_60 _) (s_X12_wordAt hb0) (fun r h q => ?_)
      obtain ⟨rfl, rfl⟩ := q
      simp only [Option.toList, List.cons_append, List.nil_append]
      refine r_iload_n rfl rfl ?_
      obtain ⟨hb1, hk⟩ := hk
      refine r_callS0 [_, _] _ rfl kY_X12_timesIn kT_X12_timesIn rfl rfl (Nat.le_of_ble_eq_true rfl) (Nat.le_of_ble_eq_true rfl) (s_X12_timesIn hb1) (fun r h q => ?_)
      obtain ⟨rfl, rfl⟩ := q
      simp only [Option.toList, List.cons_append, List.nil_append]
      refine r_aload_n rfl rfl ?_
      refine q_getfield rfl (cc_60 _) rfl ?_
      refine r_iload_n rfl rfl ?_
      obtain ⟨hb2, hk⟩ := hk
      refine q_iald rfl (cc_102 _) hb2 ?_
      refine r_icmp_le rfl (fun c_25 => ?_) (fun c_25 => ?_)
      · rw [if_pos c_25] at he
        replace hk := hk.1 c_25
        refine r_iinc (b := x3 + 1) rfl rfl rfl (Nat.le_of_ble_eq_true rfl) rfl ?_
        refine r_goto rfl ?_
        subst he
        exact r_weak (L1 := [some (.ref 60), some (.int x1), some (.int x2), some (.int (x3 + 1))]) ⟨rfl, rfl, rfl, rfl, trivial⟩ (ih _ _ _ hk)
      · rw [if_neg c_25] at he
        replace hk := hk.2 c_25
        refine r_iload_n rfl rfl ?_
        refine r_aload_n rfl rfl ?_
        refine r_iload_n rfl rfl ?_
        obtain ⟨hb3, hk⟩ := hk
        refine q_callV0 [_] _ rfl kY_X12_wordAt kT_X12_wordAt rfl rfl (Nat.le_of_ble_eq_true rfl) (Nat.le_of_ble_eq_true rfl) (cc_60 _) (s_X12_wordAt hb3) (fun r h q => ?_)
        obtain ⟨rfl, rfl⟩ := q
        simp only [Option.toList, List.cons_append, List.nil_append]
        refine r_iload_n rfl rfl ?_
        obtain ⟨hb4, hk⟩ := hk
        refine r_callS0 [_, _] _ rfl kY_X12_timesIn kT_X12_timesIn rfl rfl (Nat.le_of_ble_eq_true rfl) (Nat.le_of_ble_eq_true rfl) (s_X12_timesIn hb4) (fun r h q => ?_)
        obtain ⟨rfl, rfl⟩ := q
        simp only [Option.toList, List.cons_append, List.nil_append]
        refine r_aload_n rfl rfl ?_
        refine q_getfield rfl (cc_60 _) rfl ?_
        refine r_iload_n rfl rfl ?_
        obtain ⟨hb5, hk⟩ := hk
        refine q_iald rfl (cc_102 _) hb5 ?_
        refine r_isub rfl ?_
        refine r_iadd rfl ?_
        refine r_istore_n rfl (Nat.le_of_ble_eq_true rfl) rfl ?_
        refine r_iinc (b := x3 + 1) rfl rfl rfl (Nat.le_of_ble_eq_true rfl) rfl ?_
        refine r_goto rfl ?_
        subst he
        exact r_weak (L1 := [some (.ref 60), some (.int x1), some (.int (x2 + ((f_X12_timesIn (f_X12_wordAt x1 s l) x3) - (s 102 x3.toNatClampNeg)))), some (.int (x3 + 1))]) ⟨rfl, rfl, rfl, rfl, trivial⟩ (ih _ _ _ hk)

def f_X12_missingOf (v0 : Int32) (s : fl_I) (l : fl_L) : Int32 :=
  f_X12_missingOf_4 fu v0 (0 : Int32) (1 : Int32) s l

def p_X12_missingOf (v0 : Int32) (s : fl_I) (l : fl_L) : Prop :=
  p_X12_missingOf_4 fu v0 (0 : Int32) (1 : Int32) s l

set_option maxRecDepth 100000 in
set_option maxHeartbeats 4000000 in
theorem s_X12_missingOf {G : ab_G} {d : Nat} {D : fl_D} {s : fl_I} {l : fl_L} {v0 : Int32} (hk : p_X12_missingOf v0 s l) : ab_C G (d + 1) 0 0 M_X12_missingOf 0 (ab_ent [.ref 60, .int v0]) [] (hp D s l) (rt (some (.int (f_X12_missingOf v0 s l))) (hp D s l)) := by
  generalize he : (f_X12_missingOf v0 s l) = res
  unfold f_X12_missingOf at he
  unfold p_X12_missingOf at hk
  refine r_weak (L1 := [some (.ref 60), some (.int v0), none, none]) ⟨rfl, rfl, trivial⟩ ?_
  refine r_iconst_ (a := 0) rfl (by decide) ?_
  refine r_istore_n rfl (Nat.le_of_ble_eq_true rfl) rfl ?_
  refine r_iconst_ (a := 1) rfl (by decide) ?_
  refine r_istore_n rfl (Nat.le_of_ble_eq_true rfl) rfl ?_
  subst he
  exact r_weak (L1 := [some (.ref 60), some (.int v0), some (.int (0 : Int32)), some (.int (1 : Int32))]) ⟨rfl, rfl, rfl, rfl, trivial⟩ (lp_X12_missingOf_4 fu _ _ _ hk)

def f_X12_tell (v0 : Int32) (v1 : Int32) (s : fl_I) (l : fl_L) : Int32 × fl_I × fl_L :=
  if ((s 60 65) = (20 : Int32)) then ((-1 : Int32), s, l) else if ((f_X12_in v0 (1 : Int32) (26 : Int32)) = 0) then ((-1 : Int32), s, l) else ((((wi (wi (wi s 103 (s 60 65).toNatClampNeg v0) 104 ((wi s 103 (s 60 65).toNatClampNeg v0) 60 65).toNatClampNeg (vp_nar .boolean v1)) 60 65 (((wi (wi s 103 (s 60 65).toNatClampNeg v0) 104 ((wi s 103 (s 60 65).toNatClampNeg v0) 60 65).toNatClampNeg (vp_nar .boolean v1)) 60 65) + (1 : Int32))) 60 65) - (1 : Int32)), (wi (wi (wi s 103 (s 60 65).toNatClampNeg v0) 104 ((wi s 103 (s 60 65).toNatClampNeg v0) 60 65).toNatClampNeg (vp_nar .boolean v1)) 60 65 (((wi (wi s 103 (s 60 65).toNatClampNeg v0) 104 ((wi s 103 (s 60 65).toNatClampNeg v0) 60 65).toNatClampNeg (vp_nar .boolean v1)) 60 65) + (1 : Int32))), l)

def p_X12_tell (v0 : Int32) (v1 : Int32) (s : fl_I) (l : fl_L) : Prop :=
  ((((s 60 65) = (20 : Int32)) → True) ∧ (¬ ((s 60 65) = (20 : Int32)) → (p_X12_in v0 (1 : Int32) (26 : Int32)) ∧ ((((f_X12_in v0 (1 : Int32) (26 : Int32)) = 0) → True) ∧ (¬ ((f_X12_in v0 (1 : Int32) (26 : Int32)) = 0) → (vp_in (s 60 65) 20) ∧ (vp_in ((wi s 103 (s 60 65).toNatClampNeg v0) 60 65) 20) ∧ True))))

set_option maxRecDepth 100000 in
set_option maxHeartbeats 4000000 in
theorem s_X12_tell {G : ab_G} {d : Nat} {D : fl_D} {s : fl_I} {l : fl_L} {v0 : Int32} {v1 : Int32} (hk : p_X12_tell v0 v1 s l) : ab_C G (d + 1) 0 0 M_X12_tell 0 (ab_ent [.ref 60, .int v0, .int v1]) [] (hp D s l) (rt (some (.int (f_X12_tell v0 v1 s l).1)) (hp D (f_X12_tell v0 v1 s l).2.1 (f_X12_tell v0 v1 s l).2.2)) := by
  generalize he : (f_X12_tell v0 v1 s l) = res
  unfold f_X12_tell at he
  unfold p_X12_tell at hk
  refine r_weak (L1 := [some (.ref 60), some (.int v0), some (.int v1)]) ⟨rfl, rfl, rfl, trivial⟩ ?_
  refine r_aload_n rfl rfl ?_
  refine q_getfield rfl (cc_60 _) rfl ?_
  refine r_bipush_ (a := 20) rfl (by decide) ?_
  refine r_icmp_eq rfl (fun c_6 => ?_) (fun c_6 => ?_)
  · rw [if_pos c_6] at he
    replace hk := hk.1 c_6
    refine r_iconst_ (a := -1) rfl (by decide) ?_
    refine r_iret rfl rfl rfl ?_
    subst he
    exact ⟨rfl, rfl⟩
  · rw [if_neg c_6] at he
    replace hk := hk.2 c_6
    refine r_iload_n rfl rfl ?_
    refine r_iconst_ (a := 1) rfl (by decide) ?_
    refine r_bipush_ (a := 26) rfl (by decide) ?_
    obtain ⟨hb0, hk⟩ := hk
    refine r_callS0 [_, _, _] _ rfl kY_X12_in kT_X12_in rfl rfl (Nat.le_of_ble_eq_true rfl) (Nat.le_of_ble_eq_true rfl) (s_X12_in hb0) (fun r h q => ?_)
    obtain ⟨rfl, rfl⟩ := q
    simp only [Option.toList, List.cons_append, List.nil_append]
    refine r_if_ne rfl (fun c_16 => ?_) (fun c_16 => ?_)
    · rw [if_neg c_16] at he
      replace hk := hk.2 c_16
      refine r_aload_n rfl rfl ?_
      refine q_getfield rfl (cc_60 _) rfl ?_
      refine r_aload_n rfl rfl ?_
      refine q_getfield rfl (cc_60 _) rfl ?_
      refine r_iload_n rfl rfl ?_
      obtain ⟨hb1, hk⟩ := hk
      refine w_iast rfl (cc_103 _) hb1 ?_
      refine r_aload_n rfl rfl ?_
      refine q_getfield rfl (cc_60 _) rfl ?_
      refine r_aload_n rfl rfl ?_
      refine q_getfield rfl (cc_60 _) rfl ?_
      refine r_iload_n rfl rfl ?_
      obtain ⟨hb2, hk⟩ := hk
      refine w_zast rfl (cc_104 _) hb2 ?_
      refine r_aload_n rfl rfl ?_
      refine r_dup rfl rfl ?_
      refine q_getfield rfl (cc_60 _) rfl ?_
      refine r_iconst_ (a := 1) rfl (by decide) ?_
      refine r_iadd rfl ?_
      refine w_put rfl (cc_60 _) ff_12_65 ft_12_65 (Nat.le_of_ble_eq_true rfl) rfl ?_
      refine r_aload_n rfl rfl ?_
      refine q_getfield rfl (cc_60 _) rfl ?_
      refine r_iconst_ (a := 1) rfl (by decide) ?_
      refine r_isub rfl ?_
      refine r_iret rfl rfl rfl ?_
      subst he
      exact ⟨rfl, rfl⟩
    · rw [if_pos c_16] at he
      replace hk := hk.1 c_16
      refine r_iconst_ (a := -1) rfl (by decide) ?_
      refine r_iret rfl rfl rfl ?_
      subst he
      exact ⟨rfl, rfl⟩

def f_X11_whole_14 : Nat → Int32 → Int32 → fl_D → fl_I → fl_L → Int32
  | 0, _, _, _, _, _ => 0
  | n + 1, x1, x2, D, s, l =>
    if ((s 31 1) ≤ x2) then x1 else if ((f_X10_isLying x2 31 s l) = 0) then f_X11_whole_14 n x1 (x2 + 1) D s l else f_X11_whole_14 n (x1 &&& (((1 : Int32) <<< ((s ((if D.2.2.1 then 20 else 9) + 5) x2.toNatClampNeg) &&& 31)) ^^^ (-1 : Int32))) (x2 + 1) D s l

def p_X11_whole_14 : Nat → Int32 → Int32 → fl_D → fl_I → fl_L → Prop
  | 0, _, _, _, _, _ => False
  | n + 1, x1, x2, D, s, l =>
    ((((s 31 1) ≤ x2) → True) ∧ (¬ ((s 31 1) ≤ x2) → (p_X10_isLying x2 31 s l) ∧ ((((f_X10_isLying x2 31 s l) = 0) → p_X11_whole_14 n x1 (x2 + 1) D s l) ∧ (¬ ((f_X10_isLying x2 31 s l) = 0) → (vp_in x2 32) ∧ p_X11_whole_14 n (x1 &&& (((1 : Int32) <<< ((s ((if D.2.2.1 then 20 else 9) + 5) x2.toNatClampNeg) &&& 31)) ^^^ (-1 : Int32))) (x2 + 1) D s l))))

set_option maxRecDepth 100000 in
set_option maxHeartbeats 4000000 in
theorem lp_X11_whole_14 {G : ab_G} {d : Nat} {D : fl_D} {s : fl_I} {l : fl_L} : ∀ (n : Nat) (x1 : Int32) (x2 : Int32), p_X11_whole_14 n x1 x2 D s l → ab_C G (d + 1) 0 0 M_X11_whole 14 [some (.ref 0), some (.int x1), some (.int x2)] [] (hp D s l) (rt (some (.int (f_X11_whole_14 n x1 x2 D s l))) (hp D s l)) := by
  intro n
  induction n with
  | zero => intro x1 x2 hk; exact hk.elim
  | succ n ih =>
    intro x1 x2 hk
    generalize he : f_X11_whole_14 (n + 1) x1 x2 D s l = res
    unfold f_X11_whole_14 at he
    unfold p_X11_whole_14 at hk
    refine r_iload_n rfl rfl ?_
    refine r_aload_n rfl rfl ?_
    refine q_getfield rfl (cc_0 _) rfl ?_
    refine q_getfield rfl (cc_31 _) rfl ?_
    refine r_icmp_ge rfl (fun c_22 => ?_) (fun c_22 => ?_)
    · rw [if_pos c_22] at he
      replace hk := hk.1 c_22
      refine r_iload_n rfl rfl ?_
      refine r_iret rfl rfl rfl ?_
      subst he
      exact ⟨rfl, rfl⟩
    · rw [if_neg c_22] at he
      replace hk := hk.2 c_22
      refine r_aload_n rfl rfl ?_
      refine q_getfield rfl (cc_0 _) rfl ?_
      refine r_iload_n rfl rfl ?_
      obtain ⟨hb0, hk⟩ := hk
      refine q_callV0 [_] _ rfl kY_X10_isLying kT_X10_isLying rfl rfl (Nat.le_of_ble_eq_true rfl) (Nat.le_of_ble_eq_true rfl) (cc_31 _) (s_X10_isLying (Or.inl rfl) hb0) (fun r h q => ?_)
      obtain ⟨rfl, rfl⟩ := q
      simp only [Option.toList, List.cons_append, List.nil_append]
      refine r_if_eq rfl (fun c_33 => ?_) (fun c_33 => ?_)
      · rw [if_pos c_33] at he
        replace hk := hk.1 c_33
        refine r_iinc (b := x2 + 1) rfl rfl rfl (Nat.le_of_ble_eq_true rfl) rfl ?_
        refine r_goto rfl ?_
        subst he
        exact r_weak (L1 := [some (.ref 0), some (.int x1), some (.int (x2 + 1))]) ⟨rfl, rfl, rfl, trivial⟩ (ih _ _ hk)
      · rw [if_neg c_33] at he
        replace hk := hk.2 c_33
        refine r_iload_n rfl rfl ?_
        refine r_iconst_ (a := 1) rfl (by decide) ?_
        refine r_aload_n rfl rfl ?_
        refine q_getfield rfl (cc_0 _) rfl ?_
        refine q_getfield rfl (cT_0 (isT_l _)) rfl ?_
        refine r_iload_n rfl rfl ?_
        obtain ⟨hb1, hk⟩ := hk
        refine q_iald rfl (cT_5 (isT_l _)) hb1 ?_
        refine r_ishl rfl ?_
        refine r_iconst_ (a := -1) rfl (by decide) ?_
        refine r_ixor rfl ?_
        refine r_iand rfl ?_
        refine r_istore_n rfl (Nat.le_of_ble_eq_true rfl) rfl ?_
        refine r_iinc (b := x2 + 1) rfl rfl rfl (Nat.le_of_ble_eq_true rfl) rfl ?_
        refine r_goto rfl ?_
        subst he
        exact r_weak (L1 := [some (.ref 0), some (.int (x1 &&& (((1 : Int32) <<< ((s ((if D.2.2.1 then 20 else 9) + 5) x2.toNatClampNeg) &&& 31)) ^^^ (-1 : Int32)))), some (.int (x2 + 1))]) ⟨rfl, rfl, rfl, trivial⟩ (ih _ _ hk)

def f_X11_whole (D : fl_D) (s : fl_I) (l : fl_L) : Int32 :=
  f_X11_whole_14 fu (((1 : Int32) <<< ((s (if D.2.2.1 then 20 else 9) 0) &&& 31)) - (1 : Int32)) (0 : Int32) D s l

def p_X11_whole (D : fl_D) (s : fl_I) (l : fl_L) : Prop :=
  p_X11_whole_14 fu (((1 : Int32) <<< ((s (if D.2.2.1 then 20 else 9) 0) &&& 31)) - (1 : Int32)) (0 : Int32) D s l

set_option maxRecDepth 100000 in
set_option maxHeartbeats 4000000 in
theorem s_X11_whole {G : ab_G} {d : Nat} {D : fl_D} {s : fl_I} {l : fl_L}  (hk : p_X11_whole D s l) : ab_C G (d + 1) 0 0 M_X11_whole 0 (ab_ent [.ref 0]) [] (hp D s l) (rt (some (.int (f_X11_whole D s l))) (hp D s l)) := by
  generalize he : (f_X11_whole D s l) = res
  unfold f_X11_whole at he
  unfold p_X11_whole at hk
  refine r_weak (L1 := [some (.ref 0), none, none]) ⟨rfl, trivial⟩ ?_
  refine r_iconst_ (a := 1) rfl (by decide) ?_
  refine r_aload_n rfl rfl ?_
  refine q_getfield rfl (cc_0 _) rfl ?_
  refine q_getfield rfl (cT_0 (isT_l _)) rfl ?_
  refine r_ishl rfl ?_
  refine r_iconst_ (a := 1) rfl (by decide) ?_
  refine r_isub rfl ?_
  refine r_istore_n rfl (Nat.le_of_ble_eq_true rfl) rfl ?_
  refine r_iconst_ (a := 0) rfl (by decide) ?_
  refine r_istore_n rfl (Nat.le_of_ble_eq_true rfl) rfl ?_
  subst he
  exact r_weak (L1 := [some (.ref 0), some (.int (((1 : Int32) <<< ((s (if D.2.2.1 then 20 else 9) 0) &&& 31)) - (1 : Int32))), some (.int (0 : Int32))]) ⟨rfl, rfl, rfl, trivial⟩ (lp_X11_whole_14 fu _ _ hk)

def f_X12_restore_22 : Nat → Int32 → Int32 → fl_I → fl_L → Int32 × fl_I × fl_L
  | 0, x1, x2, s, l => (0, s, l)
  | n + 1, x1, x2, s, l =>
    if ((141 : Int32) ≤ x2) then ((1 : Int32), (wi s 60 58 (0 : Int32)), l) else f_X12_restore_22 n x1 (x2 + 1) (wi s 94 x2.toNatClampNeg (s 106 (((141 : Int32) * x1) + x2).toNatClampNeg)) l

def p_X12_restore_22 : Nat → Int32 → Int32 → fl_I → fl_L → Prop
  | 0, _, _, _, _ => False
  | n + 1, x1, x2, s, l =>
    ((((141 : Int32) ≤ x2) → True) ∧ (¬ ((141 : Int32) ≤ x2) → (vp_in (((141 : Int32) * x1) + x2) 423) ∧ (vp_in x2 141) ∧ p_X12_restore_22 n x1 (x2 + 1) (wi s 94 x2.toNatClampNeg (s 106 (((141 : Int32) * x1) + x2).toNatClampNeg)) l))

set_option maxRecDepth 100000 in
set_option maxHeartbeats 4000000 in
theorem lp_X12_restore_22 {G : ab_G} {d : Nat} {D : fl_D} : ∀ (n : Nat) (x1 : Int32) (x2 : Int32) (s : fl_I) (l : fl_L), p_X12_restore_22 n x1 x2 s l → ab_C G (d + 1) 0 0 M_X12_restore 22 [some (.ref 60), some (.int x1), some (.int x2)] [] (hp D s l) (rt (some (.int (f_X12_restore_22 n x1 x2 s l).1)) (hp D (f_X12_restore_22 n x1 x2 s l).2.1 (f_X12_restore_22 n x1 x2 s l).2.2)) := by
  intro n
  induction n with
  | zero => intro x1 x2 s l hk; exact hk.elim
  | succ n ih =>
    intro x1 x2 s l hk
    generalize he : f_X12_restore_22 (n + 1) x1 x2 s l = res
    unfold f_X12_restore_22 at he
    unfold p_X12_restore_22 at hk
    refine r_iload_n rfl rfl ?_
    refine r_sipush_ (a := 141) rfl (by decide) ?_
    refine r_icmp_ge rfl (fun c_26 => ?_) (fun c_26 => ?_)
    · rw [if_pos c_26] at he
      replace hk := hk.1 c_26
      refine r_aload_n rfl rfl ?_
      refine r_iconst_ (a := 0) rfl (by decide) ?_
      refine w_put rfl (cc_60 _) ff_12_58 ft_12_58 (Nat.le_of_ble_eq_true rfl) rfl ?_
      refine r_iconst_ (a := 1) rfl (by decide) ?_
      refine r_iret rfl rfl rfl ?_
      subst he
      exact ⟨rfl, rfl⟩
    · rw [if_neg c_26] at he
      replace hk := hk.2 c_26
      refine r_aload_n rfl rfl ?_
      refine q_getfield rfl (cc_60 _) rfl ?_
      refine r_iload_n rfl rfl ?_
      refine r_aload_n rfl rfl ?_
      refine q_getfield rfl (cc_60 _) rfl ?_
      refine r_sipush_ (a := 141) rfl (by decide) ?_
      refine r_iload_n rfl rfl ?_
      refine r_imul rfl ?_
      refine r_iload_n rfl rfl ?_
      refine r_iadd rfl ?_
      obtain ⟨hb2, hk⟩ := hk
      refine q_iald rfl (cc_106 _) hb2 ?_
      obtain ⟨hb3, hk⟩ := hk
      refine w_iast rfl (cc_94 _) hb3 ?_
      refine r_iinc (b := x2 + 1) rfl rfl rfl (Nat.le_of_ble_eq_true rfl) rfl ?_
      refine r_goto rfl ?_
      subst he
      exact r_weak (L1 := [some (.ref 60), some (.int x1), some (.int (x2 + 1))]) ⟨rfl, rfl, rfl, trivial⟩ (ih _ _ _ _ hk)

def f_X12_restore (v0 : Int32) (s : fl_I) (l : fl_L) : Int32 × fl_I × fl_L :=
  if ((f_X12_in v0 (0 : Int32) (2 : Int32)) = 0) then ((0 : Int32), s, l) else if ((s 105 v0.toNatClampNeg) = 0) then ((0 : Int32), s, l) else f_X12_restore_22 fu v0 (0 : Int32) s l

def p_X12_restore (v0 : Int32) (s : fl_I) (l : fl_L) : Prop :=
  (p_X12_in v0 (0 : Int32) (2 : Int32)) ∧ ((((f_X12_in v0 (0 : Int32) (2 : Int32)) = 0) → True) ∧ (¬ ((f_X12_in v0 (0 : Int32) (2 : Int32)) = 0) → (vp_in v0 3) ∧ ((((s 105 v0.toNatClampNeg) = 0) → True) ∧ (¬ ((s 105 v0.toNatClampNeg) = 0) → p_X12_restore_22 fu v0 (0 : Int32) s l))))

set_option maxRecDepth 100000 in
set_option maxHeartbeats 4000000 in
theorem s_X12_restore {G : ab_G} {d : Nat} {D : fl_D} {s : fl_I} {l : fl_L} {v0 : Int32} (hk : p_X12_restore v0 s l) : ab_C G (d + 1) 0 0 M_X12_restore 0 (ab_ent [.ref 60, .int v0]) [] (hp D s l) (rt (some (.int (f_X12_restore v0 s l).1)) (hp D (f_X12_restore v0 s l).2.1 (f_X12_restore v0 s l).2.2)) := by
  generalize he : (f_X12_restore v0 s l) = res
  unfold f_X12_restore at he
  unfold p_X12_restore at hk
  refine r_weak (L1 := [some (.ref 60), some (.int v0), none]) ⟨rfl, rfl, trivial⟩ ?_
  refine r_iload_n rfl rfl ?_
  refine r_iconst_ (a := 0) rfl (by decide) ?_
  refine r_iconst_ (a := 2) rfl (by decide) ?_
  obtain ⟨hb0, hk⟩ := hk
  refine r_callS0 [_, _, _] _ rfl kY_X12_in kT_X12_in rfl rfl (Nat.le_of_ble_eq_true rfl) (Nat.le_of_ble_eq_true rfl) (s_X12_in hb0) (fun r h q => ?_)
  obtain ⟨rfl, rfl⟩ := q
  simp only [Option.toList, List.cons_append, List.nil_append]
  refine r_if_eq rfl (fun c_6 => ?_) (fun c_6 => ?_)
  · rw [if_pos c_6] at he
    replace hk := hk.1 c_6
    refine r_iconst_ (a := 0) rfl (by decide) ?_
    refine r_iret rfl rfl rfl ?_
    subst he
    exact ⟨rfl, rfl⟩
  · rw [if_neg c_6] at he
    replace hk := hk.2 c_6
    refine r_aload_n rfl rfl ?_
    refine q_getfield rfl (cc_60 _) rfl ?_
    refine r_iload_n rfl rfl ?_
    obtain ⟨hb1, hk⟩ := hk
    refine q_zald rfl (cc_105 _) hb1 ?_
    refine r_if_ne rfl (fun c_15 => ?_) (fun c_15 => ?_)
    · rw [if_neg c_15] at he
      replace hk := hk.2 c_15
      refine r_iconst_ (a := 0) rfl (by decide) ?_
      refine r_istore_n rfl (Nat.le_of_ble_eq_true rfl) rfl ?_
      subst he
      exact r_weak (L1 := [some (.ref 60), some (.int v0), some (.int (0 : Int32))]) ⟨rfl, rfl, rfl, trivial⟩ (lp_X12_restore_22 fu _ _ _ _ hk)
    · rw [if_pos c_15] at he
      replace hk := hk.1 c_15
      refine r_iconst_ (a := 0) rfl (by decide) ?_
      refine r_iret rfl rfl rfl ?_
      subst he
      exact ⟨rfl, rfl⟩

def f_X12_whole_16 : Nat → Int32 → Int32 → fl_I → fl_L → Int32
  | 0, _, _, _, _ => 0
  | n + 1, x1, x2, s, l =>
    if ((s 60 54) ≤ x2) then x1 else if (0 ≤ (s 94 ((64 : Int32) + x2).toNatClampNeg)) then f_X12_whole_16 n x1 (x2 + 1) s l else f_X12_whole_16 n (x1 &&& (((1 : Int32) <<< ((s 97 x2.toNatClampNeg) &&& 31)) ^^^ (-1 : Int32))) (x2 + 1) s l

def p_X12_whole_16 : Nat → Int32 → Int32 → fl_I → fl_L → Prop
  | 0, _, _, _, _ => False
  | n + 1, x1, x2, s, l =>
    ((((s 60 54) ≤ x2) → True) ∧ (¬ ((s 60 54) ≤ x2) → (vp_in ((64 : Int32) + x2) 141) ∧ (((0 ≤ (s 94 ((64 : Int32) + x2).toNatClampNeg)) → p_X12_whole_16 n x1 (x2 + 1) s l) ∧ (¬ (0 ≤ (s 94 ((64 : Int32) + x2).toNatClampNeg)) → (vp_in x2 32) ∧ p_X12_whole_16 n (x1 &&& (((1 : Int32) <<< ((s 97 x2.toNatClampNeg) &&& 31)) ^^^ (-1 : Int32))) (x2 + 1) s l))))

set_option maxRecDepth 100000 in
set_option maxHeartbeats 4000000 in
theorem lp_X12_whole_16 {G : ab_G} {d : Nat} {D : fl_D} {s : fl_I} {l : fl_L} : ∀ (n : Nat) (x1 : Int32) (x2 : Int32), p_X12_whole_16 n x1 x2 s l → ab_C G d 0 0 M_X12_whole 16 [some (.ref 60), some (.int x1), some (.int x2)] [] (hp D s l) (rt (some (.int (f_X12_whole_16 n x1 x2 s l))) (hp D s l)) := by
  intro n
  induction n with
  | zero => intro x1 x2 hk; exact hk.elim
  | succ n ih =>
    intro x1 x2 hk
    generalize he : f_X12_whole_16 (n + 1) x1 x2 s l = res
    unfold f_X12_whole_16 at he
    unfold p_X12_whole_16 at hk
    refine r_iload_n rfl rfl ?_
    refine r_aload_n rfl rfl ?_
    refine q_getfield rfl (cc_60 _) rfl ?_
    refine r_icmp_ge rfl (fun c_21 => ?_) (fun c_21 => ?_)
    · rw [if_pos c_21] at he
      replace hk := hk.1 c_21
      refine r_iload_n rfl rfl ?_
      refine r_iret rfl rfl rfl ?_
      subst he
      exact ⟨rfl, rfl⟩
    · rw [if_neg c_21] at he
      replace hk := hk.2 c_21
      refine r_aload_n rfl rfl ?_
      refine q_getfield rfl (cc_60 _) rfl ?_
      refine r_bipush_ (a := 64) rfl (by decide) ?_
      refine r_iload_n rfl rfl ?_
      refine r_iadd rfl ?_
      obtain ⟨hb1, hk⟩ := hk
      refine q_iald rfl (cc_94 _) hb1 ?_
      refine r_if_ge rfl (fun c_33 => ?_) (fun c_33 => ?_)
      · rw [if_pos c_33] at he
        replace hk := hk.1 c_33
        refine r_iinc (b := x2 + 1) rfl rfl rfl (Nat.le_of_ble_eq_true rfl) rfl ?_
        refine r_goto rfl ?_
        subst he
        exact r_weak (L1 := [some (.ref 60), some (.int x1), some (.int (x2 + 1))]) ⟨rfl, rfl, rfl, trivial⟩ (ih _ _ hk)
      · rw [if_neg c_33] at he
        replace hk := hk.2 c_33
        refine r_iload_n rfl rfl ?_
        refine r_iconst_ (a := 1) rfl (by decide) ?_
        refine r_aload_n rfl rfl ?_
        refine q_getfield rfl (cc_60 _) rfl ?_
        refine r_iload_n rfl rfl ?_
        obtain ⟨hb2, hk⟩ := hk
        refine q_iald rfl (cc_97 _) hb2 ?_
        refine r_ishl rfl ?_
        refine r_iconst_ (a := -1) rfl (by decide) ?_
        refine r_ixor rfl ?_
        refine r_iand rfl ?_
        refine r_istore_n rfl (Nat.le_of_ble_eq_true rfl) rfl ?_
        refine r_iinc (b := x2 + 1) rfl rfl rfl (Nat.le_of_ble_eq_true rfl) rfl ?_
        refine r_goto rfl ?_
        subst he
        exact r_weak (L1 := [some (.ref 60), some (.int (x1 &&& (((1 : Int32) <<< ((s 97 x2.toNatClampNeg) &&& 31)) ^^^ (-1 : Int32)))), some (.int (x2 + 1))]) ⟨rfl, rfl, rfl, trivial⟩ (ih _ _ hk)

def f_X12_whole (s : fl_I) (l : fl_L) : Int32 :=
  f_X12_whole_16 fu (((1 : Int32) <<< ((s 68 (s 60 18).toNatClampNeg) &&& 31)) - (1 : Int32)) (0 : Int32) s l

def p_X12_whole (s : fl_I) (l : fl_L) : Prop :=
  (vp_in (s 60 18) 2) ∧ p_X12_whole_16 fu (((1 : Int32) <<< ((s 68 (s 60 18).toNatClampNeg) &&& 31)) - (1 : Int32)) (0 : Int32) s l

set_option maxRecDepth 100000 in
set_option maxHeartbeats 4000000 in
theorem s_X12_whole {G : ab_G} {d : Nat} {D : fl_D} {s : fl_I} {l : fl_L}  (hk : p_X12_whole s l) : ab_C G d 0 0 M_X12_whole 0 (ab_ent [.ref 60]) [] (hp D s l) (rt (some (.int (f_X12_whole s l))) (hp D s l)) := by
  generalize he : (f_X12_whole s l) = res
  unfold f_X12_whole at he
  unfold p_X12_whole at hk
  refine r_weak (L1 := [some (.ref 60), none, none]) ⟨rfl, trivial⟩ ?_
  refine r_iconst_ (a := 1) rfl (by decide) ?_
  refine r_aload_n rfl rfl ?_
  refine q_getfield rfl (cc_60 _) rfl ?_
  refine r_aload_n rfl rfl ?_
  refine q_getfield rfl (cc_60 _) rfl ?_
  obtain ⟨hb0, hk⟩ := hk
  refine q_iald rfl (cc_68 _) hb0 ?_
  refine r_ishl rfl ?_
  refine r_iconst_ (a := 1) rfl (by decide) ?_
  refine r_isub rfl ?_
  refine r_istore_n rfl (Nat.le_of_ble_eq_true rfl) rfl ?_
  refine r_iconst_ (a := 0) rfl (by decide) ?_
  refine r_istore_n rfl (Nat.le_of_ble_eq_true rfl) rfl ?_
  subst he
  exact r_weak (L1 := [some (.ref 60), some (.int (((1 : Int32) <<< ((s 68 (s 60 18).toNatClampNeg) &&& 31)) - (1 : Int32))), some (.int (0 : Int32))]) ⟨rfl, rfl, rfl, trivial⟩ (lp_X12_whole_16 fu _ _ hk)

def f_X8_fewest_14 : Nat → Int32 → Int32 → Int32 → Int32 → fl_D → fl_I → fl_L → Int32
  | 0, _, _, _, _, _, _, _ => 0
  | n + 1, x1, x2, x3, x4, D, s, l =>
    if ((s 51 0) ≤ x4) then x3 else if (((x2 >>> (x4 &&& 31)) &&& (1 : Int32)) = (1 : Int32)) then f_X8_fewest_14 n x1 x2 (i_min x3 ((f_X11_apart x1 (s 52 x4.toNatClampNeg)) + (s D.2.2.2.1 (f_X8_index x2 x4).toNatClampNeg))) (x4 + 1) D s l else f_X8_fewest_14 n x1 x2 x3 (x4 + 1) D s l

def p_X8_fewest_14 : Nat → Int32 → Int32 → Int32 → Int32 → fl_D → fl_I → fl_L → Prop
  | 0, _, _, _, _, _, _, _ => False
  | n + 1, x1, x2, x3, x4, D, s, l =>
    ((((s 51 0) ≤ x4) → True) ∧ (¬ ((s 51 0) ≤ x4) → (((((x2 >>> (x4 &&& 31)) &&& (1 : Int32)) = (1 : Int32)) → (vp_in x4 10) ∧ (p_X11_apart x1 (s 52 x4.toNatClampNeg)) ∧ (p_X8_index x2 x4) ∧ (vp_in (f_X8_index x2 x4) 10240) ∧ p_X8_fewest_14 n x1 x2 (i_min x3 ((f_X11_apart x1 (s 52 x4.toNatClampNeg)) + (s D.2.2.2.1 (f_X8_index x2 x4).toNatClampNeg))) (x4 + 1) D s l) ∧ (¬ (((x2 >>> (x4 &&& 31)) &&& (1 : Int32)) = (1 : Int32)) → p_X8_fewest_14 n x1 x2 x3 (x4 + 1) D s l))))

set_option maxRecDepth 100000 in
set_option maxHeartbeats 4000000 in
theorem lp_X8_fewest_14 {G : ab_G} {d : Nat} {D : fl_D} {s : fl_I} {l : fl_L} (hfr : ∀ f g, cl D D.2.2.2.1 f g = some (.inl (0, 10240, .inl f))) : ∀ (n : Nat) (x1 : Int32) (x2 : Int32) (x3 : Int32) (x4 : Int32), p_X8_fewest_14 n x1 x2 x3 x4 D s l → ab_C G (d + 1) 0 0 M_X8_fewest 14 [some (.ref 51), some (.int x1), some (.int x2), some (.int x3), some (.int x4)] [] (hp D s l) (rt (some (.int (f_X8_fewest_14 n x1 x2 x3 x4 D s l))) (hp D s l)) := by
  intro n
  induction n with
  | zero => intro x1 x2 x3 x4 hk; exact hk.elim
  | succ n ih =>
    intro x1 x2 x3 x4 hk
    generalize he : f_X8_fewest_14 (n + 1) x1 x2 x3 x4 D s l = res
    unfold f_X8_fewest_14 at he
    unfold p_X8_fewest_14 at hk
    refine r_iload rfl rfl ?_
    refine r_aload_n rfl rfl ?_
    refine q_getfield rfl (cc_51 _) rfl ?_
    refine r_icmp_ge rfl (fun c_20 => ?_) (fun c_20 => ?_)
    · rw [if_pos c_20] at he
      replace hk := hk.1 c_20
      refine r_iload_n rfl rfl ?_
      refine r_iret rfl rfl rfl ?_
      subst he
      exact ⟨rfl, rfl⟩
    · rw [if_neg c_20] at he
      replace hk := hk.2 c_20
      refine r_iload_n rfl rfl ?_
      refine r_iload rfl rfl ?_
      refine r_ishr rfl ?_
      refine r_iconst_ (a := 1) rfl (by decide) ?_
      refine r_iand rfl ?_
      refine r_iconst_ (a := 1) rfl (by decide) ?_
      refine r_icmp_ne rfl (fun c_30 => ?_) (fun c_30 => ?_)
      · rw [if_neg c_30] at he
        replace hk := hk.2 c_30
        refine r_iinc (b := x4 + 1) rfl rfl rfl (Nat.le_of_ble_eq_true rfl) rfl ?_
        refine r_goto rfl ?_
        subst he
        exact r_weak (L1 := [some (.ref 51), some (.int x1), some (.int x2), some (.int x3), some (.int (x4 + 1))]) ⟨rfl, rfl, rfl, rfl, rfl, trivial⟩ (ih _ _ _ _ hk)
      · rw [if_pos c_30] at he
        replace hk := hk.1 c_30
        refine r_iload_n rfl rfl ?_
        refine r_iload_n rfl rfl ?_
        refine r_aload_n rfl rfl ?_
        refine q_getfield rfl (cc_51 _) rfl ?_
        refine r_iload rfl rfl ?_
        obtain ⟨hb0, hk⟩ := hk
        refine q_iald rfl (cc_52 _) hb0 ?_
        obtain ⟨hb1, hk⟩ := hk
        refine r_callSN0 [_, _] _ rfl kY_X11_apart kT_X11_apart rfl rfl (Nat.le_of_ble_eq_true rfl) (Nat.le_of_ble_eq_true rfl) (s_X11_apart hb1) (fun r h q => ?_)
        obtain ⟨rfl, rfl⟩ := q
        simp only [Option.toList, List.cons_append, List.nil_append]
        refine r_aload_n rfl rfl ?_
        refine q_getfield rfl (cc_51 _) rfl ?_
        refine r_iload_n rfl rfl ?_
        refine r_iload rfl rfl ?_
        obtain ⟨hb2, hk⟩ := hk
        refine r_callS0 [_, _] _ rfl kY_X8_index kT_X8_index rfl rfl (Nat.le_of_ble_eq_true rfl) (Nat.le_of_ble_eq_true rfl) (s_X8_index hb2) (fun r h q => ?_)
        obtain ⟨rfl, rfl⟩ := q
        simp only [Option.toList, List.cons_append, List.nil_append]
        obtain ⟨hb3, hk⟩ := hk
        refine q_iald rfl hfr hb3 ?_
        refine r_iadd rfl ?_
        refine r_mmin rfl (Nat.le_of_ble_eq_true rfl) ?_
        refine r_istore_n rfl (Nat.le_of_ble_eq_true rfl) rfl ?_
        refine r_iinc (b := x4 + 1) rfl rfl rfl (Nat.le_of_ble_eq_true rfl) rfl ?_
        refine r_goto rfl ?_
        subst he
        exact r_weak (L1 := [some (.ref 51), some (.int x1), some (.int x2), some (.int (i_min x3 ((f_X11_apart x1 (s 52 x4.toNatClampNeg)) + (s D.2.2.2.1 (f_X8_index x2 x4).toNatClampNeg)))), some (.int (x4 + 1))]) ⟨rfl, rfl, rfl, rfl, rfl, trivial⟩ (ih _ _ _ _ hk)

def f_X8_fewest (v0 : Int32) (v1 : Int32) (D : fl_D) (s : fl_I) (l : fl_L) : Int32 :=
  if (v1 = 0) then f_X8_fewest_14 fu v0 v1 (0 : Int32) (0 : Int32) D s l else f_X8_fewest_14 fu v0 v1 (1000000 : Int32) (0 : Int32) D s l

def p_X8_fewest (v0 : Int32) (v1 : Int32) (D : fl_D) (s : fl_I) (l : fl_L) : Prop :=
  (((v1 = 0) → p_X8_fewest_14 fu v0 v1 (0 : Int32) (0 : Int32) D s l) ∧ (¬ (v1 = 0) → p_X8_fewest_14 fu v0 v1 (1000000 : Int32) (0 : Int32) D s l))

set_option maxRecDepth 100000 in
set_option maxHeartbeats 4000000 in
theorem s_X8_fewest {G : ab_G} {d : Nat} {D : fl_D} {s : fl_I} {l : fl_L} (hfr : ∀ f g, cl D D.2.2.2.1 f g = some (.inl (0, 10240, .inl f))) {v0 : Int32} {v1 : Int32} (hk : p_X8_fewest v0 v1 D s l) : ab_C G (d + 1) 0 0 M_X8_fewest 0 (ab_ent [.ref 51, .int v0, .int v1]) [] (hp D s l) (rt (some (.int (f_X8_fewest v0 v1 D s l))) (hp D s l)) := by
  generalize he : (f_X8_fewest v0 v1 D s l) = res
  unfold f_X8_fewest at he
  unfold p_X8_fewest at hk
  refine r_weak (L1 := [some (.ref 51), some (.int v0), some (.int v1), none, none]) ⟨rfl, rfl, rfl, trivial⟩ ?_
  refine r_iload_n rfl rfl ?_
  refine r_if_ne rfl (fun c_1 => ?_) (fun c_1 => ?_)
  · rw [if_neg c_1] at he
    replace hk := hk.2 c_1
    refine r_ldc rfl ?_
    refine r_istore_n rfl (Nat.le_of_ble_eq_true rfl) rfl ?_
    refine r_iconst_ (a := 0) rfl (by decide) ?_
    refine r_istore rfl (Nat.le_of_ble_eq_true rfl) rfl ?_
    subst he
    exact r_weak (L1 := [some (.ref 51), some (.int v0), some (.int v1), some (.int (1000000 : Int32)), some (.int (0 : Int32))]) ⟨rfl, rfl, rfl, rfl, rfl, trivial⟩ (lp_X8_fewest_14 hfr fu _ _ _ _ hk)
  · rw [if_pos c_1] at he
    replace hk := hk.1 c_1
    refine r_iconst_ (a := 0) rfl (by decide) ?_
    refine r_goto rfl ?_
    refine r_istore_n rfl (Nat.le_of_ble_eq_true rfl) rfl ?_
    refine r_iconst_ (a := 0) rfl (by decide) ?_
    refine r_istore rfl (Nat.le_of_ble_eq_true rfl) rfl ?_
    subst he
    exact r_weak (L1 := [some (.ref 51), some (.int v0), some (.int v1), some (.int (0 : Int32)), some (.int (0 : Int32))]) ⟨rfl, rfl, rfl, rfl, rfl, trivial⟩ (lp_X8_fewest_14 hfr fu _ _ _ _ hk)

def f_X11_closest_20 : Nat → Int32 → Int32 → Int32 → Int32 → Int32 → fl_I → fl_L → Int32
  | 0, _, _, _, _, _, _, _ => 0
  | n + 1, x1, x2, x3, x4, x5, s, l =>
    if ((s 31 2) ≤ x5) then x3 else if (x4 ≤ (f_X11_apart (s 34 x5.toNatClampNeg) (((10 : Int32) * x2) + x1))) then f_X11_closest_20 n x1 x2 x3 x4 (x5 + 1) s l else f_X11_closest_20 n x1 x2 x5 (f_X11_apart (s 34 x5.toNatClampNeg) (((10 : Int32) * x2) + x1)) (x5 + 1) s l

def p_X11_closest_20 : Nat → Int32 → Int32 → Int32 → Int32 → Int32 → fl_I → fl_L → Prop
  | 0, _, _, _, _, _, _, _ => False
  | n + 1, x1, x2, x3, x4, x5, s, l =>
    ((((s 31 2) ≤ x5) → True) ∧ (¬ ((s 31 2) ≤ x5) → (vp_in x5 4) ∧ (p_X11_apart (s 34 x5.toNatClampNeg) (((10 : Int32) * x2) + x1)) ∧ (((x4 ≤ (f_X11_apart (s 34 x5.toNatClampNeg) (((10 : Int32) * x2) + x1))) → p_X11_closest_20 n x1 x2 x3 x4 (x5 + 1) s l) ∧ (¬ (x4 ≤ (f_X11_apart (s 34 x5.toNatClampNeg) (((10 : Int32) * x2) + x1))) → p_X11_closest_20 n x1 x2 x5 (f_X11_apart (s 34 x5.toNatClampNeg) (((10 : Int32) * x2) + x1)) (x5 + 1) s l))))

set_option maxRecDepth 100000 in
set_option maxHeartbeats 4000000 in
theorem lp_X11_closest_20 {G : ab_G} {d : Nat} {D : fl_D} {s : fl_I} {l : fl_L} : ∀ (n : Nat) (x1 : Int32) (x2 : Int32) (x3 : Int32) (x4 : Int32) (x5 : Int32), p_X11_closest_20 n x1 x2 x3 x4 x5 s l → ab_C G (d + 1) 0 0 M_X11_closest 20 [some (.ref 0), some (.int x1), some (.int x2), some (.int x3), some (.int x4), some (.int x5), none] [] (hp D s l) (rt (some (.int (f_X11_closest_20 n x1 x2 x3 x4 x5 s l))) (hp D s l)) := by
  intro n
  induction n with
  | zero => intro x1 x2 x3 x4 x5 hk; exact hk.elim
  | succ n ih =>
    intro x1 x2 x3 x4 x5 hk
    generalize he : f_X11_closest_20 (n + 1) x1 x2 x3 x4 x5 s l = res
    unfold f_X11_closest_20 at he
    unfold p_X11_closest_20 at hk
    refine r_iload rfl rfl ?_
    refine r_aload_n rfl rfl ?_
    refine q_getfield rfl (cc_0 _) rfl ?_
    refine q_getfield rfl (cc_31 _) rfl ?_
    refine r_icmp_ge rfl (fun c_29 => ?_) (fun c_29 => ?_)
    · rw [if_pos c_29] at he
      replace hk := hk.1 c_29
      refine r_iload_n rfl rfl ?_
      refine r_iret rfl rfl rfl ?_
      subst he
      exact ⟨rfl, rfl⟩
    · rw [if_neg c_29] at he
      replace hk := hk.2 c_29
      refine r_aload_n rfl rfl ?_
      refine q_getfield rfl (cc_0 _) rfl ?_
      refine q_getfield rfl (cc_31 _) rfl ?_
      refine r_iload rfl rfl ?_
      obtain ⟨hb1, hk⟩ := hk
      refine q_iald rfl (cc_34 _) hb1 ?_
      refine r_bipush_ (a := 10) rfl (by decide) ?_
      refine r_iload_n rfl rfl ?_
      refine r_imul rfl ?_
      refine r_iload_n rfl rfl ?_
      refine r_iadd rfl ?_
      obtain ⟨hb2, hk⟩ := hk
      refine r_callS0 [_, _] _ rfl kY_X11_apart kT_X11_apart rfl rfl (Nat.le_of_ble_eq_true rfl) (Nat.le_of_ble_eq_true rfl) (s_X11_apart hb2) (fun r h q => ?_)
      obtain ⟨rfl, rfl⟩ := q
      simp only [Option.toList, List.cons_append, List.nil_append]
      refine r_istore rfl (Nat.le_of_ble_eq_true rfl) rfl ?_
      refine r_iload rfl rfl ?_
      refine r_iload rfl rfl ?_
      refine r_icmp_ge rfl (fun c_57 => ?_) (fun c_57 => ?_)
      · rw [if_pos c_57] at he
        replace hk := hk.1 c_57
        refine r_iinc (b := x5 + 1) rfl rfl rfl (Nat.le_of_ble_eq_true rfl) rfl ?_
        refine r_goto rfl ?_
        subst he
        exact r_weak (L1 := [some (.ref 0), some (.int x1), some (.int x2), some (.int x3), some (.int x4), some (.int (x5 + 1)), none]) ⟨rfl, rfl, rfl, rfl, rfl, rfl, trivial⟩ (ih _ _ _ _ _ hk)
      · rw [if_neg c_57] at he
        replace hk := hk.2 c_57
        refine r_iload rfl rfl ?_
        refine r_istore rfl (Nat.le_of_ble_eq_true rfl) rfl ?_
        refine r_iload rfl rfl ?_
        refine r_istore_n rfl (Nat.le_of_ble_eq_true rfl) rfl ?_
        refine r_iinc (b := x5 + 1) rfl rfl rfl (Nat.le_of_ble_eq_true rfl) rfl ?_
        refine r_goto rfl ?_
        subst he
        exact r_weak (L1 := [some (.ref 0), some (.int x1), some (.int x2), some (.int x5), some (.int (f_X11_apart (s 34 x5.toNatClampNeg) (((10 : Int32) * x2) + x1))), some (.int (x5 + 1)), none]) ⟨rfl, rfl, rfl, rfl, rfl, rfl, trivial⟩ (ih _ _ _ _ _ hk)

def f_X11_closest (v0 : Int32) (v1 : Int32) (s : fl_I) (l : fl_L) : Int32 :=
  if ((f_X11_isCell v0 v1) = 0) then (-1 : Int32) else f_X11_closest_20 fu v0 v1 (-2 : Int32) (80 : Int32) (0 : Int32) s l

def p_X11_closest (v0 : Int32) (v1 : Int32) (s : fl_I) (l : fl_L) : Prop :=
  (p_X11_isCell v0 v1) ∧ ((((f_X11_isCell v0 v1) = 0) → True) ∧ (¬ ((f_X11_isCell v0 v1) = 0) → p_X11_closest_20 fu v0 v1 (-2 : Int32) (80 : Int32) (0 : Int32) s l))

set_option maxRecDepth 100000 in
set_option maxHeartbeats 4000000 in
theorem s_X11_closest {G : ab_G} {d : Nat} {D : fl_D} {s : fl_I} {l : fl_L} {v0 : Int32} {v1 : Int32} (hk : p_X11_closest v0 v1 s l) : ab_C G (d + 1) 0 0 M_X11_closest 0 (ab_ent [.ref 0, .int v0, .int v1]) [] (hp D s l) (rt (some (.int (f_X11_closest v0 v1 s l))) (hp D s l)) := by
  generalize he : (f_X11_closest v0 v1 s l) = res
  unfold f_X11_closest at he
  unfold p_X11_closest at hk
  refine r_weak (L1 := [some (.ref 0), some (.int v0), some (.int v1), none, none, none, none]) ⟨rfl, rfl, rfl, trivial⟩ ?_
  refine r_iload_n rfl rfl ?_
  refine r_iload_n rfl rfl ?_
  obtain ⟨hb0, hk⟩ := hk
  refine r_callS0 [_, _] _ rfl kY_X11_isCell kT_X11_isCell rfl rfl (Nat.le_of_ble_eq_true rfl) (Nat.le_of_ble_eq_true rfl) (s_X11_isCell hb0) (fun r h q => ?_)
  obtain ⟨rfl, rfl⟩ := q
  simp only [Option.toList, List.cons_append, List.nil_append]
  refine r_if_ne rfl (fun c_5 => ?_) (fun c_5 => ?_)
  · rw [if_neg c_5] at he
    replace hk := hk.2 c_5
    refine r_bipush_ (a := -2) rfl (by decide) ?_
    refine r_istore_n rfl (Nat.le_of_ble_eq_true rfl) rfl ?_
    refine r_bipush_ (a := 80) rfl (by decide) ?_
    refine r_istore rfl (Nat.le_of_ble_eq_true rfl) rfl ?_
    refine r_iconst_ (a := 0) rfl (by decide) ?_
    refine r_istore rfl (Nat.le_of_ble_eq_true rfl) rfl ?_
    subst he
    exact r_weak (L1 := [some (.ref 0), some (.int v0), some (.int v1), some (.int (-2 : Int32)), some (.int (80 : Int32)), some (.int (0 : Int32)), none]) ⟨rfl, rfl, rfl, rfl, rfl, rfl, trivial⟩ (lp_X11_closest_20 fu _ _ _ _ _ hk)
  · rw [if_pos c_5] at he
    replace hk := hk.1 c_5
    refine r_iconst_ (a := -1) rfl (by decide) ?_
    refine r_iret rfl rfl rfl ?_
    subst he
    exact ⟨rfl, rfl⟩

def f_X12_richest_23 : Nat → Int32 → Int32 → Int32 → Int32 → fl_I → fl_L → Int32 × fl_I × fl_L
  | 0, x1, x2, x3, x4, s, l => (0, s, l)
  | n + 1, x1, x2, x3, x4, s, l =>
    if ((80 : Int32) ≤ x4) then if (x2 < 0) then (x2, s, l) else if (x1 = 0) then (x2, s, l) else (x3, s, l) else if (x3 < (f_X12_lieAt x4 s l)) then f_X12_richest_23 n x1 x4 (f_X12_lieAt x4 s l) (x4 + 1) s l else f_X12_richest_23 n x1 x2 x3 (x4 + 1) s l

def p_X12_richest_23 : Nat → Int32 → Int32 → Int32 → Int32 → fl_I → fl_L → Prop
  | 0, _, _, _, _, _, _ => False
  | n + 1, x1, x2, x3, x4, s, l =>
    ((((80 : Int32) ≤ x4) → (((x2 < 0) → True) ∧ (¬ (x2 < 0) → (((x1 = 0) → True) ∧ (¬ (x1 = 0) → True))))) ∧ (¬ ((80 : Int32) ≤ x4) → (p_X12_lieAt x4 s l) ∧ (((x3 < (f_X12_lieAt x4 s l)) → (p_X12_lieAt x4 s l) ∧ p_X12_richest_23 n x1 x4 (f_X12_lieAt x4 s l) (x4 + 1) s l) ∧ (¬ (x3 < (f_X12_lieAt x4 s l)) → p_X12_richest_23 n x1 x2 x3 (x4 + 1) s l))))

set_option maxRecDepth 100000 in
set_option maxHeartbeats 4000000 in
theorem lp_X12_richest_23 {G : ab_G} {d : Nat} {D : fl_D} : ∀ (n : Nat) (x1 : Int32) (x2 : Int32) (x3 : Int32) (x4 : Int32) (s : fl_I) (l : fl_L), p_X12_richest_23 n x1 x2 x3 x4 s l → ab_C G (d + 2) 0 0 M_X12_richest 23 [some (.ref 60), some (.int x1), some (.int x2), some (.int x3), some (.int x4)] [] (hp D s l) (rt (some (.int (f_X12_richest_23 n x1 x2 x3 x4 s l).1)) (hp D (f_X12_richest_23 n x1 x2 x3 x4 s l).2.1 (f_X12_richest_23 n x1 x2 x3 x4 s l).2.2)) := by
  intro n
  induction n with
  | zero => intro x1 x2 x3 x4 s l hk; exact hk.elim
  | succ n ih =>
    intro x1 x2 x3 x4 s l hk
    generalize he : f_X12_richest_23 (n + 1) x1 x2 x3 x4 s l = res
    unfold f_X12_richest_23 at he
    unfold p_X12_richest_23 at hk
    refine r_iload rfl rfl ?_
    refine r_bipush_ (a := 80) rfl (by decide) ?_
    refine r_icmp_ge rfl (fun c_27 => ?_) (fun c_27 => ?_)
    · rw [if_pos c_27] at he
      replace hk := hk.1 c_27
      refine r_iload_n rfl rfl ?_
      refine r_if_lt rfl (fun c_60 => ?_) (fun c_60 => ?_)
      · rw [if_pos c_60] at he
        replace hk := hk.1 c_60
        refine r_iload_n rfl rfl ?_
        refine r_goto rfl ?_
        refine r_iret rfl rfl rfl ?_
        subst he
        exact ⟨rfl, rfl⟩
      · rw [if_neg c_60] at he
        replace hk := hk.2 c_60
        refine r_iload_n rfl rfl ?_
        refine r_if_ne rfl (fun c_64 => ?_) (fun c_64 => ?_)
        · rw [if_neg c_64] at he
          replace hk := hk.2 c_64
          refine r_iload_n rfl rfl ?_
          refine r_iret rfl rfl rfl ?_
          subst he
          exact ⟨rfl, rfl⟩
        · rw [if_pos c_64] at he
          replace hk := hk.1 c_64
          refine r_iload_n rfl rfl ?_
          refine r_goto rfl ?_
          refine r_iret rfl rfl rfl ?_
          subst he
          exact ⟨rfl, rfl⟩
    · rw [if_neg c_27] at he
      replace hk := hk.2 c_27
      refine r_aload_n rfl rfl ?_
      refine r_iload rfl rfl ?_
      obtain ⟨hb2, hk⟩ := hk
      refine q_callV0 [_] _ rfl kY_X12_lieAt kT_X12_lieAt rfl rfl (Nat.le_of_ble_eq_true rfl) (Nat.le_of_ble_eq_true rfl) (cc_60 _) (s_X12_lieAt hb2) (fun r h q => ?_)
      obtain ⟨rfl, rfl⟩ := q
      simp only [Option.toList, List.cons_append, List.nil_append]
      refine r_iload_n rfl rfl ?_
      refine r_icmp_gt rfl (fun c_37 => ?_) (fun c_37 => ?_)
      · rw [if_pos c_37] at he
        replace hk := hk.1 c_37
        refine r_iload rfl rfl ?_
        refine r_istore_n rfl (Nat.le_of_ble_eq_true rfl) rfl ?_
        refine r_aload_n rfl rfl ?_
        refine r_iload rfl rfl ?_
        obtain ⟨hb3, hk⟩ := hk
        refine q_callV0 [_] _ rfl kY_X12_lieAt kT_X12_lieAt rfl rfl (Nat.le_of_ble_eq_true rfl) (Nat.le_of_ble_eq_true rfl) (cc_60 _) (s_X12_lieAt hb3) (fun r h q => ?_)
        obtain ⟨rfl, rfl⟩ := q
        simp only [Option.toList, List.cons_append, List.nil_append]
        refine r_istore_n rfl (Nat.le_of_ble_eq_true rfl) rfl ?_
        refine r_iinc (b := x4 + 1) rfl rfl rfl (Nat.le_of_ble_eq_true rfl) rfl ?_
        refine r_goto rfl ?_
        subst he
        exact r_weak (L1 := [some (.ref 60), some (.int x1), some (.int x4), some (.int (f_X12_lieAt x4 s l)), some (.int (x4 + 1))]) ⟨rfl, rfl, rfl, rfl, rfl, trivial⟩ (ih _ _ _ _ _ _ hk)
      · rw [if_neg c_37] at he
        replace hk := hk.2 c_37
        refine r_goto rfl ?_
        refine r_iinc (b := x4 + 1) rfl rfl rfl (Nat.le_of_ble_eq_true rfl) rfl ?_
        refine r_goto rfl ?_
        subst he
        exact r_weak (L1 := [some (.ref 60), some (.int x1), some (.int x2), some (.int x3), some (.int (x4 + 1))]) ⟨rfl, rfl, rfl, rfl, rfl, trivial⟩ (ih _ _ _ _ _ _ hk)

def f_X12_richest (v0 : Int32) (s : fl_I) (l : fl_L) : Int32 × fl_I × fl_L :=
  if ((f_X12_in v0 (0 : Int32) (1 : Int32)) = 0) then ((-1 : Int32), s, l) else f_X12_richest_23 fu v0 (-2 : Int32) (0 : Int32) (0 : Int32) (f_X12_copies s l).1 (f_X12_copies s l).2

def p_X12_richest (v0 : Int32) (s : fl_I) (l : fl_L) : Prop :=
  (p_X12_in v0 (0 : Int32) (1 : Int32)) ∧ ((((f_X12_in v0 (0 : Int32) (1 : Int32)) = 0) → True) ∧ (¬ ((f_X12_in v0 (0 : Int32) (1 : Int32)) = 0) → (p_X12_copies s l) ∧ p_X12_richest_23 fu v0 (-2 : Int32) (0 : Int32) (0 : Int32) (f_X12_copies s l).1 (f_X12_copies s l).2))

set_option maxRecDepth 100000 in
set_option maxHeartbeats 4000000 in
theorem s_X12_richest {G : ab_G} {d : Nat} {D : fl_D} {s : fl_I} {l : fl_L} {v0 : Int32} (hk : p_X12_richest v0 s l) : ab_C G (d + 2) 0 0 M_X12_richest 0 (ab_ent [.ref 60, .int v0]) [] (hp D s l) (rt (some (.int (f_X12_richest v0 s l).1)) (hp D (f_X12_richest v0 s l).2.1 (f_X12_richest v0 s l).2.2)) := by
  generalize he : (f_X12_richest v0 s l) = res
  unfold f_X12_richest at he
  unfold p_X12_richest at hk
  refine r_weak (L1 := [some (.ref 60), some (.int v0), none, none, none]) ⟨rfl, rfl, trivial⟩ ?_
  refine r_iload_n rfl rfl ?_
  refine r_iconst_ (a := 0) rfl (by decide) ?_
  refine r_iconst_ (a := 1) rfl (by decide) ?_
  obtain ⟨hb0, hk⟩ := hk
  refine r_callS0 [_, _, _] _ rfl kY_X12_in kT_X12_in rfl rfl (Nat.le_of_ble_eq_true rfl) (Nat.le_of_ble_eq_true rfl) (s_X12_in hb0) (fun r h q => ?_)
  obtain ⟨rfl, rfl⟩ := q
  simp only [Option.toList, List.cons_append, List.nil_append]
  refine r_if_ne rfl (fun c_6 => ?_) (fun c_6 => ?_)
  · rw [if_neg c_6] at he
    replace hk := hk.2 c_6
    refine r_aload_n rfl rfl ?_
    obtain ⟨hb1, hk⟩ := hk
    refine q_callV0 [] _ rfl kY_X12_copies kT_X12_copies rfl rfl (Nat.le_of_ble_eq_true rfl) (Nat.le_of_ble_eq_true rfl) (cc_60 _) (s_X12_copies hb1) (fun r h q => ?_)
    obtain ⟨rfl, rfl⟩ := q
    simp only [Option.toList, List.cons_append, List.nil_append]
    refine r_bipush_ (a := -2) rfl (by decide) ?_
    refine r_istore_n rfl (Nat.le_of_ble_eq_true rfl) rfl ?_
    refine r_iconst_ (a := 0) rfl (by decide) ?_
    refine r_istore_n rfl (Nat.le_of_ble_eq_true rfl) rfl ?_
    refine r_iconst_ (a := 0) rfl (by decide) ?_
    refine r_istore rfl (Nat.le_of_ble_eq_true rfl) rfl ?_
    subst he
    exact r_weak (L1 := [some (.ref 60), some (.int v0), some (.int (-2 : Int32)), some (.int (0 : Int32)), some (.int (0 : Int32))]) ⟨rfl, rfl, rfl, rfl, rfl, trivial⟩ (lp_X12_richest_23 fu _ _ _ _ _ _ hk)
  · rw [if_pos c_6] at he
    replace hk := hk.1 c_6
    refine r_iconst_ (a := -1) rfl (by decide) ?_
    refine r_iret rfl rfl rfl ?_
    subst he
    exact ⟨rfl, rfl⟩

def f_X9_pickUp_20 (K2 : Int32 → fl_I → fl_L → fl_I × fl_L) : Nat → Int32 → Int32 → Int32 → Nat → Nat → fl_I → fl_L → fl_I × fl_L
  | 0, x2, x3, x4, t, a, s, l => (s, l)
  | n + 1, x2, x3, x4, t, a, s, l =>
    if ((s a 1) ≤ x4) then K2 (x2 + 1) s l else if ((s (t + 8) x2.toNatClampNeg) ≤ (s (a + 5) x2.toNatClampNeg)) then K2 (x2 + 1) s l else if ((s (a + 1) x4.toNatClampNeg) = x3) then f_X9_pickUp_20 K2 n x2 x3 (x4 + 1) t a (f_X10_putInHat x4 x2 a s l).1 (f_X10_putInHat x4 x2 a s l).2 else f_X9_pickUp_20 K2 n x2 x3 (x4 + 1) t a s l

def p_X9_pickUp_20 (P2 : Int32 → fl_I → fl_L → Prop) : Nat → Int32 → Int32 → Int32 → Nat → Nat → fl_I → fl_L → Prop
  | 0, _, _, _, _, _, _, _ => False
  | n + 1, x2, x3, x4, t, a, s, l =>
    ((((s a 1) ≤ x4) → P2 (x2 + 1) s l) ∧ (¬ ((s a 1) ≤ x4) → (vp_in x2 4) ∧ (vp_in x2 4) ∧ ((((s (t + 8) x2.toNatClampNeg) ≤ (s (a + 5) x2.toNatClampNeg)) → P2 (x2 + 1) s l) ∧ (¬ ((s (t + 8) x2.toNatClampNeg) ≤ (s (a + 5) x2.toNatClampNeg)) → (vp_in x4 32) ∧ ((((s (a + 1) x4.toNatClampNeg) = x3) → (p_X10_putInHat x4 x2 a s l) ∧ p_X9_pickUp_20 P2 n x2 x3 (x4 + 1) t a (f_X10_putInHat x4 x2 a s l).1 (f_X10_putInHat x4 x2 a s l).2) ∧ (¬ ((s (a + 1) x4.toNatClampNeg) = x3) → p_X9_pickUp_20 P2 n x2 x3 (x4 + 1) t a s l))))))

set_option maxRecDepth 100000 in
set_option maxHeartbeats 4000000 in
theorem lp_X9_pickUp_20 {G : ab_G} {d : Nat} {D : fl_D} {t : Nat} (htt : isT t) {a : Nat} (hya : isY D a) (K2 : Int32 → fl_I → fl_L → fl_I × fl_L) (P2 : Int32 → fl_I → fl_L → Prop) (hK2 : ∀ (x2 : Int32) (s : fl_I) (l : fl_L), P2 x2 s l → ab_C G (d + 1) 0 0 M_X9_pickUp 2 [some (.ref t), some (.ref a), some (.int x2), none, none] [] (hp D s l) (rt none (hp D (K2 x2 s l).1 (K2 x2 s l).2))) : ∀ (n : Nat) (x2 : Int32) (x3 : Int32) (x4 : Int32) (s : fl_I) (l : fl_L), p_X9_pickUp_20 P2 n x2 x3 x4 t a s l → ab_C G (d + 1) 0 0 M_X9_pickUp 20 [some (.ref t), some (.ref a), some (.int x2), some (.int x3), some (.int x4)] [] (hp D s l) (rt none (hp D (f_X9_pickUp_20 K2 n x2 x3 x4 t a s l).1 (f_X9_pickUp_20 K2 n x2 x3 x4 t a s l).2)) := by
  intro n
  induction n with
  | zero => intro x2 x3 x4 s l hk; exact hk.elim
  | succ n ih =>
    intro x2 x3 x4 s l hk
    generalize he : f_X9_pickUp_20 K2 (n + 1) x2 x3 x4 t a s l = res
    unfold f_X9_pickUp_20 at he
    unfold p_X9_pickUp_20 at hk
    refine r_iload rfl rfl ?_
    refine r_aload_n rfl rfl ?_
    refine q_getfield rfl (cY_0 hya) rfl ?_
    refine r_icmp_ge rfl (fun c_26 => ?_) (fun c_26 => ?_)
    · rw [if_pos c_26] at he
      replace hk := hk.1 c_26
      refine r_iinc (b := x2 + 1) rfl rfl rfl (Nat.le_of_ble_eq_true rfl) rfl ?_
      refine r_goto rfl ?_
      subst he
      exact r_weak (L1 := [some (.ref t), some (.ref a), some (.int (x2 + 1)), none, none]) ⟨rfl, rfl, rfl, trivial⟩ (hK2 _ _ _ hk)
    · rw [if_neg c_26] at he
      replace hk := hk.2 c_26
      refine r_aload_n rfl rfl ?_
      refine q_getfield rfl (cY_0 hya) rfl ?_
      refine r_iload_n rfl rfl ?_
      obtain ⟨hb1, hk⟩ := hk
      refine q_iald rfl (cY_5 hya) hb1 ?_
      refine r_aload_n rfl rfl ?_
      refine q_getfield rfl (cT_0 htt) rfl ?_
      refine r_iload_n rfl rfl ?_
      obtain ⟨hb2, hk⟩ := hk
      refine q_iald rfl (cT_8 htt) hb2 ?_
      refine r_icmp_ge rfl (fun c_41 => ?_) (fun c_41 => ?_)
      · rw [if_pos c_41] at he
        replace hk := hk.1 c_41
        refine r_iinc (b := x2 + 1) rfl rfl rfl (Nat.le_of_ble_eq_true rfl) rfl ?_
        refine r_goto rfl ?_
        subst he
        exact r_weak (L1 := [some (.ref t), some (.ref a), some (.int (x2 + 1)), none, none]) ⟨rfl, rfl, rfl, trivial⟩ (hK2 _ _ _ hk)
      · rw [if_neg c_41] at he
        replace hk := hk.2 c_41
        refine r_aload_n rfl rfl ?_
        refine q_getfield rfl (cY_0 hya) rfl ?_
        refine r_iload rfl rfl ?_
        obtain ⟨hb3, hk⟩ := hk
        refine q_iald rfl (cY_1 hya) hb3 ?_
        refine r_iload_n rfl rfl ?_
        refine r_icmp_ne rfl (fun c_52 => ?_) (fun c_52 => ?_)
        · rw [if_neg c_52] at he
          replace hk := hk.2 c_52
          refine r_iinc (b := x4 + 1) rfl rfl rfl (Nat.le_of_ble_eq_true rfl) rfl ?_
          refine r_goto rfl ?_
          subst he
          exact r_weak (L1 := [some (.ref t), some (.ref a), some (.int x2), some (.int x3), some (.int (x4 + 1))]) ⟨rfl, rfl, rfl, rfl, rfl, trivial⟩ (ih _ _ _ _ _ hk)
        · rw [if_pos c_52] at he
          replace hk := hk.1 c_52
          refine r_aload_n rfl rfl ?_
          refine r_iload rfl rfl ?_
          refine r_iload_n rfl rfl ?_
          obtain ⟨hb4, hk⟩ := hk
          refine q_callV0 [_, _] _ rfl kY_X10_putInHat kT_X10_putInHat rfl rfl (Nat.le_of_ble_eq_true rfl) (Nat.le_of_ble_eq_true rfl) (cY_0 hya) (s_X10_putInHat hya hb4) (fun r h q => ?_)
          obtain ⟨rfl, rfl⟩ := q
          simp only [Option.toList, List.cons_append, List.nil_append]
          refine r_iinc (b := x4 + 1) rfl rfl rfl (Nat.le_of_ble_eq_true rfl) rfl ?_
          refine r_goto rfl ?_
          subst he
          exact r_weak (L1 := [some (.ref t), some (.ref a), some (.int x2), some (.int x3), some (.int (x4 + 1))]) ⟨rfl, rfl, rfl, rfl, rfl, trivial⟩ (ih _ _ _ _ _ hk)

def f_X9_pickUp_2 : Nat → Int32 → Nat → Nat → fl_I → fl_L → fl_I × fl_L
  | 0, x2, t, a, s, l => (s, l)
  | n + 1, x2, t, a, s, l =>
    if ((s a 2) ≤ x2) then (s, l) else f_X9_pickUp_20 (fun x2 s l => f_X9_pickUp_2 n x2 t a s l) fu x2 (s (a + 3) x2.toNatClampNeg) (0 : Int32) t a s l

def p_X9_pickUp_2 : Nat → Int32 → Nat → Nat → fl_I → fl_L → Prop
  | 0, _, _, _, _, _ => False
  | n + 1, x2, t, a, s, l =>
    ((((s a 2) ≤ x2) → True) ∧ (¬ ((s a 2) ≤ x2) → (vp_in x2 4) ∧ p_X9_pickUp_20 (fun x2 s l => p_X9_pickUp_2 n x2 t a s l) fu x2 (s (a + 3) x2.toNatClampNeg) (0 : Int32) t a s l))

set_option maxRecDepth 100000 in
set_option maxHeartbeats 4000000 in
theorem lp_X9_pickUp_2 {G : ab_G} {d : Nat} {D : fl_D} {t : Nat} (htt : isT t) {a : Nat} (hya : isY D a) : ∀ (n : Nat) (x2 : Int32) (s : fl_I) (l : fl_L), p_X9_pickUp_2 n x2 t a s l → ab_C G (d + 1) 0 0 M_X9_pickUp 2 [some (.ref t), some (.ref a), some (.int x2), none, none] [] (hp D s l) (rt none (hp D (f_X9_pickUp_2 n x2 t a s l).1 (f_X9_pickUp_2 n x2 t a s l).2)) := by
  intro n
  induction n with
  | zero => intro x2 s l hk; exact hk.elim
  | succ n ih =>
    intro x2 s l hk
    generalize he : f_X9_pickUp_2 (n + 1) x2 t a s l = res
    unfold f_X9_pickUp_2 at he
    unfold p_X9_pickUp_2 at hk
    refine r_iload_n rfl rfl ?_
    refine r_aload_n rfl rfl ?_
    refine q_getfield rfl (cY_0 hya) rfl ?_
    refine r_icmp_ge rfl (fun c_7 => ?_) (fun c_7 => ?_)
    · rw [if_pos c_7] at he
      replace hk := hk.1 c_7
      refine r_ret rfl rfl ?_
      subst he
      exact ⟨rfl, rfl⟩
    · rw [if_neg c_7] at he
      replace hk := hk.2 c_7
      refine r_aload_n rfl rfl ?_
      refine q_getfield rfl (cY_0 hya) rfl ?_
      refine r_iload_n rfl rfl ?_
      obtain ⟨hb0, hk⟩ := hk
      refine q_iald rfl (cY_3 hya) hb0 ?_
      refine r_istore_n rfl (Nat.le_of_ble_eq_true rfl) rfl ?_
      refine r_iconst_ (a := 0) rfl (by decide) ?_
      refine r_istore rfl (Nat.le_of_ble_eq_true rfl) rfl ?_
      subst he
      exact r_weak (L1 := [some (.ref t), some (.ref a), some (.int x2), some (.int (s (a + 3) x2.toNatClampNeg)), some (.int (0 : Int32))]) ⟨rfl, rfl, rfl, rfl, rfl, trivial⟩ (lp_X9_pickUp_20 htt hya _ _ (fun _ _ _ h9 => ih _ _ _ h9) fu _ _ _ _ _ hk)

def f_X9_pickUp (t : Nat) (a : Nat) (s : fl_I) (l : fl_L) : fl_I × fl_L :=
  f_X9_pickUp_2 fu (0 : Int32) t a s l

def p_X9_pickUp (t : Nat) (a : Nat) (s : fl_I) (l : fl_L) : Prop :=
  p_X9_pickUp_2 fu (0 : Int32) t a s l

set_option maxRecDepth 100000 in
set_option maxHeartbeats 4000000 in
theorem s_X9_pickUp {G : ab_G} {d : Nat} {D : fl_D} {s : fl_I} {l : fl_L} {t : Nat} (htt : isT t) {a : Nat} (hya : isY D a)  (hk : p_X9_pickUp t a s l) : ab_C G (d + 1) 0 0 M_X9_pickUp 0 (ab_ent [.ref t, .ref a]) [] (hp D s l) (rt none (hp D (f_X9_pickUp t a s l).1 (f_X9_pickUp t a s l).2)) := by
  generalize he : (f_X9_pickUp t a s l) = res
  unfold f_X9_pickUp at he
  unfold p_X9_pickUp at hk
  refine r_weak (L1 := [some (.ref t), some (.ref a), none, none, none]) ⟨rfl, rfl, trivial⟩ ?_
  refine r_iconst_ (a := 0) rfl (by decide) ?_
  refine r_istore_n rfl (Nat.le_of_ble_eq_true rfl) rfl ?_
  subst he
  exact r_weak (L1 := [some (.ref t), some (.ref a), some (.int (0 : Int32)), none, none]) ⟨rfl, rfl, rfl, trivial⟩ (lp_X9_pickUp_2 htt hya fu _ _ _ hk)

def f_X0_gather_11 : Nat → Int32 → Int32 → Nat → Nat → fl_I → fl_L → fl_I × fl_L
  | 0, x3, x4, t, a, s, l => (s, l)
  | n + 1, x3, x4, t, a, s, l =>
    if ((s a 1) ≤ x4) then (s, l) else if (x3 = (5 : Int32)) then f_X0_gather_11 n x3 (x4 + 1) t a (wi s 56 ((s (t + 4) x4.toNatClampNeg) &&& (31 : Int32)).toNatClampNeg ((s 56 ((s (t + 4) x4.toNatClampNeg) &&& (31 : Int32)).toNatClampNeg) + (1 : Int32))) l else if (x3 = (4 : Int32)) then if ((f_X10_isLying x4 a s l) = 0) then f_X0_gather_11 n x3 (x4 + 1) t a s l else f_X0_gather_11 n x3 (x4 + 1) t a (wi s 56 ((s (t + 4) x4.toNatClampNeg) &&& (31 : Int32)).toNatClampNeg ((s 56 ((s (t + 4) x4.toNatClampNeg) &&& (31 : Int32)).toNatClampNeg) + (1 : Int32))) l else if ((f_X10_holder x4 a s l) = x3) then f_X0_gather_11 n x3 (x4 + 1) t a (wi s 56 ((s (t + 4) x4.toNatClampNeg) &&& (31 : Int32)).toNatClampNeg ((s 56 ((s (t + 4) x4.toNatClampNeg) &&& (31 : Int32)).toNatClampNeg) + (1 : Int32))) l else f_X0_gather_11 n x3 (x4 + 1) t a s l

def p_X0_gather_11 : Nat → Int32 → Int32 → Nat → Nat → fl_I → fl_L → Prop
  | 0, _, _, _, _, _, _ => False
  | n + 1, x3, x4, t, a, s, l =>
    ((((s a 1) ≤ x4) → True) ∧ (¬ ((s a 1) ≤ x4) → (p_X10_isLying x4 a s l) ∧ (((x3 = (5 : Int32)) → (vp_in x4 32) ∧ (vp_in ((s (t + 4) x4.toNatClampNeg) &&& (31 : Int32)) 32) ∧ (vp_in ((s (t + 4) x4.toNatClampNeg) &&& (31 : Int32)) 32) ∧ p_X0_gather_11 n x3 (x4 + 1) t a (wi s 56 ((s (t + 4) x4.toNatClampNeg) &&& (31 : Int32)).toNatClampNeg ((s 56 ((s (t + 4) x4.toNatClampNeg) &&& (31 : Int32)).toNatClampNeg) + (1 : Int32))) l) ∧ (¬ (x3 = (5 : Int32)) → (((x3 = (4 : Int32)) → ((((f_X10_isLying x4 a s l) = 0) → p_X0_gather_11 n x3 (x4 + 1) t a s l) ∧ (¬ ((f_X10_isLying x4 a s l) = 0) → (vp_in x4 32) ∧ (vp_in ((s (t + 4) x4.toNatClampNeg) &&& (31 : Int32)) 32) ∧ (vp_in ((s (t + 4) x4.toNatClampNeg) &&& (31 : Int32)) 32) ∧ p_X0_gather_11 n x3 (x4 + 1) t a (wi s 56 ((s (t + 4) x4.toNatClampNeg) &&& (31 : Int32)).toNatClampNeg ((s 56 ((s (t + 4) x4.toNatClampNeg) &&& (31 : Int32)).toNatClampNeg) + (1 : Int32))) l))) ∧ (¬ (x3 = (4 : Int32)) → (p_X10_holder x4 a s l) ∧ ((((f_X10_holder x4 a s l) = x3) → (vp_in x4 32) ∧ (vp_in ((s (t + 4) x4.toNatClampNeg) &&& (31 : Int32)) 32) ∧ (vp_in ((s (t + 4) x4.toNatClampNeg) &&& (31 : Int32)) 32) ∧ p_X0_gather_11 n x3 (x4 + 1) t a (wi s 56 ((s (t + 4) x4.toNatClampNeg) &&& (31 : Int32)).toNatClampNeg ((s 56 ((s (t + 4) x4.toNatClampNeg) &&& (31 : Int32)).toNatClampNeg) + (1 : Int32))) l) ∧ (¬ ((f_X10_holder x4 a s l) = x3) → p_X0_gather_11 n x3 (x4 + 1) t a s l))))))))

set_option maxRecDepth 100000 in
set_option maxHeartbeats 4000000 in
theorem lp_X0_gather_11 {G : ab_G} {d : Nat} {D : fl_D} {t : Nat} (htt : isT t) {a : Nat} (hya : isY D a) : ∀ (n : Nat) (x3 : Int32) (x4 : Int32) (s : fl_I) (l : fl_L), p_X0_gather_11 n x3 x4 t a s l → ab_C G (d + 1) 0 0 M_X0_gather 11 [some (.ref 55), some (.ref t), some (.ref a), some (.int x3), some (.int x4), none] [] (hp D s l) (rt none (hp D (f_X0_gather_11 n x3 x4 t a s l).1 (f_X0_gather_11 n x3 x4 t a s l).2)) := by
  intro n
  induction n with
  | zero => intro x3 x4 s l hk; exact hk.elim
  | succ n ih =>
    intro x3 x4 s l hk
    generalize he : f_X0_gather_11 (n + 1) x3 x4 t a s l = res
    unfold f_X0_gather_11 at he
    unfold p_X0_gather_11 at hk
    refine r_iload rfl rfl ?_
    refine r_aload_n rfl rfl ?_
    refine q_getfield rfl (cY_0 hya) rfl ?_
    refine r_icmp_ge rfl (fun c_17 => ?_) (fun c_17 => ?_)
    · rw [if_pos c_17] at he
      replace hk := hk.1 c_17
      refine r_ret rfl rfl ?_
      subst he
      exact ⟨rfl, rfl⟩
    · rw [if_neg c_17] at he
      replace hk := hk.2 c_17
      refine r_aload_n rfl rfl ?_
      refine r_iload rfl rfl ?_
      obtain ⟨hb0, hk⟩ := hk
      refine q_callV0 [_] _ rfl kY_X10_isLying kT_X10_isLying rfl rfl (Nat.le_of_ble_eq_true rfl) (Nat.le_of_ble_eq_true rfl) (cY_0 hya) (s_X10_isLying hya hb0) (fun r h q => ?_)
      obtain ⟨rfl, rfl⟩ := q
      simp only [Option.toList, List.cons_append, List.nil_append]
      refine r_istore rfl (Nat.le_of_ble_eq_true rfl) rfl ?_
      refine r_iload_n rfl rfl ?_
      refine r_iconst_ (a := 5) rfl (by decide) ?_
      refine r_icmp_eq rfl (fun c_30 => ?_) (fun c_30 => ?_)
      · rw [if_pos c_30] at he
        replace hk := hk.1 c_30
        refine r_aload_n rfl rfl ?_
        refine q_getfield rfl (cc_55 _) rfl ?_
        refine r_aload_n rfl rfl ?_
        refine q_getfield rfl (cT_0 htt) rfl ?_
        refine r_iload rfl rfl ?_
        obtain ⟨hb1, hk⟩ := hk
        refine q_iald rfl (cT_4 htt) hb1 ?_
        refine r_bipush_ (a := 31) rfl (by decide) ?_
        refine r_iand rfl ?_
        refine r_dup2 rfl rfl rfl ?_
        obtain ⟨hb2, hk⟩ := hk
        refine q_iald rfl (cc_56 _) hb2 ?_
        refine r_iconst_ (a := 1) rfl (by decide) ?_
        refine r_iadd rfl ?_
        obtain ⟨hb3, hk⟩ := hk
        refine w_iast rfl (cc_56 _) hb3 ?_
        refine r_iinc (b := x4 + 1) rfl rfl rfl (Nat.le_of_ble_eq_true rfl) rfl ?_
        refine r_goto rfl ?_
        subst he
        exact r_weak (L1 := [some (.ref 55), some (.ref t), some (.ref a), some (.int x3), some (.int (x4 + 1)), none]) ⟨rfl, rfl, rfl, rfl, rfl, trivial⟩ (ih _ _ _ _ hk)
      · rw [if_neg c_30] at he
        replace hk := hk.2 c_30
        refine r_iload_n rfl rfl ?_
        refine r_iconst_ (a := 4) rfl (by decide) ?_
        refine r_icmp_ne rfl (fun c_35 => ?_) (fun c_35 => ?_)
        · rw [if_neg c_35] at he
          replace hk := hk.2 c_35
          refine r_aload_n rfl rfl ?_
          refine r_iload rfl rfl ?_
          obtain ⟨hb4, hk⟩ := hk
          refine q_callV0 [_] _ rfl kY_X10_holder kT_X10_holder rfl rfl (Nat.le_of_ble_eq_true rfl) (Nat.le_of_ble_eq_true rfl) (cY_0 hya) (s_X10_holder hya hb4) (fun r h q => ?_)
          obtain ⟨rfl, rfl⟩ := q
          simp only [Option.toList, List.cons_append, List.nil_append]
          refine r_iload_n rfl rfl ?_
          refine r_icmp_ne rfl (fun c_53 => ?_) (fun c_53 => ?_)
          · rw [if_neg c_53] at he
            replace hk := hk.2 c_53
            refine r_iinc (b := x4 + 1) rfl rfl rfl (Nat.le_of_ble_eq_true rfl) rfl ?_
            refine r_goto rfl ?_
            subst he
            exact r_weak (L1 := [some (.ref 55), some (.ref t), some (.ref a), some (.int x3), some (.int (x4 + 1)), none]) ⟨rfl, rfl, rfl, rfl, rfl, trivial⟩ (ih _ _ _ _ hk)
          · rw [if_pos c_53] at he
            replace hk := hk.1 c_53
            refine r_aload_n rfl rfl ?_
            refine q_getfield rfl (cc_55 _) rfl ?_
            refine r_aload_n rfl rfl ?_
            refine q_getfield rfl (cT_0 htt) rfl ?_
            refine r_iload rfl rfl ?_
            obtain ⟨hb5, hk⟩ := hk
            refine q_iald rfl (cT_4 htt) hb5 ?_
            refine r_bipush_ (a := 31) rfl (by decide) ?_
            refine r_iand rfl ?_
            refine r_dup2 rfl rfl rfl ?_
            obtain ⟨hb6, hk⟩ := hk
            refine q_iald rfl (cc_56 _) hb6 ?_
            refine r_iconst_ (a := 1) rfl (by decide) ?_
            refine r_iadd rfl ?_
            obtain ⟨hb7, hk⟩ := hk
            refine w_iast rfl (cc_56 _) hb7 ?_
            refine r_iinc (b := x4 + 1) rfl rfl rfl (Nat.le_of_ble_eq_true rfl) rfl ?_
            refine r_goto rfl ?_
            subst he
            exact r_weak (L1 := [some (.ref 55), some (.ref t), some (.ref a), some (.int x3), some (.int (x4 + 1)), none]) ⟨rfl, rfl, rfl, rfl, rfl, trivial⟩ (ih _ _ _ _ hk)
        · rw [if_pos c_35] at he
          replace hk := hk.1 c_35
          refine r_iload rfl rfl ?_
          refine r_if_eq rfl (fun c_40 => ?_) (fun c_40 => ?_)
          · rw [if_pos c_40] at he
            replace hk := hk.1 c_40
            refine r_iinc (b := x4 + 1) rfl rfl rfl (Nat.le_of_ble_eq_true rfl) rfl ?_
            refine r_goto rfl ?_
            subst he
            exact r_weak (L1 := [some (.ref 55), some (.ref t), some (.ref a), some (.int x3), some (.int (x4 + 1)), none]) ⟨rfl, rfl, rfl, rfl, rfl, trivial⟩ (ih _ _ _ _ hk)
          · rw [if_neg c_40] at he
            replace hk := hk.2 c_40
            refine r_goto rfl ?_
            refine r_aload_n rfl rfl ?_
            refine q_getfield rfl (cc_55 _) rfl ?_
            refine r_aload_n rfl rfl ?_
            refine q_getfield rfl (cT_0 htt) rfl ?_
            refine r_iload rfl rfl ?_
            obtain ⟨hb8, hk⟩ := hk
            refine q_iald rfl (cT_4 htt) hb8 ?_
            refine r_bipush_ (a := 31) rfl (by decide) ?_
            refine r_iand rfl ?_
            refine r_dup2 rfl rfl rfl ?_
            obtain ⟨hb9, hk⟩ := hk
            refine q_iald rfl (cc_56 _) hb9 ?_
            refine r_iconst_ (a := 1) rfl (by decide) ?_
            refine r_iadd rfl ?_
            obtain ⟨hb10, hk⟩ := hk
            refine w_iast rfl (cc_56 _) hb10 ?_
            refine r_iinc (b := x4 + 1) rfl rfl rfl (Nat.le_of_ble_eq_true rfl) rfl ?_
            refine r_goto rfl ?_
            subst he
            exact r_weak (L1 := [some (.ref 55), some (.ref t), some (.ref a), some (.int x3), some (.int (x4 + 1)), none]) ⟨rfl, rfl, rfl, rfl, rfl, trivial⟩ (ih _ _ _ _ hk)

def f_X0_gather (v2 : Int32) (t : Nat) (a : Nat) (s : fl_I) (l : fl_L) : fl_I × fl_L :=
  f_X0_gather_11 fu v2 (0 : Int32) t a (fl_fill (0 : Int32) 56 32 s l).1 (fl_fill (0 : Int32) 56 32 s l).2

def p_X0_gather (v2 : Int32) (t : Nat) (a : Nat) (s : fl_I) (l : fl_L) : Prop :=
  p_X0_gather_11 fu v2 (0 : Int32) t a (fl_fill (0 : Int32) 56 32 s l).1 (fl_fill (0 : Int32) 56 32 s l).2

set_option maxRecDepth 100000 in
set_option maxHeartbeats 4000000 in
theorem s_X0_gather {G : ab_G} {d : Nat} {D : fl_D} {s : fl_I} {l : fl_L} {t : Nat} (htt : isT t) {a : Nat} (hya : isY D a) {v2 : Int32} (hk : p_X0_gather v2 t a s l) : ab_C G (d + 1) 0 0 M_X0_gather 0 (ab_ent [.ref 55, .ref t, .ref a, .int v2]) [] (hp D s l) (rt none (hp D (f_X0_gather v2 t a s l).1 (f_X0_gather v2 t a s l).2)) := by
  generalize he : (f_X0_gather v2 t a s l) = res
  unfold f_X0_gather at he
  unfold p_X0_gather at hk
  refine r_weak (L1 := [some (.ref 55), some (.ref t), some (.ref a), some (.int v2), none, none]) ⟨rfl, rfl, rfl, rfl, trivial⟩ ?_
  refine r_aload_n rfl rfl ?_
  refine q_getfield rfl (cc_55 _) rfl ?_
  refine r_iconst_ (a := 0) rfl (by decide) ?_
  refine r_callS0 [_, _] _ rfl kY_J7_fill_53178 kT_J7_fill_53178 rfl rfl (Nat.le_of_ble_eq_true rfl) (Nat.le_of_ble_eq_true rfl) (s_fill (cc_56 _) (by omega)) (fun r h q => ?_)
  obtain ⟨rfl, rfl⟩ := q
  simp only [Option.toList, List.cons_append, List.nil_append]
  refine r_iconst_ (a := 0) rfl (by decide) ?_
  refine r_istore rfl (Nat.le_of_ble_eq_true rfl) rfl ?_
  subst he
  exact r_weak (L1 := [some (.ref 55), some (.ref t), some (.ref a), some (.int v2), some (.int (0 : Int32)), none]) ⟨rfl, rfl, rfl, rfl, rfl, trivial⟩ (lp_X0_gather_11 htt hya fu _ _ _ _ hk)

def f_X10_begin (a : Nat) (t : Nat) (s : fl_I) (l : fl_L) : fl_I × fl_L :=
  ((fl_fill (0 : Int32) (a + 5) 4 (fl_fill (-2 : Int32) (a + 4) 4 (fl_fill (0 : Int32) (a + 2) 32 (wc (wc (wi (wi (wi s a 0 (0 : Int32)) a 1 (i_min (32 : Int32) ((wi s a 0 (0 : Int32)) t 3))) a 2 (i_min (4 : Int32) ((wi (wi s a 0 (0 : Int32)) a 1 (i_min (32 : Int32) ((wi s a 0 (0 : Int32)) t 3))) t 2))) (t + 6) (a + 1) (0 : Int32).toNatClampNeg (0 : Int32).toNatClampNeg (32 : Int32).toNatClampNeg) (t + 7) (a + 3) (0 : Int32).toNatClampNeg (0 : Int32).toNatClampNeg (4 : Int32).toNatClampNeg) l).1 (fl_fill (0 : Int32) (a + 2) 32 (wc (wc (wi (wi (wi s a 0 (0 : Int32)) a 1 (i_min (32 : Int32) ((wi s a 0 (0 : Int32)) t 3))) a 2 (i_min (4 : Int32) ((wi (wi s a 0 (0 : Int32)) a 1 (i_min (32 : Int32) ((wi s a 0 (0 : Int32)) t 3))) t 2))) (t + 6) (a + 1) (0 : Int32).toNatClampNeg (0 : Int32).toNatClampNeg (32 : Int32).toNatClampNeg) (t + 7) (a + 3) (0 : Int32).toNatClampNeg (0 : Int32).toNatClampNeg (4 : Int32).toNatClampNeg) l).2).1 (fl_fill (-2 : Int32) (a + 4) 4 (fl_fill (0 : Int32) (a + 2) 32 (wc (wc (wi (wi (wi s a 0 (0 : Int32)) a 1 (i_min (32 : Int32) ((wi s a 0 (0 : Int32)) t 3))) a 2 (i_min (4 : Int32) ((wi (wi s a 0 (0 : Int32)) a 1 (i_min (32 : Int32) ((wi s a 0 (0 : Int32)) t 3))) t 2))) (t + 6) (a + 1) (0 : Int32).toNatClampNeg (0 : Int32).toNatClampNeg (32 : Int32).toNatClampNeg) (t + 7) (a + 3) (0 : Int32).toNatClampNeg (0 : Int32).toNatClampNeg (4 : Int32).toNatClampNeg) l).1 (fl_fill (0 : Int32) (a + 2) 32 (wc (wc (wi (wi (wi s a 0 (0 : Int32)) a 1 (i_min (32 : Int32) ((wi s a 0 (0 : Int32)) t 3))) a 2 (i_min (4 : Int32) ((wi (wi s a 0 (0 : Int32)) a 1 (i_min (32 : Int32) ((wi s a 0 (0 : Int32)) t 3))) t 2))) (t + 6) (a + 1) (0 : Int32).toNatClampNeg (0 : Int32).toNatClampNeg (32 : Int32).toNatClampNeg) (t + 7) (a + 3) (0 : Int32).toNatClampNeg (0 : Int32).toNatClampNeg (4 : Int32).toNatClampNeg) l).2).2).1, (fl_fill (0 : Int32) (a + 5) 4 (fl_fill (-2 : Int32) (a + 4) 4 (fl_fill (0 : Int32) (a + 2) 32 (wc (wc (wi (wi (wi s a 0 (0 : Int32)) a 1 (i_min (32 : Int32) ((wi s a 0 (0 : Int32)) t 3))) a 2 (i_min (4 : Int32) ((wi (wi s a 0 (0 : Int32)) a 1 (i_min (32 : Int32) ((wi s a 0 (0 : Int32)) t 3))) t 2))) (t + 6) (a + 1) (0 : Int32).toNatClampNeg (0 : Int32).toNatClampNeg (32 : Int32).toNatClampNeg) (t + 7) (a + 3) (0 : Int32).toNatClampNeg (0 : Int32).toNatClampNeg (4 : Int32).toNatClampNeg) l).1 (fl_fill (0 : Int32) (a + 2) 32 (wc (wc (wi (wi (wi s a 0 (0 : Int32)) a 1 (i_min (32 : Int32) ((wi s a 0 (0 : Int32)) t 3))) a 2 (i_min (4 : Int32) ((wi (wi s a 0 (0 : Int32)) a 1 (i_min (32 : Int32) ((wi s a 0 (0 : Int32)) t 3))) t 2))) (t + 6) (a + 1) (0 : Int32).toNatClampNeg (0 : Int32).toNatClampNeg (32 : Int32).toNatClampNeg) (t + 7) (a + 3) (0 : Int32).toNatClampNeg (0 : Int32).toNatClampNeg (4 : Int32).toNatClampNeg) l).2).1 (fl_fill (-2 : Int32) (a + 4) 4 (fl_fill (0 : Int32) (a + 2) 32 (wc (wc (wi (wi (wi s a 0 (0 : Int32)) a 1 (i_min (32 : Int32) ((wi s a 0 (0 : Int32)) t 3))) a 2 (i_min (4 : Int32) ((wi (wi s a 0 (0 : Int32)) a 1 (i_min (32 : Int32) ((wi s a 0 (0 : Int32)) t 3))) t 2))) (t + 6) (a + 1) (0 : Int32).toNatClampNeg (0 : Int32).toNatClampNeg (32 : Int32).toNatClampNeg) (t + 7) (a + 3) (0 : Int32).toNatClampNeg (0 : Int32).toNatClampNeg (4 : Int32).toNatClampNeg) l).1 (fl_fill (0 : Int32) (a + 2) 32 (wc (wc (wi (wi (wi s a 0 (0 : Int32)) a 1 (i_min (32 : Int32) ((wi s a 0 (0 : Int32)) t 3))) a 2 (i_min (4 : Int32) ((wi (wi s a 0 (0 : Int32)) a 1 (i_min (32 : Int32) ((wi s a 0 (0 : Int32)) t 3))) t 2))) (t + 6) (a + 1) (0 : Int32).toNatClampNeg (0 : Int32).toNatClampNeg (32 : Int32).toNatClampNeg) (t + 7) (a + 3) (0 : Int32).toNatClampNeg (0 : Int32).toNatClampNeg (4 : Int32).toNatClampNeg) l).2).2).2)

def p_X10_begin (a : Nat) (t : Nat) (s : fl_I) (l : fl_L) : Prop :=
  True

set_option maxRecDepth 100000 in
set_option maxHeartbeats 4000000 in
theorem s_X10_begin {G : ab_G} {d : Nat} {D : fl_D} {s : fl_I} {l : fl_L} {a : Nat} (hya : isY D a) {t : Nat} (htt : isT t)  (hk : p_X10_begin a t s l) : ab_C G (d + 1) 0 0 M_X10_begin 0 (ab_ent [.ref a, .ref t]) [] (hp D s l) (rt none (hp D (f_X10_begin a t s l).1 (f_X10_begin a t s l).2)) := by
  generalize he : (f_X10_begin a t s l) = res
  unfold f_X10_begin at he
  unfold p_X10_begin at hk
  refine r_weak (L1 := [some (.ref a), some (.ref t)]) ⟨rfl, rfl, trivial⟩ ?_
  refine r_aload_n rfl rfl ?_
  refine r_iconst_ (a := 0) rfl (by decide) ?_
  refine w_put rfl (cY_0 hya) ff_10_0 ft_10_0 (Nat.le_of_ble_eq_true rfl) rfl ?_
  refine r_aload_n rfl rfl ?_
  refine r_bipush_ (a := 32) rfl (by decide) ?_
  refine r_aload_n rfl rfl ?_
  refine q_getfield rfl (cT_0 htt) rfl ?_
  refine r_mmin rfl (Nat.le_of_ble_eq_true rfl) ?_
  refine w_put rfl (cY_0 hya) ff_10_1 ft_10_1 (Nat.le_of_ble_eq_true rfl) rfl ?_
  refine r_aload_n rfl rfl ?_
  refine r_iconst_ (a := 4) rfl (by decide) ?_
  refine r_aload_n rfl rfl ?_
  refine q_getfield rfl (cT_0 htt) rfl ?_
  refine r_mmin rfl (Nat.le_of_ble_eq_true rfl) ?_
  refine w_put rfl (cY_0 hya) ff_10_2 ft_10_2 (Nat.le_of_ble_eq_true rfl) rfl ?_
  refine r_aload_n rfl rfl ?_
  refine q_getfield rfl (cT_0 htt) rfl ?_
  refine r_iconst_ (a := 0) rfl (by decide) ?_
  refine r_aload_n rfl rfl ?_
  refine q_getfield rfl (cY_0 hya) rfl ?_
  refine r_iconst_ (a := 0) rfl (by decide) ?_
  refine r_bipush_ (a := 32) rfl (by decide) ?_
  refine w_copy rfl (cT_6 htt) (cY_1 hya) (by decide) (by decide) (by decide) (Nat.le_of_ble_eq_true rfl) (Nat.le_of_ble_eq_true rfl) (Nat.le_of_ble_eq_true rfl) ?_
  refine r_aload_n rfl rfl ?_
  refine q_getfield rfl (cT_0 htt) rfl ?_
  refine r_iconst_ (a := 0) rfl (by decide) ?_
  refine r_aload_n rfl rfl ?_
  refine q_getfield rfl (cY_0 hya) rfl ?_
  refine r_iconst_ (a := 0) rfl (by decide) ?_
  refine r_iconst_ (a := 4) rfl (by decide) ?_
  refine w_copy rfl (cT_7 htt) (cY_3 hya) (by decide) (by decide) (by decide) (Nat.le_of_ble_eq_true rfl) (Nat.le_of_ble_eq_true rfl) (Nat.le_of_ble_eq_true rfl) ?_
  refine r_aload_n rfl rfl ?_
  refine q_getfield rfl (cY_0 hya) rfl ?_
  refine r_iconst_ (a := 0) rfl (by decide) ?_
  refine r_callS0 [_, _] _ rfl kY_J7_fill_53178 kT_J7_fill_53178 rfl rfl (Nat.le_of_ble_eq_true rfl) (Nat.le_of_ble_eq_true rfl) (s_fill (cY_2 hya) (by omega)) (fun r h q => ?_)
  obtain ⟨rfl, rfl⟩ := q
  simp only [Option.toList, List.cons_append, List.nil_append]
  refine r_aload_n rfl rfl ?_
  refine q_getfield rfl (cY_0 hya) rfl ?_
  refine r_bipush_ (a := -2) rfl (by decide) ?_
  refine r_callS0 [_, _] _ rfl kY_J7_fill_53178 kT_J7_fill_53178 rfl rfl (Nat.le_of_ble_eq_true rfl) (Nat.le_of_ble_eq_true rfl) (s_fill (cY_4 hya) (by omega)) (fun r h q => ?_)
  obtain ⟨rfl, rfl⟩ := q
  simp only [Option.toList, List.cons_append, List.nil_append]
  refine r_aload_n rfl rfl ?_
  refine q_getfield rfl (cY_0 hya) rfl ?_
  refine r_iconst_ (a := 0) rfl (by decide) ?_
  refine r_callS0 [_, _] _ rfl kY_J7_fill_53178 kT_J7_fill_53178 rfl rfl (Nat.le_of_ble_eq_true rfl) (Nat.le_of_ble_eq_true rfl) (s_fill (cY_5 hya) (by omega)) (fun r h q => ?_)
  obtain ⟨rfl, rfl⟩ := q
  simp only [Option.toList, List.cons_append, List.nil_append]
  refine r_ret rfl rfl ?_
  subst he
  exact ⟨rfl, rfl⟩

def f_X11_richest_30 : Nat → Int32 → Int32 → Int32 → Int32 → fl_I → fl_L → Int32 × fl_I × fl_L
  | 0, x1, x2, x3, x4, s, l => (0, s, l)
  | n + 1, x1, x2, x3, x4, s, l =>
    if ((80 : Int32) ≤ x4) then if (x1 = 0) then (x2, s, l) else if (x2 = (-2 : Int32)) then (x2, s, l) else (x3, s, l) else if ((s 59 x4.toNatClampNeg) ≤ x3) then f_X11_richest_30 n x1 x2 x3 (x4 + 1) s l else f_X11_richest_30 n x1 x4 (s 59 x4.toNatClampNeg) (x4 + 1) s l

def p_X11_richest_30 : Nat → Int32 → Int32 → Int32 → Int32 → fl_I → fl_L → Prop
  | 0, _, _, _, _, _, _ => False
  | n + 1, x1, x2, x3, x4, s, l =>
    ((((80 : Int32) ≤ x4) → (((x1 = 0) → True) ∧ (¬ (x1 = 0) → (((x2 = (-2 : Int32)) → True) ∧ (¬ (x2 = (-2 : Int32)) → True))))) ∧ (¬ ((80 : Int32) ≤ x4) → (vp_in x4 80) ∧ ((((s 59 x4.toNatClampNeg) ≤ x3) → p_X11_richest_30 n x1 x2 x3 (x4 + 1) s l) ∧ (¬ ((s 59 x4.toNatClampNeg) ≤ x3) → (vp_in x4 80) ∧ p_X11_richest_30 n x1 x4 (s 59 x4.toNatClampNeg) (x4 + 1) s l))))

set_option maxRecDepth 100000 in
set_option maxHeartbeats 4000000 in
theorem lp_X11_richest_30 {G : ab_G} {d : Nat} {D : fl_D} : ∀ (n : Nat) (x1 : Int32) (x2 : Int32) (x3 : Int32) (x4 : Int32) (s : fl_I) (l : fl_L), p_X11_richest_30 n x1 x2 x3 x4 s l → ab_C G (d + 2) 0 0 M_X11_richest 30 [some (.ref 0), some (.int x1), some (.int x2), some (.int x3), some (.int x4)] [] (hp D s l) (rt (some (.int (f_X11_richest_30 n x1 x2 x3 x4 s l).1)) (hp D (f_X11_richest_30 n x1 x2 x3 x4 s l).2.1 (f_X11_richest_30 n x1 x2 x3 x4 s l).2.2)) := by
  intro n
  induction n with
  | zero => intro x1 x2 x3 x4 s l hk; exact hk.elim
  | succ n ih =>
    intro x1 x2 x3 x4 s l hk
    generalize he : f_X11_richest_30 (n + 1) x1 x2 x3 x4 s l = res
    unfold f_X11_richest_30 at he
    unfold p_X11_richest_30 at hk
    refine r_iload rfl rfl ?_
    refine r_bipush_ (a := 80) rfl (by decide) ?_
    refine r_icmp_ge rfl (fun c_34 => ?_) (fun c_34 => ?_)
    · rw [if_pos c_34] at he
      replace hk := hk.1 c_34
      refine r_iload_n rfl rfl ?_
      refine r_if_eq rfl (fun c_66 => ?_) (fun c_66 => ?_)
      · rw [if_pos c_66] at he
        replace hk := hk.1 c_66
        refine r_iload_n rfl rfl ?_
        refine r_goto rfl ?_
        refine r_iret rfl rfl rfl ?_
        subst he
        exact ⟨rfl, rfl⟩
      · rw [if_neg c_66] at he
        replace hk := hk.2 c_66
        refine r_iload_n rfl rfl ?_
        refine r_bipush_ (a := -2) rfl (by decide) ?_
        refine r_icmp_ne rfl (fun c_72 => ?_) (fun c_72 => ?_)
        · rw [if_neg c_72] at he
          replace hk := hk.2 c_72
          refine r_iload_n rfl rfl ?_
          refine r_iret rfl rfl rfl ?_
          subst he
          exact ⟨rfl, rfl⟩
        · rw [if_pos c_72] at he
          replace hk := hk.1 c_72
          refine r_iload_n rfl rfl ?_
          refine r_goto rfl ?_
          refine r_iret rfl rfl rfl ?_
          subst he
          exact ⟨rfl, rfl⟩
    · rw [if_neg c_34] at he
      replace hk := hk.2 c_34
      refine r_aload_n rfl rfl ?_
      refine q_getfield rfl (cc_0 _) rfl ?_
      refine r_iload rfl rfl ?_
      obtain ⟨hb1, hk⟩ := hk
      refine q_iald rfl (cc_59 _) hb1 ?_
      refine r_iload_n rfl rfl ?_
      refine r_icmp_le rfl (fun c_45 => ?_) (fun c_45 => ?_)
      · rw [if_pos c_45] at he
        replace hk := hk.1 c_45
        refine r_iinc (b := x4 + 1) rfl rfl rfl (Nat.le_of_ble_eq_true rfl) rfl ?_
        refine r_goto rfl ?_
        subst he
        exact r_weak (L1 := [some (.ref 0), some (.int x1), some (.int x2), some (.int x3), some (.int (x4 + 1))]) ⟨rfl, rfl, rfl, rfl, rfl, trivial⟩ (ih _ _ _ _ _ _ hk)
      · rw [if_neg c_45] at he
        replace hk := hk.2 c_45
        refine r_aload_n rfl rfl ?_
        refine q_getfield rfl (cc_0 _) rfl ?_
        refine r_iload rfl rfl ?_
        obtain ⟨hb2, hk⟩ := hk
        refine q_iald rfl (cc_59 _) hb2 ?_
        refine r_istore_n rfl (Nat.le_of_ble_eq_true rfl) rfl ?_
        refine r_iload rfl rfl ?_
        refine r_istore_n rfl (Nat.le_of_ble_eq_true rfl) rfl ?_
        refine r_iinc (b := x4 + 1) rfl rfl rfl (Nat.le_of_ble_eq_true rfl) rfl ?_
        refine r_goto rfl ?_
        subst he
        exact r_weak (L1 := [some (.ref 0), some (.int x1), some (.int x4), some (.int (s 59 x4.toNatClampNeg)), some (.int (x4 + 1))]) ⟨rfl, rfl, rfl, rfl, rfl, trivial⟩ (ih _ _ _ _ _ _ hk)

def f_X11_richest (v0 : Int32) (s : fl_I) (l : fl_L) : Int32 × fl_I × fl_L :=
  if (v0 < 0) then ((-1 : Int32), s, l) else if (v0 ≤ (1 : Int32)) then f_X11_richest_30 fu v0 (-2 : Int32) (0 : Int32) (0 : Int32) (f_X10_countAll 31 59 s l).1 (f_X10_countAll 31 59 s l).2 else ((-1 : Int32), s, l)

def p_X11_richest (v0 : Int32) (s : fl_I) (l : fl_L) : Prop :=
  (((v0 < 0) → True) ∧ (¬ (v0 < 0) → (((v0 ≤ (1 : Int32)) → (p_X10_countAll 31 59 s l) ∧ p_X11_richest_30 fu v0 (-2 : Int32) (0 : Int32) (0 : Int32) (f_X10_countAll 31 59 s l).1 (f_X10_countAll 31 59 s l).2) ∧ (¬ (v0 ≤ (1 : Int32)) → True))))

set_option maxRecDepth 100000 in
set_option maxHeartbeats 4000000 in
theorem s_X11_richest {G : ab_G} {d : Nat} {D : fl_D} {s : fl_I} {l : fl_L} {v0 : Int32} (hk : p_X11_richest v0 s l) : ab_C G (d + 2) 0 0 M_X11_richest 0 (ab_ent [.ref 0, .int v0]) [] (hp D s l) (rt (some (.int (f_X11_richest v0 s l).1)) (hp D (f_X11_richest v0 s l).2.1 (f_X11_richest v0 s l).2.2)) := by
  generalize he : (f_X11_richest v0 s l) = res
  unfold f_X11_richest at he
  unfold p_X11_richest at hk
  refine r_weak (L1 := [some (.ref 0), some (.int v0), none, none, none]) ⟨rfl, rfl, trivial⟩ ?_
  refine r_iload_n rfl rfl ?_
  refine r_if_lt rfl (fun c_1 => ?_) (fun c_1 => ?_)
  · rw [if_pos c_1] at he
    replace hk := hk.1 c_1
    refine r_iconst_ (a := -1) rfl (by decide) ?_
    refine r_iret rfl rfl rfl ?_
    subst he
    exact ⟨rfl, rfl⟩
  · rw [if_neg c_1] at he
    replace hk := hk.2 c_1
    refine r_iload_n rfl rfl ?_
    refine r_iconst_ (a := 1) rfl (by decide) ?_
    refine r_icmp_le rfl (fun c_6 => ?_) (fun c_6 => ?_)
    · rw [if_pos c_6] at he
      replace hk := hk.1 c_6
      refine r_aload_n rfl rfl ?_
      refine q_getfield rfl (cc_0 _) rfl ?_
      refine r_aload_n rfl rfl ?_
      refine q_getfield rfl (cc_0 _) rfl ?_
      obtain ⟨hb0, hk⟩ := hk
      refine q_callV0 [_] _ rfl kY_X10_countAll kT_X10_countAll rfl rfl (Nat.le_of_ble_eq_true rfl) (Nat.le_of_ble_eq_true rfl) (cc_31 _) (s_X10_countAll (Or.inl rfl) (cc_59 _) hb0) (fun r h q => ?_)
      obtain ⟨rfl, rfl⟩ := q
      simp only [Option.toList, List.cons_append, List.nil_append]
      refine r_bipush_ (a := -2) rfl (by decide) ?_
      refine r_istore_n rfl (Nat.le_of_ble_eq_true rfl) rfl ?_
      refine r_iconst_ (a := 0) rfl (by decide) ?_
      refine r_istore_n rfl (Nat.le_of_ble_eq_true rfl) rfl ?_
      refine r_iconst_ (a := 0) rfl (by decide) ?_
      refine r_istore rfl (Nat.le_of_ble_eq_true rfl) rfl ?_
      subst he
      exact r_weak (L1 := [some (.ref 0), some (.int v0), some (.int (-2 : Int32)), some (.int (0 : Int32)), some (.int (0 : Int32))]) ⟨rfl, rfl, rfl, rfl, rfl, trivial⟩ (lp_X11_richest_30 fu _ _ _ _ _ _ hk)
    · rw [if_neg c_6] at he
      replace hk := hk.2 c_6
      refine r_iconst_ (a := -1) rfl (by decide) ?_
      refine r_iret rfl rfl rfl ?_
      subst he
      exact ⟨rfl, rfl⟩

def f_X12_closest_23 : Nat → Int32 → Int32 → Int32 → Int32 → Int32 → fl_I → fl_L → Int32 × fl_I × fl_L
  | 0, x1, x2, x3, x4, x5, s, l => (0, s, l)
  | n + 1, x1, x2, x3, x4, x5, s, l =>
    if ((s 74 (s 60 18).toNatClampNeg) ≤ x5) then (x3, s, l) else if (x3 < 0) then f_X12_closest_23 n x1 x2 x5 (f_X12_stepsOff (f_X12_cellOfPicker x5 s l) (((10 : Int32) * x2) + x1)) (x5 + 1) s l else if ((f_X12_stepsOff (f_X12_cellOfPicker x5 s l) (((10 : Int32) * x2) + x1)) < x4) then f_X12_closest_23 n x1 x2 x5 (f_X12_stepsOff (f_X12_cellOfPicker x5 s l) (((10 : Int32) * x2) + x1)) (x5 + 1) s l else f_X12_closest_23 n x1 x2 x3 x4 (x5 + 1) s l

def p_X12_closest_23 : Nat → Int32 → Int32 → Int32 → Int32 → Int32 → fl_I → fl_L → Prop
  | 0, _, _, _, _, _, _, _ => False
  | n + 1, x1, x2, x3, x4, x5, s, l =>
    (vp_in (s 60 18) 2) ∧ ((((s 74 (s 60 18).toNatClampNeg) ≤ x5) → True) ∧ (¬ ((s 74 (s 60 18).toNatClampNeg) ≤ x5) → (p_X12_cellOfPicker x5 s l) ∧ (p_X12_stepsOff (f_X12_cellOfPicker x5 s l) (((10 : Int32) * x2) + x1)) ∧ (((x3 < 0) → p_X12_closest_23 n x1 x2 x5 (f_X12_stepsOff (f_X12_cellOfPicker x5 s l) (((10 : Int32) * x2) + x1)) (x5 + 1) s l) ∧ (¬ (x3 < 0) → ((((f_X12_stepsOff (f_X12_cellOfPicker x5 s l) (((10 : Int32) * x2) + x1)) < x4) → p_X12_closest_23 n x1 x2 x5 (f_X12_stepsOff (f_X12_cellOfPicker x5 s l) (((10 : Int32) * x2) + x1)) (x5 + 1) s l) ∧ (¬ ((f_X12_stepsOff (f_X12_cellOfPicker x5 s l) (((10 : Int32) * x2) + x1)) < x4) → p_X12_closest_23 n x1 x2 x3 x4 (x5 + 1) s l))))))

set_option maxRecDepth 100000 in
set_option maxHeartbeats 4000000 in
theorem lp_X12_closest_23 {G : ab_G} {d : Nat} {D : fl_D} : ∀ (n : Nat) (x1 : Int32) (x2 : Int32) (x3 : Int32) (x4 : Int32) (x5 : Int32) (s : fl_I) (l : fl_L), p_X12_closest_23 n x1 x2 x3 x4 x5 s l → ab_C G (d + 2) 0 0 M_X12_closest 23 [some (.ref 60), some (.int x1), some (.int x2), some (.int x3), some (.int x4), some (.int x5), none] [] (hp D s l) (rt (some (.int (f_X12_closest_23 n x1 x2 x3 x4 x5 s l).1)) (hp D (f_X12_closest_23 n x1 x2 x3 x4 x5 s l).2.1 (f_X12_closest_23 n x1 x2 x3 x4 x5 s l).2.2)) := by
  intro n
  induction n with
  | zero => intro x1 x2 x3 x4 x5 s l hk; exact hk.elim
  | succ n ih =>
    intro x1 x2 x3 x4 x5 s l hk
    generalize he : f_X12_closest_23 (n + 1) x1 x2 x3 x4 x5 s l = res
    unfold f_X12_closest_23 at he
    unfold p_X12_closest_23 at hk
    refine r_iload rfl rfl ?_
    refine r_aload_n rfl rfl ?_
    refine q_getfield rfl (cc_60 _) rfl ?_
    refine r_aload_n rfl rfl ?_
    refine q_getfield rfl (cc_60 _) rfl ?_
    obtain ⟨hb2, hk⟩ := hk
    refine q_iald rfl (cc_74 _) hb2 ?_
    refine r_icmp_ge rfl (fun c_34 => ?_) (fun c_34 => ?_)
    · rw [if_pos c_34] at he
      replace hk := hk.1 c_34
      refine r_iload_n rfl rfl ?_
      refine r_iret rfl rfl rfl ?_
      subst he
      exact ⟨rfl, rfl⟩
    · rw [if_neg c_34] at he
      replace hk := hk.2 c_34
      refine r_aload_n rfl rfl ?_
      refine r_iload rfl rfl ?_
      obtain ⟨hb3, hk⟩ := hk
      refine q_callV0 [_] _ rfl kY_X12_cellOfPicker kT_X12_cellOfPicker rfl rfl (Nat.le_of_ble_eq_true rfl) (Nat.le_of_ble_eq_true rfl) (cc_60 _) (s_X12_cellOfPicker hb3) (fun r h q => ?_)
      obtain ⟨rfl, rfl⟩ := q
      simp only [Option.toList, List.cons_append, List.nil_append]
      refine r_bipush_ (a := 10) rfl (by decide) ?_
      refine r_iload_n rfl rfl ?_
      refine r_imul rfl ?_
      refine r_iload_n rfl rfl ?_
      refine r_iadd rfl ?_
      obtain ⟨hb4, hk⟩ := hk
      refine r_callS0 [_, _] _ rfl kY_X12_stepsOff kT_X12_stepsOff rfl rfl (Nat.le_of_ble_eq_true rfl) (Nat.le_of_ble_eq_true rfl) (s_X12_stepsOff hb4) (fun r h q => ?_)
      obtain ⟨rfl, rfl⟩ := q
      simp only [Option.toList, List.cons_append, List.nil_append]
      refine r_istore rfl (Nat.le_of_ble_eq_true rfl) rfl ?_
      refine r_iload_n rfl rfl ?_
      refine r_if_lt rfl (fun c_55 => ?_) (fun c_55 => ?_)
      · rw [if_pos c_55] at he
        replace hk := hk.1 c_55
        refine r_iload rfl rfl ?_
        refine r_istore_n rfl (Nat.le_of_ble_eq_true rfl) rfl ?_
        refine r_iload rfl rfl ?_
        refine r_istore rfl (Nat.le_of_ble_eq_true rfl) rfl ?_
        refine r_iinc (b := x5 + 1) rfl rfl rfl (Nat.le_of_ble_eq_true rfl) rfl ?_
        refine r_goto rfl ?_
        subst he
        exact r_weak (L1 := [some (.ref 60), some (.int x1), some (.int x2), some (.int x5), some (.int (f_X12_stepsOff (f_X12_cellOfPicker x5 s l) (((10 : Int32) * x2) + x1))), some (.int (x5 + 1)), none]) ⟨rfl, rfl, rfl, rfl, rfl, rfl, trivial⟩ (ih _ _ _ _ _ _ _ hk)
      · rw [if_neg c_55] at he
        replace hk := hk.2 c_55
        refine r_iload rfl rfl ?_
        refine r_iload rfl rfl ?_
        refine r_icmp_lt rfl (fun c_62 => ?_) (fun c_62 => ?_)
        · rw [if_pos c_62] at he
          replace hk := hk.1 c_62
          refine r_iload rfl rfl ?_
          refine r_istore_n rfl (Nat.le_of_ble_eq_true rfl) rfl ?_
          refine r_iload rfl rfl ?_
          refine r_istore rfl (Nat.le_of_ble_eq_true rfl) rfl ?_
          refine r_iinc (b := x5 + 1) rfl rfl rfl (Nat.le_of_ble_eq_true rfl) rfl ?_
          refine r_goto rfl ?_
          subst he
          exact r_weak (L1 := [some (.ref 60), some (.int x1), some (.int x2), some (.int x5), some (.int (f_X12_stepsOff (f_X12_cellOfPicker x5 s l) (((10 : Int32) * x2) + x1))), some (.int (x5 + 1)), none]) ⟨rfl, rfl, rfl, rfl, rfl, rfl, trivial⟩ (ih _ _ _ _ _ _ _ hk)
        · rw [if_neg c_62] at he
          replace hk := hk.2 c_62
          refine r_goto rfl ?_
          refine r_iinc (b := x5 + 1) rfl rfl rfl (Nat.le_of_ble_eq_true rfl) rfl ?_
          refine r_goto rfl ?_
          subst he
          exact r_weak (L1 := [some (.ref 60), some (.int x1), some (.int x2), some (.int x3), some (.int x4), some (.int (x5 + 1)), none]) ⟨rfl, rfl, rfl, rfl, rfl, rfl, trivial⟩ (ih _ _ _ _ _ _ _ hk)

def f_X12_closest (v0 : Int32) (v1 : Int32) (s : fl_I) (l : fl_L) : Int32 × fl_I × fl_L :=
  if ((f_X12_isCell v0 v1) = 0) then ((-1 : Int32), s, l) else f_X12_closest_23 fu v0 v1 (-2 : Int32) (0 : Int32) (0 : Int32) (f_X12_copies s l).1 (f_X12_copies s l).2

def p_X12_closest (v0 : Int32) (v1 : Int32) (s : fl_I) (l : fl_L) : Prop :=
  (p_X12_isCell v0 v1) ∧ ((((f_X12_isCell v0 v1) = 0) → True) ∧ (¬ ((f_X12_isCell v0 v1) = 0) → (p_X12_copies s l) ∧ p_X12_closest_23 fu v0 v1 (-2 : Int32) (0 : Int32) (0 : Int32) (f_X12_copies s l).1 (f_X12_copies s l).2))

set_option maxRecDepth 100000 in
set_option maxHeartbeats 4000000 in
theorem s_X12_closest {G : ab_G} {d : Nat} {D : fl_D} {s : fl_I} {l : fl_L} {v0 : Int32} {v1 : Int32} (hk : p_X12_closest v0 v1 s l) : ab_C G (d + 2) 0 0 M_X12_closest 0 (ab_ent [.ref 60, .int v0, .int v1]) [] (hp D s l) (rt (some (.int (f_X12_closest v0 v1 s l).1)) (hp D (f_X12_closest v0 v1 s l).2.1 (f_X12_closest v0 v1 s l).2.2)) := by
  generalize he : (f_X12_closest v0 v1 s l) = res
  unfold f_X12_closest at he
  unfold p_X12_closest at hk
  refine r_weak (L1 := [some (.ref 60), some (.int v0), some (.int v1), none, none, none, none]) ⟨rfl, rfl, rfl, trivial⟩ ?_
  refine r_iload_n rfl rfl ?_
  refine r_iload_n rfl rfl ?_
  obtain ⟨hb0, hk⟩ := hk
  refine r_callS0 [_, _] _ rfl kY_X12_isCell kT_X12_isCell rfl rfl (Nat.le_of_ble_eq_true rfl) (Nat.le_of_ble_eq_true rfl) (s_X12_isCell hb0) (fun r h q => ?_)
  obtain ⟨rfl, rfl⟩ := q
  simp only [Option.toList, List.cons_append, List.nil_append]
  refine r_if_ne rfl (fun c_5 => ?_) (fun c_5 => ?_)
  · rw [if_neg c_5] at he
    replace hk := hk.2 c_5
    refine r_aload_n rfl rfl ?_
    obtain ⟨hb1, hk⟩ := hk
    refine q_callV0 [] _ rfl kY_X12_copies kT_X12_copies rfl rfl (Nat.le_of_ble_eq_true rfl) (Nat.le_of_ble_eq_true rfl) (cc_60 _) (s_X12_copies hb1) (fun r h q => ?_)
    obtain ⟨rfl, rfl⟩ := q
    simp only [Option.toList, List.cons_append, List.nil_append]
    refine r_bipush_ (a := -2) rfl (by decide) ?_
    refine r_istore_n rfl (Nat.le_of_ble_eq_true rfl) rfl ?_
    refine r_iconst_ (a := 0) rfl (by decide) ?_
    refine r_istore rfl (Nat.le_of_ble_eq_true rfl) rfl ?_
    refine r_iconst_ (a := 0) rfl (by decide) ?_
    refine r_istore rfl (Nat.le_of_ble_eq_true rfl) rfl ?_
    subst he
    exact r_weak (L1 := [some (.ref 60), some (.int v0), some (.int v1), some (.int (-2 : Int32)), some (.int (0 : Int32)), some (.int (0 : Int32)), none]) ⟨rfl, rfl, rfl, rfl, rfl, rfl, trivial⟩ (lp_X12_closest_23 fu _ _ _ _ _ _ _ hk)
  · rw [if_pos c_5] at he
    replace hk := hk.1 c_5
    refine r_iconst_ (a := -1) rfl (by decide) ?_
    refine r_iret rfl rfl rfl ?_
    subst he
    exact ⟨rfl, rfl⟩

def f_X12_areMade_13 (K2 : Int32 → Int32 → Int32) : Nat → Int32 → Int32 → Int32 → Int32 → fl_I → fl_L → Int32
  | 0, _, _, _, _, _, _ => 0
  | n + 1, x1, x2, x3, x4, s, l =>
    if ((s 72 (s 60 18).toNatClampNeg) ≤ x4) then if (x3 ≤ (s 102 x2.toNatClampNeg)) then K2 x1 (x2 + 1) else (0 : Int32) else if (((x1 >>> (x4 &&& 31)) &&& (1 : Int32)) = (1 : Int32)) then f_X12_areMade_13 K2 n x1 x2 (x3 + (f_X12_timesIn (f_X12_wordAt x4 s l) x2)) (x4 + 1) s l else f_X12_areMade_13 K2 n x1 x2 x3 (x4 + 1) s l

def p_X12_areMade_13 (P2 : Int32 → Int32 → Prop) : Nat → Int32 → Int32 → Int32 → Int32 → fl_I → fl_L → Prop
  | 0, _, _, _, _, _, _ => False
  | n + 1, x1, x2, x3, x4, s, l =>
    (vp_in (s 60 18) 2) ∧ ((((s 72 (s 60 18).toNatClampNeg) ≤ x4) → (vp_in x2 27) ∧ (((x3 ≤ (s 102 x2.toNatClampNeg)) → P2 x1 (x2 + 1)) ∧ (¬ (x3 ≤ (s 102 x2.toNatClampNeg)) → True))) ∧ (¬ ((s 72 (s 60 18).toNatClampNeg) ≤ x4) → (((((x1 >>> (x4 &&& 31)) &&& (1 : Int32)) = (1 : Int32)) → (p_X12_wordAt x4 s l) ∧ (p_X12_timesIn (f_X12_wordAt x4 s l) x2) ∧ p_X12_areMade_13 P2 n x1 x2 (x3 + (f_X12_timesIn (f_X12_wordAt x4 s l) x2)) (x4 + 1) s l) ∧ (¬ (((x1 >>> (x4 &&& 31)) &&& (1 : Int32)) = (1 : Int32)) → p_X12_areMade_13 P2 n x1 x2 x3 (x4 + 1) s l))))

set_option maxRecDepth 100000 in
set_option maxHeartbeats 4000000 in
theorem lp_X12_areMade_13 {G : ab_G} {d : Nat} {D : fl_D} {s : fl_I} {l : fl_L} (K2 : Int32 → Int32 → Int32) (P2 : Int32 → Int32 → Prop) (hK2 : ∀ (x1 : Int32) (x2 : Int32), P2 x1 x2 → ab_C G (d + 1) 0 0 M_X12_areMade 2 [some (.ref 60), some (.int x1), some (.int x2), none, none] [] (hp D s l) (rt (some (.int (K2 x1 x2))) (hp D s l))) : ∀ (n : Nat) (x1 : Int32) (x2 : Int32) (x3 : Int32) (x4 : Int32), p_X12_areMade_13 P2 n x1 x2 x3 x4 s l → ab_C G (d + 1) 0 0 M_X12_areMade 13 [some (.ref 60), some (.int x1), some (.int x2), some (.int x3), some (.int x4)] [] (hp D s l) (rt (some (.int (f_X12_areMade_13 K2 n x1 x2 x3 x4 s l))) (hp D s l)) := by
  intro n
  induction n with
  | zero => intro x1 x2 x3 x4 hk; exact hk.elim
  | succ n ih =>
    intro x1 x2 x3 x4 hk
    generalize he : f_X12_areMade_13 K2 (n + 1) x1 x2 x3 x4 s l = res
    unfold f_X12_areMade_13 at he
    unfold p_X12_areMade_13 at hk
    refine r_iload rfl rfl ?_
    refine r_aload_n rfl rfl ?_
    refine q_getfield rfl (cc_60 _) rfl ?_
    refine r_aload_n rfl rfl ?_
    refine q_getfield rfl (cc_60 _) rfl ?_
    obtain ⟨hb0, hk⟩ := hk
    refine q_iald rfl (cc_72 _) hb0 ?_
    refine r_icmp_ge rfl (fun c_24 => ?_) (fun c_24 => ?_)
    · rw [if_pos c_24] at he
      replace hk := hk.1 c_24
      refine r_iload_n rfl rfl ?_
      refine r_aload_n rfl rfl ?_
      refine q_getfield rfl (cc_60 _) rfl ?_
      refine r_iload_n rfl rfl ?_
      obtain ⟨hb1, hk⟩ := hk
      refine q_iald rfl (cc_102 _) hb1 ?_
      refine r_icmp_le rfl (fun c_63 => ?_) (fun c_63 => ?_)
      · rw [if_pos c_63] at he
        replace hk := hk.1 c_63
        refine r_iinc (b := x2 + 1) rfl rfl rfl (Nat.le_of_ble_eq_true rfl) rfl ?_
        refine r_goto rfl ?_
        subst he
        exact r_weak (L1 := [some (.ref 60), some (.int x1), some (.int (x2 + 1)), none, none]) ⟨rfl, rfl, rfl, trivial⟩ (hK2 _ _ hk)
      · rw [if_neg c_63] at he
        replace hk := hk.2 c_63
        refine r_iconst_ (a := 0) rfl (by decide) ?_
        refine r_iret rfl rfl rfl ?_
        subst he
        exact ⟨rfl, rfl⟩
    · rw [if_neg c_24] at he
      replace hk := hk.2 c_24
      refine r_iload_n rfl rfl ?_
      refine r_iload rfl rfl ?_
      refine r_ishr rfl ?_
      refine r_iconst_ (a := 1) rfl (by decide) ?_
      refine r_iand rfl ?_
      refine r_iconst_ (a := 1) rfl (by decide) ?_
      refine r_icmp_ne rfl (fun c_34 => ?_) (fun c_34 => ?_)
      · rw [if_neg c_34] at he
        replace hk := hk.2 c_34
        refine r_iinc (b := x4 + 1) rfl rfl rfl (Nat.le_of_ble_eq_true rfl) rfl ?_
        refine r_goto rfl ?_
        subst he
        exact r_weak (L1 := [some (.ref 60), some (.int x1), some (.int x2), some (.int x3), some (.int (x4 + 1))]) ⟨rfl, rfl, rfl, rfl, rfl, trivial⟩ (ih _ _ _ _ hk)
      · rw [if_pos c_34] at he
        replace hk := hk.1 c_34
        refine r_iload_n rfl rfl ?_
        refine r_aload_n rfl rfl ?_
        refine r_iload rfl rfl ?_
        obtain ⟨hb2, hk⟩ := hk
        refine q_callV0 [_] _ rfl kY_X12_wordAt kT_X12_wordAt rfl rfl (Nat.le_of_ble_eq_true rfl) (Nat.le_of_ble_eq_true rfl) (cc_60 _) (s_X12_wordAt hb2) (fun r h q => ?_)
        obtain ⟨rfl, rfl⟩ := q
        simp only [Option.toList, List.cons_append, List.nil_append]
        refine r_iload_n rfl rfl ?_
        obtain ⟨hb3, hk⟩ := hk
        refine r_callS0 [_, _] _ rfl kY_X12_timesIn kT_X12_timesIn rfl rfl (Nat.le_of_ble_eq_true rfl) (Nat.le_of_ble_eq_true rfl) (s_X12_timesIn hb3) (fun r h q => ?_)
        obtain ⟨rfl, rfl⟩ := q
        simp only [Option.toList, List.cons_append, List.nil_append]
        refine r_iadd rfl ?_
        refine r_istore_n rfl (Nat.le_of_ble_eq_true rfl) rfl ?_
        refine r_iinc (b := x4 + 1) rfl rfl rfl (Nat.le_of_ble_eq_true rfl) rfl ?_
        refine r_goto rfl ?_
        subst he
        exact r_weak (L1 := [some (.ref 60), some (.int x1), some (.int x2), some (.int (x3 + (f_X12_timesIn (f_X12_wordAt x4 s l) x2))), some (.int (x4 + 1))]) ⟨rfl, rfl, rfl, rfl, rfl, trivial⟩ (ih _ _ _ _ hk)

def f_X12_areMade_2 : Nat → Int32 → Int32 → fl_I → fl_L → Int32
  | 0, _, _, _, _ => 0
  | n + 1, x1, x2, s, l =>
    if ((27 : Int32) ≤ x2) then (1 : Int32) else f_X12_areMade_13 (fun x1 x2 => f_X12_areMade_2 n x1 x2 s l) fu x1 x2 (0 : Int32) (0 : Int32) s l

def p_X12_areMade_2 : Nat → Int32 → Int32 → fl_I → fl_L → Prop
  | 0, _, _, _, _ => False
  | n + 1, x1, x2, s, l =>
    ((((27 : Int32) ≤ x2) → True) ∧ (¬ ((27 : Int32) ≤ x2) → p_X12_areMade_13 (fun x1 x2 => p_X12_areMade_2 n x1 x2 s l) fu x1 x2 (0 : Int32) (0 : Int32) s l))

set_option maxRecDepth 100000 in
set_option maxHeartbeats 4000000 in
theorem lp_X12_areMade_2 {G : ab_G} {d : Nat} {D : fl_D} {s : fl_I} {l : fl_L} : ∀ (n : Nat) (x1 : Int32) (x2 : Int32), p_X12_areMade_2 n x1 x2 s l → ab_C G (d + 1) 0 0 M_X12_areMade 2 [some (.ref 60), some (.int x1), some (.int x2), none, none] [] (hp D s l) (rt (some (.int (f_X12_areMade_2 n x1 x2 s l))) (hp D s l)) := by
  intro n
  induction n with
  | zero => intro x1 x2 hk; exact hk.elim
  | succ n ih =>
    intro x1 x2 hk
    generalize he : f_X12_areMade_2 (n + 1) x1 x2 s l = res
    unfold f_X12_areMade_2 at he
    unfold p_X12_areMade_2 at hk
    refine r_iload_n rfl rfl ?_
    refine r_bipush_ (a := 27) rfl (by decide) ?_
    refine r_icmp_ge rfl (fun c_5 => ?_) (fun c_5 => ?_)
    · rw [if_pos c_5] at he
      replace hk := hk.1 c_5
      refine r_iconst_ (a := 1) rfl (by decide) ?_
      refine r_iret rfl rfl rfl ?_
      subst he
      exact ⟨rfl, rfl⟩
    · rw [if_neg c_5] at he
      replace hk := hk.2 c_5
      refine r_iconst_ (a := 0) rfl (by decide) ?_
      refine r_istore_n rfl (Nat.le_of_ble_eq_true rfl) rfl ?_
      refine r_iconst_ (a := 0) rfl (by decide) ?_
      refine r_istore rfl (Nat.le_of_ble_eq_true rfl) rfl ?_
      subst he
      exact r_weak (L1 := [some (.ref 60), some (.int x1), some (.int x2), some (.int (0 : Int32)), some (.int (0 : Int32))]) ⟨rfl, rfl, rfl, rfl, rfl, trivial⟩ (lp_X12_areMade_13 _ _ (fun _ _ h9 => ih _ _ h9) fu _ _ _ _ hk)

def f_X12_areMade (v0 : Int32) (s : fl_I) (l : fl_L) : Int32 :=
  f_X12_areMade_2 fu v0 (1 : Int32) s l

def p_X12_areMade (v0 : Int32) (s : fl_I) (l : fl_L) : Prop :=
  p_X12_areMade_2 fu v0 (1 : Int32) s l

set_option maxRecDepth 100000 in
set_option maxHeartbeats 4000000 in
theorem s_X12_areMade {G : ab_G} {d : Nat} {D : fl_D} {s : fl_I} {l : fl_L} {v0 : Int32} (hk : p_X12_areMade v0 s l) : ab_C G (d + 1) 0 0 M_X12_areMade 0 (ab_ent [.ref 60, .int v0]) [] (hp D s l) (rt (some (.int (f_X12_areMade v0 s l))) (hp D s l)) := by
  generalize he : (f_X12_areMade v0 s l) = res
  unfold f_X12_areMade at he
  unfold p_X12_areMade at hk
  refine r_weak (L1 := [some (.ref 60), some (.int v0), none, none, none]) ⟨rfl, rfl, trivial⟩ ?_
  refine r_iconst_ (a := 1) rfl (by decide) ?_
  refine r_istore_n rfl (Nat.le_of_ble_eq_true rfl) rfl ?_
  subst he
  exact r_weak (L1 := [some (.ref 60), some (.int v0), some (.int (1 : Int32)), none, none]) ⟨rfl, rfl, rfl, trivial⟩ (lp_X12_areMade_2 fu _ _ hk)

def f_X6_intKind_5 : Nat → Int32 → Int32 → Int32 → fl_I → fl_L → Int32 × fl_I × fl_L
  | 0, x2, x3, x4, s, l => (0, s, l)
  | n + 1, x2, x3, x4, s, l =>
    if ((s 1 1) ≤ (s 4 4)) then if (x3 ≤ (4 : Int32)) then ((3 : Int32), s, (wl l 7 x2.toNatClampNeg x4.toInt64)) else ((1 : Int32), s, (wl l 7 x2.toNatClampNeg x4.toInt64)) else if ((f_X6_isDigit (f_X4_byteAt (s 4 4) s l)) = 0) then if (x3 ≤ (4 : Int32)) then ((3 : Int32), s, (wl l 7 x2.toNatClampNeg x4.toInt64)) else ((1 : Int32), s, (wl l 7 x2.toNatClampNeg x4.toInt64)) else f_X6_intKind_5 n x2 (x3 + 1) (((x4 * (10 : Int32)) + (f_X4_byteAt (s 4 4) s l)) - (48 : Int32)) (wi s 4 4 ((s 4 4) + (1 : Int32))) l

def p_X6_intKind_5 : Nat → Int32 → Int32 → Int32 → fl_I → fl_L → Prop
  | 0, _, _, _, _, _ => False
  | n + 1, x2, x3, x4, s, l =>
    ((((s 1 1) ≤ (s 4 4)) → (vp_in x2 401) ∧ (((x3 ≤ (4 : Int32)) → True) ∧ (¬ (x3 ≤ (4 : Int32)) → True))) ∧ (¬ ((s 1 1) ≤ (s 4 4)) → (p_X4_byteAt (s 4 4) s l) ∧ (p_X6_isDigit (f_X4_byteAt (s 4 4) s l)) ∧ ((((f_X6_isDigit (f_X4_byteAt (s 4 4) s l)) = 0) → (vp_in x2 401) ∧ (((x3 ≤ (4 : Int32)) → True) ∧ (¬ (x3 ≤ (4 : Int32)) → True))) ∧ (¬ ((f_X6_isDigit (f_X4_byteAt (s 4 4) s l)) = 0) → (p_X4_byteAt (s 4 4) s l) ∧ p_X6_intKind_5 n x2 (x3 + 1) (((x4 * (10 : Int32)) + (f_X4_byteAt (s 4 4) s l)) - (48 : Int32)) (wi s 4 4 ((s 4 4) + (1 : Int32))) l))))

set_option maxRecDepth 100000 in
set_option maxHeartbeats 4000000 in
theorem lp_X6_intKind_5 {G : ab_G} {d : Nat} {D : fl_D} : ∀ (n : Nat) (x2 : Int32) (x3 : Int32) (x4 : Int32) (s : fl_I) (l : fl_L), p_X6_intKind_5 n x2 x3 x4 s l → ab_C G (d + 1) 0 0 M_X6_intKind 5 [some (.ref 4), some (.ref 1), some (.int x2), some (.int x3), some (.int x4)] [] (hp D s l) (rt (some (.int (f_X6_intKind_5 n x2 x3 x4 s l).1)) (hp D (f_X6_intKind_5 n x2 x3 x4 s l).2.1 (f_X6_intKind_5 n x2 x3 x4 s l).2.2)) := by
  intro n
  induction n with
  | zero => intro x2 x3 x4 s l hk; exact hk.elim
  | succ n ih =>
    intro x2 x3 x4 s l hk
    generalize he : f_X6_intKind_5 (n + 1) x2 x3 x4 s l = res
    unfold f_X6_intKind_5 at he
    unfold p_X6_intKind_5 at hk
    refine r_aload_n rfl rfl ?_
    refine q_getfield rfl (cc_4 _) rfl ?_
    refine r_aload_n rfl rfl ?_
    refine q_getfield rfl (cc_1 _) rfl ?_
    refine r_icmp_ge rfl (fun c_13 => ?_) (fun c_13 => ?_)
    · rw [if_pos c_13] at he
      replace hk := hk.1 c_13
      refine r_aload_n rfl rfl ?_
      refine q_getfield rfl (cc_4 _) rfl ?_
      refine r_iload_n rfl rfl ?_
      refine r_iload rfl rfl ?_
      refine r_i2l rfl ?_
      obtain ⟨hb0, hk⟩ := hk
      refine w_last rfl (cc_7 _) hb0 ?_
      refine r_iload_n rfl rfl ?_
      refine r_iconst_ (a := 4) rfl (by decide) ?_
      refine r_icmp_le rfl (fun c_76 => ?_) (fun c_76 => ?_)
      · rw [if_pos c_76] at he
        replace hk := hk.1 c_76
        refine r_iconst_ (a := 3) rfl (by decide) ?_
        refine r_iret rfl rfl rfl ?_
        subst he
        exact ⟨rfl, rfl⟩
      · rw [if_neg c_76] at he
        replace hk := hk.2 c_76
        refine r_iconst_ (a := 1) rfl (by decide) ?_
        refine r_goto rfl ?_
        refine r_iret rfl rfl rfl ?_
        subst he
        exact ⟨rfl, rfl⟩
    · rw [if_neg c_13] at he
      replace hk := hk.2 c_13
      refine r_aload_n rfl rfl ?_
      refine r_aload_n rfl rfl ?_
      refine q_getfield rfl (cc_4 _) rfl ?_
      obtain ⟨hb1, hk⟩ := hk
      refine q_callV0 [_] _ rfl kY_X4_byteAt kT_X4_byteAt rfl rfl (Nat.le_of_ble_eq_true rfl) (Nat.le_of_ble_eq_true rfl) (cc_1 _) (s_X4_byteAt hb1) (fun r h q => ?_)
      obtain ⟨rfl, rfl⟩ := q
      simp only [Option.toList, List.cons_append, List.nil_append]
      obtain ⟨hb2, hk⟩ := hk
      refine r_callS0 [_] _ rfl kY_X6_isDigit kT_X6_isDigit rfl rfl (Nat.le_of_ble_eq_true rfl) (Nat.le_of_ble_eq_true rfl) (s_X6_isDigit hb2) (fun r h q => ?_)
      obtain ⟨rfl, rfl⟩ := q
      simp only [Option.toList, List.cons_append, List.nil_append]
      refine r_if_eq rfl (fun c_27 => ?_) (fun c_27 => ?_)
      · rw [if_pos c_27] at he
        replace hk := hk.1 c_27
        refine r_aload_n rfl rfl ?_
        refine q_getfield rfl (cc_4 _) rfl ?_
        refine r_iload_n rfl rfl ?_
        refine r_iload rfl rfl ?_
        refine r_i2l rfl ?_
        obtain ⟨hb3, hk⟩ := hk
        refine w_last rfl (cc_7 _) hb3 ?_
        refine r_iload_n rfl rfl ?_
        refine r_iconst_ (a := 4) rfl (by decide) ?_
        refine r_icmp_le rfl (fun c_76 => ?_) (fun c_76 => ?_)
        · rw [if_pos c_76] at he
          replace hk := hk.1 c_76
          refine r_iconst_ (a := 3) rfl (by decide) ?_
          refine r_iret rfl rfl rfl ?_
          subst he
          exact ⟨rfl, rfl⟩
        · rw [if_neg c_76] at he
          replace hk := hk.2 c_76
          refine r_iconst_ (a := 1) rfl (by decide) ?_
          refine r_goto rfl ?_
          refine r_iret rfl rfl rfl ?_
          subst he
          exact ⟨rfl, rfl⟩
      · rw [if_neg c_27] at he
        replace hk := hk.2 c_27
        refine r_iload rfl rfl ?_
        refine r_bipush_ (a := 10) rfl (by decide) ?_
        refine r_imul rfl ?_
        refine r_aload_n rfl rfl ?_
        refine r_aload_n rfl rfl ?_
        refine q_getfield rfl (cc_4 _) rfl ?_
        obtain ⟨hb4, hk⟩ := hk
        refine q_callV0 [_] _ rfl kY_X4_byteAt kT_X4_byteAt rfl rfl (Nat.le_of_ble_eq_true rfl) (Nat.le_of_ble_eq_true rfl) (cc_1 _) (s_X4_byteAt hb4) (fun r h q => ?_)
        obtain ⟨rfl, rfl⟩ := q
        simp only [Option.toList, List.cons_append, List.nil_append]
        refine r_iadd rfl ?_
        refine r_bipush_ (a := 48) rfl (by decide) ?_
        refine r_isub rfl ?_
        refine r_istore rfl (Nat.le_of_ble_eq_true rfl) rfl ?_
        refine r_iinc (b := x3 + 1) rfl rfl rfl (Nat.le_of_ble_eq_true rfl) rfl ?_
        refine r_aload_n rfl rfl ?_
        refine r_dup rfl rfl ?_
        refine q_getfield rfl (cc_4 _) rfl ?_
        refine r_iconst_ (a := 1) rfl (by decide) ?_
        refine r_iadd rfl ?_
        refine w_put rfl (cc_4 _) ff_6_4 ft_6_4 (Nat.le_of_ble_eq_true rfl) rfl ?_
        refine r_goto rfl ?_
        subst he
        exact r_weak (L1 := [some (.ref 4), some (.ref 1), some (.int x2), some (.int (x3 + 1)), some (.int (((x4 * (10 : Int32)) + (f_X4_byteAt (s 4 4) s l)) - (48 : Int32)))]) ⟨rfl, rfl, rfl, rfl, rfl, trivial⟩ (ih _ _ _ _ _ hk)

def f_X6_intKind (v1 : Int32) (s : fl_I) (l : fl_L) : Int32 × fl_I × fl_L :=
  f_X6_intKind_5 fu v1 (0 : Int32) (0 : Int32) s l

def p_X6_intKind (v1 : Int32) (s : fl_I) (l : fl_L) : Prop :=
  p_X6_intKind_5 fu v1 (0 : Int32) (0 : Int32) s l

set_option maxRecDepth 100000 in
set_option maxHeartbeats 4000000 in
theorem s_X6_intKind {G : ab_G} {d : Nat} {D : fl_D} {s : fl_I} {l : fl_L} {v1 : Int32} (hk : p_X6_intKind v1 s l) : ab_C G (d + 1) 0 0 M_X6_intKind 0 (ab_ent [.ref 4, .ref 1, .int v1]) [] (hp D s l) (rt (some (.int (f_X6_intKind v1 s l).1)) (hp D (f_X6_intKind v1 s l).2.1 (f_X6_intKind v1 s l).2.2)) := by
  generalize he : (f_X6_intKind v1 s l) = res
  unfold f_X6_intKind at he
  unfold p_X6_intKind at hk
  refine r_weak (L1 := [some (.ref 4), some (.ref 1), some (.int v1), none, none]) ⟨rfl, rfl, rfl, trivial⟩ ?_
  refine r_iconst_ (a := 0) rfl (by decide) ?_
  refine r_istore_n rfl (Nat.le_of_ble_eq_true rfl) rfl ?_
  refine r_iconst_ (a := 0) rfl (by decide) ?_
  refine r_istore rfl (Nat.le_of_ble_eq_true rfl) rfl ?_
  subst he
  exact r_weak (L1 := [some (.ref 4), some (.ref 1), some (.int v1), some (.int (0 : Int32)), some (.int (0 : Int32))]) ⟨rfl, rfl, rfl, rfl, rfl, trivial⟩ (lp_X6_intKind_5 fu _ _ _ _ _ hk)

def f_X12_unit (s : fl_I) (l : fl_L) : fl_I × fl_L :=
  if ((f_X12_is (2 : Int32) s l) = 0) then if ((s 60 13) = 0) then if ((s 63 (s 60 11).toNatClampNeg) < (32 : Int32)) then ((f_X12_fail (1 : Int32) s l).1, (f_X12_fail (1 : Int32) s l).2) else if ((40 : Int32) < (s 63 (s 60 11).toNatClampNeg)) then ((f_X12_fail (1 : Int32) s l).1, (f_X12_fail (1 : Int32) s l).2) else ((f_X12_goesOn (f_X12_emit (1 : Int32) ((s 63 (s 60 11).toNatClampNeg) - (32 : Int32)) s l).1 (f_X12_emit (1 : Int32) ((s 63 (s 60 11).toNatClampNeg) - (32 : Int32)) s l).2).1, (f_X12_goesOn (f_X12_emit (1 : Int32) ((s 63 (s 60 11).toNatClampNeg) - (32 : Int32)) s l).1 (f_X12_emit (1 : Int32) ((s 63 (s 60 11).toNatClampNeg) - (32 : Int32)) s l).2).2) else ((f_X12_fail (1 : Int32) s l).1, (f_X12_fail (1 : Int32) s l).2) else ((f_X12_goesOn (f_X12_emit (0 : Int32) (s 65 (s 60 11).toNatClampNeg) s l).1 (f_X12_emit (0 : Int32) (s 65 (s 60 11).toNatClampNeg) s l).2).1, (f_X12_goesOn (f_X12_emit (0 : Int32) (s 65 (s 60 11).toNatClampNeg) s l).1 (f_X12_emit (0 : Int32) (s 65 (s 60 11).toNatClampNeg) s l).2).2)

def p_X12_unit (s : fl_I) (l : fl_L) : Prop :=
  (p_X12_is (2 : Int32) s l) ∧ ((((f_X12_is (2 : Int32) s l) = 0) → ((((s 60 13) = 0) → (vp_in (s 60 11) 403) ∧ ((((s 63 (s 60 11).toNatClampNeg) < (32 : Int32)) → (p_X12_fail (1 : Int32) s l) ∧ True) ∧ (¬ ((s 63 (s 60 11).toNatClampNeg) < (32 : Int32)) → (vp_in (s 60 11) 403) ∧ ((((40 : Int32) < (s 63 (s 60 11).toNatClampNeg)) → (p_X12_fail (1 : Int32) s l) ∧ True) ∧ (¬ ((40 : Int32) < (s 63 (s 60 11).toNatClampNeg)) → (vp_in (s 60 11) 403) ∧ (p_X12_emit (1 : Int32) ((s 63 (s 60 11).toNatClampNeg) - (32 : Int32)) s l) ∧ (p_X12_goesOn (f_X12_emit (1 : Int32) ((s 63 (s 60 11).toNatClampNeg) - (32 : Int32)) s l).1 (f_X12_emit (1 : Int32) ((s 63 (s 60 11).toNatClampNeg) - (32 : Int32)) s l).2) ∧ True))))) ∧ (¬ ((s 60 13) = 0) → (p_X12_fail (1 : Int32) s l) ∧ True))) ∧ (¬ ((f_X12_is (2 : Int32) s l) = 0) → (vp_in (s 60 11) 403) ∧ (p_X12_emit (0 : Int32) (s 65 (s 60 11).toNatClampNeg) s l) ∧ (p_X12_goesOn (f_X12_emit (0 : Int32) (s 65 (s 60 11).toNatClampNeg) s l).1 (f_X12_emit (0 : Int32) (s 65 (s 60 11).toNatClampNeg) s l).2) ∧ True))

set_option maxRecDepth 100000 in
set_option maxHeartbeats 4000000 in
theorem s_X12_unit {G : ab_G} {d : Nat} {D : fl_D} {s : fl_I} {l : fl_L}  (hk : p_X12_unit s l) : ab_C G (d + 2) 0 0 M_X12_unit 0 (ab_ent [.ref 60]) [] (hp D s l) (rt none (hp D (f_X12_unit s l).1 (f_X12_unit s l).2)) := by
  generalize he : (f_X12_unit s l) = res
  unfold f_X12_unit at he
  unfold p_X12_unit at hk
  refine r_weak (L1 := [some (.ref 60)]) ⟨rfl, trivial⟩ ?_
  refine r_aload_n rfl rfl ?_
  refine r_iconst_ (a := 2) rfl (by decide) ?_
  obtain ⟨hb0, hk⟩ := hk
  refine q_callV0 [_] _ rfl kY_X12_is kT_X12_is rfl rfl (Nat.le_of_ble_eq_true rfl) (Nat.le_of_ble_eq_true rfl) (cc_60 _) (s_X12_is hb0) (fun r h q => ?_)
  obtain ⟨rfl, rfl⟩ := q
  simp only [Option.toList, List.cons_append, List.nil_append]
  refine r_if_eq rfl (fun c_5 => ?_) (fun c_5 => ?_)
  · rw [if_pos c_5] at he
    replace hk := hk.1 c_5
    refine r_aload_n rfl rfl ?_
    refine q_getfield rfl (cc_60 _) rfl ?_
    refine r_if_ne rfl (fun c_33 => ?_) (fun c_33 => ?_)
    · rw [if_neg c_33] at he
      replace hk := hk.2 c_33
      refine r_aload_n rfl rfl ?_
      refine r_iconst_ (a := 1) rfl (by decide) ?_
      obtain ⟨hb1, hk⟩ := hk
      refine q_callV0 [_] _ rfl kY_X12_fail kT_X12_fail rfl rfl (Nat.le_of_ble_eq_true rfl) (Nat.le_of_ble_eq_true rfl) (cc_60 _) (s_X12_fail hb1) (fun r h q => ?_)
      obtain ⟨rfl, rfl⟩ := q
      simp only [Option.toList, List.cons_append, List.nil_append]
      refine r_ret rfl rfl ?_
      subst he
      exact ⟨rfl, rfl⟩
    · rw [if_pos c_33] at he
      replace hk := hk.1 c_33
      refine r_aload_n rfl rfl ?_
      refine q_getfield rfl (cc_60 _) rfl ?_
      refine r_aload_n rfl rfl ?_
      refine q_getfield rfl (cc_60 _) rfl ?_
      obtain ⟨hb2, hk⟩ := hk
      refine q_iald rfl (cc_63 _) hb2 ?_
      refine r_bipush_ (a := 32) rfl (by decide) ?_
      refine r_icmp_lt rfl (fun c_47 => ?_) (fun c_47 => ?_)
      · rw [if_pos c_47] at he
        replace hk := hk.1 c_47
        refine r_aload_n rfl rfl ?_
        refine r_iconst_ (a := 1) rfl (by decide) ?_
        obtain ⟨hb3, hk⟩ := hk
        refine q_callV0 [_] _ rfl kY_X12_fail kT_X12_fail rfl rfl (Nat.le_of_ble_eq_true rfl) (Nat.le_of_ble_eq_true rfl) (cc_60 _) (s_X12_fail hb3) (fun r h q => ?_)
        obtain ⟨rfl, rfl⟩ := q
        simp only [Option.toList, List.cons_append, List.nil_append]
        refine r_ret rfl rfl ?_
        subst he
        exact ⟨rfl, rfl⟩
      · rw [if_neg c_47] at he
        replace hk := hk.2 c_47
        refine r_aload_n rfl rfl ?_
        refine q_getfield rfl (cc_60 _) rfl ?_
        refine r_aload_n rfl rfl ?_
        refine q_getfield rfl (cc_60 _) rfl ?_
        obtain ⟨hb4, hk⟩ := hk
        refine q_iald rfl (cc_63 _) hb4 ?_
        refine r_bipush_ (a := 40) rfl (by decide) ?_
        refine r_icmp_gt rfl (fun c_61 => ?_) (fun c_61 => ?_)
        · rw [if_pos c_61] at he
          replace hk := hk.1 c_61
          refine r_aload_n rfl rfl ?_
          refine r_iconst_ (a := 1) rfl (by decide) ?_
          obtain ⟨hb5, hk⟩ := hk
          refine q_callV0 [_] _ rfl kY_X12_fail kT_X12_fail rfl rfl (Nat.le_of_ble_eq_true rfl) (Nat.le_of_ble_eq_true rfl) (cc_60 _) (s_X12_fail hb5) (fun r h q => ?_)
          obtain ⟨rfl, rfl⟩ := q
          simp only [Option.toList, List.cons_append, List.nil_append]
          refine r_ret rfl rfl ?_
          subst he
          exact ⟨rfl, rfl⟩
        · rw [if_neg c_61] at he
          replace hk := hk.2 c_61
          refine r_aload_n rfl rfl ?_
          refine r_iconst_ (a := 1) rfl (by decide) ?_
          refine r_aload_n rfl rfl ?_
          refine q_getfield rfl (cc_60 _) rfl ?_
          refine r_aload_n rfl rfl ?_
          refine q_getfield rfl (cc_60 _) rfl ?_
          obtain ⟨hb6, hk⟩ := hk
          refine q_iald rfl (cc_63 _) hb6 ?_
          refine r_bipush_ (a := 32) rfl (by decide) ?_
          refine r_isub rfl ?_
          obtain ⟨hb7, hk⟩ := hk
          refine q_callV0 [_, _] _ rfl kY_X12_emit kT_X12_emit rfl rfl (Nat.le_of_ble_eq_true rfl) (Nat.le_of_ble_eq_true rfl) (cc_60 _) (s_X12_emit hb7) (fun r h q => ?_)
          obtain ⟨rfl, rfl⟩ := q
          simp only [Option.toList, List.cons_append, List.nil_append]
          refine r_aload_n rfl rfl ?_
          obtain ⟨hb8, hk⟩ := hk
          refine q_callV0 [] _ rfl kY_X12_goesOn kT_X12_goesOn rfl rfl (Nat.le_of_ble_eq_true rfl) (Nat.le_of_ble_eq_true rfl) (cc_60 _) (s_X12_goesOn hb8) (fun r h q => ?_)
          obtain ⟨rfl, rfl⟩ := q
          simp only [Option.toList, List.cons_append, List.nil_append]
          refine r_goto rfl ?_
          refine r_ret rfl rfl ?_
          subst he
          exact ⟨rfl, rfl⟩
  · rw [if_neg c_5] at he
    replace hk := hk.2 c_5
    refine r_aload_n rfl rfl ?_
    refine r_iconst_ (a := 0) rfl (by decide) ?_
    refine r_aload_n rfl rfl ?_
    refine q_getfield rfl (cc_60 _) rfl ?_
    refine r_aload_n rfl rfl ?_
    refine q_getfield rfl (cc_60 _) rfl ?_
    obtain ⟨hb9, hk⟩ := hk
    refine q_iald rfl (cc_65 _) hb9 ?_
    obtain ⟨hb10, hk⟩ := hk
    refine q_callV0 [_, _] _ rfl kY_X12_emit kT_X12_emit rfl rfl (Nat.le_of_ble_eq_true rfl) (Nat.le_of_ble_eq_true rfl) (cc_60 _) (s_X12_emit hb10) (fun r h q => ?_)
    obtain ⟨rfl, rfl⟩ := q
    simp only [Option.toList, List.cons_append, List.nil_append]
    refine r_aload_n rfl rfl ?_
    obtain ⟨hb11, hk⟩ := hk
    refine q_callV0 [] _ rfl kY_X12_goesOn kT_X12_goesOn rfl rfl (Nat.le_of_ble_eq_true rfl) (Nat.le_of_ble_eq_true rfl) (cc_60 _) (s_X12_goesOn hb11) (fun r h q => ?_)
    obtain ⟨rfl, rfl⟩ := q
    simp only [Option.toList, List.cons_append, List.nil_append]
    refine r_goto rfl ?_
    refine r_ret rfl rfl ?_
    subst he
    exact ⟨rfl, rfl⟩

