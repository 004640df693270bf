def f_X12_named_14 (fu : Nat) : Nat → Int32 → Int32 → Int32 → Int32 → Nat → Nat → fl_I → fl_L → Int64 × fl_I × fl_L
  | 0, x2, x3, x4, x5, q, z, s, l => (0, s, l)
  | n + 1, x2, x3, x4, x5, q, z, s, l =>
    if ((x2 + x3) ≤ x5) then ((l 66 x4.toNatClampNeg), s, l) else if ((s 60 13) = 0) then if ((lg_cmp (l q x5.toNatClampNeg) (l 66 x4.toNatClampNeg)) = 0) then f_X12_named_14 fu n x2 x3 x4 (x5 + 1) q z (f_X12_wrong fu (3 : Int32) x4 s l).1 (f_X12_wrong fu (3 : Int32) x4 s l).2 else f_X12_named_14 fu n x2 x3 x4 (x5 + 1) q z s l else ((l 66 x4.toNatClampNeg), s, l)

def p_X12_named_14 (fu : Nat) : Nat → Int32 → Int32 → Int32 → Int32 → Nat → Nat → fl_I → fl_L → Prop
  | 0, _, _, _, _, _, _, _, _ => False
  | n + 1, x2, x3, x4, x5, q, z, s, l =>
    ((((x2 + x3) ≤ x5) → (vp_in x4 403) ∧ True) ∧ (¬ ((x2 + x3) ≤ x5) → ((((s 60 13) = 0) → (vp_in x5 z) ∧ (vp_in x4 403) ∧ ((((lg_cmp (l q x5.toNatClampNeg) (l 66 x4.toNatClampNeg)) = 0) → (p_X12_wrong fu (3 : Int32) x4 s l) ∧ p_X12_named_14 fu n x2 x3 x4 (x5 + 1) q z (f_X12_wrong fu (3 : Int32) x4 s l).1 (f_X12_wrong fu (3 : Int32) x4 s l).2) ∧ (¬ ((lg_cmp (l q x5.toNatClampNeg) (l 66 x4.toNatClampNeg)) = 0) → p_X12_named_14 fu n x2 x3 x4 (x5 + 1) q z s l))) ∧ (¬ ((s 60 13) = 0) → (vp_in x4 403) ∧ True))))

set_option maxRecDepth 100000 in
set_option maxHeartbeats 1000000 in
theorem lp_X12_named_14 {G : ab_G} {fu : Nat} {d : Nat} {D : fl_D} {q z : Nat} (hcq : ∀ f g, cl D q f g = some (.inl (1, z, .inr (.inl g)))) : ∀ (n : Nat) (x2 : Int32) (x3 : Int32) (x4 : Int32) (x5 : Int32) (s : fl_I) (l : fl_L), p_X12_named_14 fu n x2 x3 x4 x5 q z s l → ab_C G (d + 3) 0 0 M_X12_named 14 [some (.ref 60), some (.ref q), some (.int x2), some (.int x3), some (.int x4), some (.int x5)] [] (hp D s l) (rt (some (.long (f_X12_named_14 fu n x2 x3 x4 x5 q z s l).1)) (hp D (f_X12_named_14 fu n x2 x3 x4 x5 q z s l).2.1 (f_X12_named_14 fu n x2 x3 x4 x5 q z s l).2.2)) := by
  intro n
  induction n with
  | zero => intro x2 x3 x4 x5 s l hk; exact hk.elim
  | succ n ih =>
    intro x2 x3 x4 x5 s l hk
    generalize he : f_X12_named_14 fu (n + 1) x2 x3 x4 x5 q z s l = res
    unfold f_X12_named_14 at he
    unfold p_X12_named_14 at hk
    refine r_iload rfl rfl ?_
    refine r_iload_n rfl rfl ?_
    refine r_iload_n rfl rfl ?_
    refine r_iadd rfl ?_
    refine r_icmp_ge rfl (fun c_19 => ?_) (fun c_19 => ?_)
    · rw [if_pos c_19] at he
      replace hk := hk.1 c_19
      refine r_aload_n rfl rfl ?_
      refine q_getfield rfl (cc_60 _) rfl ?_
      refine r_iload rfl rfl ?_
      obtain ⟨hb1, hk⟩ := hk
      refine q_lald rfl (cc_66 _) hb1 ?_
      refine r_lret rfl rfl ?_
      first | with_reducible exact fin_l he | exact fin_l he
    · rw [if_neg c_19] at he
      replace hk := hk.2 c_19
      refine r_aload_n rfl rfl ?_
      refine q_getfield rfl (cc_60 _) rfl ?_
      refine r_if_ne rfl (fun c_26 => ?_) (fun c_26 => ?_)
      · rw [if_neg c_26] at he
        replace hk := hk.2 c_26
        refine r_aload_n rfl rfl ?_
        refine q_getfield rfl (cc_60 _) rfl ?_
        refine r_iload rfl rfl ?_
        obtain ⟨hb2, hk⟩ := hk
        refine q_lald rfl (cc_66 _) hb2 ?_
        refine r_lret rfl rfl ?_
        first | with_reducible exact fin_l he | exact fin_l he
      · rw [if_pos c_26] at he
        replace hk := hk.1 c_26
        refine r_aload_n rfl rfl ?_
        refine r_iload rfl rfl ?_
        obtain ⟨hb3, hk⟩ := hk
        refine q_lald rfl hcq hb3 ?_
        refine r_aload_n rfl rfl ?_
        refine q_getfield rfl (cc_60 _) rfl ?_
        refine r_iload rfl rfl ?_
        obtain ⟨hb4, hk⟩ := hk
        refine q_lald rfl (cc_66 _) hb4 ?_
        refine r_lcmp rfl ?_
        refine r_if_ne rfl (fun c_41 => ?_) (fun c_41 => ?_)
        · rw [if_neg c_41] at he
          replace hk := hk.2 c_41
          refine r_iinc (b := x5 + 1) rfl rfl rfl (Nat.le_of_ble_eq_true rfl) rfl ?_
          refine r_goto rfl ?_
          subst he
          exact r_weak (L1 := [some (.ref 60), some (.ref q), some (.int x2), some (.int x3), some (.int x4), some (.int (x5 + 1))]) ⟨rfl, rfl, rfl, rfl, rfl, rfl, trivial⟩ (ih _ _ _ _ _ _ hk)
        · rw [if_pos c_41] at he
          replace hk := hk.1 c_41
          refine r_aload_n rfl rfl ?_
          refine r_iconst_ (a := 3) rfl (by decide) ?_
          refine r_iload rfl rfl ?_
          obtain ⟨hb5, hk⟩ := hk
          refine q_callV0 [_, _] _ rfl kY_X12_wrong kT_X12_wrong rfl rfl (Nat.le_of_ble_eq_true rfl) (Nat.le_of_ble_eq_true rfl) (cc_60 _) (s_X12_wrong hb5) (fun r h q => ?_)
          obtain ⟨rfl, rfl⟩ := q
          simp only [Option.toList, List.cons_append, List.nil_append]
          refine r_iinc (b := x5 + 1) rfl rfl rfl (Nat.le_of_ble_eq_true rfl) rfl ?_
          refine r_goto rfl ?_
          subst he
          exact r_weak (L1 := [some (.ref 60), some (.ref q), some (.int x2), some (.int x3), some (.int x4), some (.int (x5 + 1))]) ⟨rfl, rfl, rfl, rfl, rfl, rfl, trivial⟩ (ih _ _ _ _ _ _ hk)

def f_X12_named (fu : Nat) (v1 : Int32) (v2 : Int32) (q : Nat) (z : Nat) (s : fl_I) (l : fl_L) : Int64 × fl_I × fl_L :=
  f_X12_named_14 fu fu v1 v2 (s 60 11) v1 q z (f_X12_must fu (1 : Int32) s l).1 (f_X12_must fu (1 : Int32) s l).2

def p_X12_named (fu : Nat) (v1 : Int32) (v2 : Int32) (q : Nat) (z : Nat) (s : fl_I) (l : fl_L) : Prop :=
  (p_X12_must fu (1 : Int32) s l) ∧ p_X12_named_14 fu fu v1 v2 (s 60 11) v1 q z (f_X12_must fu (1 : Int32) s l).1 (f_X12_must fu (1 : Int32) s l).2

set_option maxRecDepth 100000 in
set_option maxHeartbeats 1000000 in
theorem s_X12_named {G : ab_G} {fu : Nat} {d : Nat} {D : fl_D} {s : fl_I} {l : fl_L} {q z : Nat} (hcq : ∀ f g, cl D q f g = some (.inl (1, z, .inr (.inl g)))) {v1 : Int32} {v2 : Int32} (hk : p_X12_named fu v1 v2 q z s l) : ab_C G (d + 3) 0 0 M_X12_named 0 (ab_ent [.ref 60, .ref q, .int v1, .int v2]) [] (hp D s l) (rt (some (.long (f_X12_named fu v1 v2 q z s l).1)) (hp D (f_X12_named fu v1 v2 q z s l).2.1 (f_X12_named fu v1 v2 q z s l).2.2)) := by
  generalize he : (f_X12_named fu v1 v2 q z s l) = res
  unfold f_X12_named at he
  unfold p_X12_named at hk
  refine r_weak (L1 := [some (.ref 60), some (.ref q), some (.int v1), some (.int v2), none, none]) ⟨rfl, rfl, rfl, rfl, trivial⟩ ?_
  refine r_aload_n rfl rfl ?_
  refine q_getfield rfl (cc_60 _) rfl ?_
  refine r_istore rfl (Nat.le_of_ble_eq_true rfl) rfl ?_
  refine r_aload_n rfl rfl ?_
  refine r_iconst_ (a := 1) rfl (by decide) ?_
  obtain ⟨hb0, hk⟩ := hk
  refine q_callV0 [_] _ rfl kY_X12_must kT_X12_must rfl rfl (Nat.le_of_ble_eq_true rfl) (Nat.le_of_ble_eq_true rfl) (cc_60 _) (s_X12_must hb0) (fun r h q => ?_)
  obtain ⟨rfl, rfl⟩ := q
  simp only [Option.toList, List.cons_append, List.nil_append]
  refine r_iload_n rfl rfl ?_
  refine r_istore rfl (Nat.le_of_ble_eq_true rfl) rfl ?_
  subst he
  exact r_weak (L1 := [some (.ref 60), some (.ref q), some (.int v1), some (.int v2), some (.int (s 60 11)), some (.int v1)]) ⟨rfl, rfl, rfl, rfl, rfl, rfl, trivial⟩ (lp_X12_named_14 hcq fu _ _ _ _ _ _ hk)

def f_X8_firstCell_12 (fu : Nat) : Nat → Int32 → Int32 → Int32 → fl_D → fl_I → fl_L → Int32
  | 0, _, _, _, _, _, _ => 0
  | n + 1, x1, x2, x3, D, s, l =>
    if ((s 51 0) ≤ x3) then (-2 : Int32) else if (((f_X11_apart fu x1 (s 52 x3.toNatClampNeg)) + (s D.2.2.2.1 (f_X8_index fu (f_X8_all fu s l) x3).toNatClampNeg)) = x2) then (s 52 x3.toNatClampNeg) else f_X8_firstCell_12 fu n x1 x2 (x3 + 1) D s l

def p_X8_firstCell_12 (fu : Nat) : Nat → Int32 → Int32 → Int32 → fl_D → fl_I → fl_L → Prop
  | 0, _, _, _, _, _, _ => False
  | n + 1, x1, x2, x3, D, s, l =>
    ((((s 51 0) ≤ x3) → True) ∧ (¬ ((s 51 0) ≤ x3) → (vp_in x3 10) ∧ (p_X11_apart fu x1 (s 52 x3.toNatClampNeg)) ∧ (p_X8_all fu s l) ∧ (p_X8_index fu (f_X8_all fu s l) x3) ∧ (vp_in (f_X8_index fu (f_X8_all fu s l) x3) 10240) ∧ (((((f_X11_apart fu x1 (s 52 x3.toNatClampNeg)) + (s D.2.2.2.1 (f_X8_index fu (f_X8_all fu s l) x3).toNatClampNeg)) = x2) → (vp_in x3 10) ∧ True) ∧ (¬ (((f_X11_apart fu x1 (s 52 x3.toNatClampNeg)) + (s D.2.2.2.1 (f_X8_index fu (f_X8_all fu s l) x3).toNatClampNeg)) = x2) → p_X8_firstCell_12 fu n x1 x2 (x3 + 1) D s l))))

set_option maxRecDepth 100000 in
set_option maxHeartbeats 1000000 in
theorem lp_X8_firstCell_12 {G : ab_G} {fu : Nat} {d : Nat} {D : fl_D} {s : fl_I} {l : fl_L} (hfr : ∀ f g, cl D D.2.2.2.1 f g = some (.inl (0, 10240, .inl f))) : ∀ (n : Nat) (x1 : Int32) (x2 : Int32) (x3 : Int32), p_X8_firstCell_12 fu n x1 x2 x3 D s l → ab_C G (d + 2) 0 0 M_X8_firstCell 12 [some (.ref 51), some (.int x1), some (.int x2), some (.int x3)] [] (hp D s l) (rt (some (.int (f_X8_firstCell_12 fu n x1 x2 x3 D s l))) (hp D s l)) := by
  intro n
  induction n with
  | zero => intro x1 x2 x3 hk; exact hk.elim
  | succ n ih =>
    intro x1 x2 x3 hk
    generalize he : f_X8_firstCell_12 fu (n + 1) x1 x2 x3 D s l = res
    unfold f_X8_firstCell_12 at he
    unfold p_X8_firstCell_12 at hk
    refine r_iload_n rfl rfl ?_
    refine r_aload_n rfl rfl ?_
    refine q_getfield rfl (cc_51 _) rfl ?_
    refine r_icmp_ge rfl (fun c_17 => ?_) (fun c_17 => ?_)
    · rw [if_pos c_17] at he
      replace hk := hk.1 c_17
      refine r_bipush_ (a := -2) rfl (by decide) ?_
      refine r_iret rfl rfl rfl ?_
      first | with_reducible exact fin_ri he | exact fin_ri he
    · rw [if_neg c_17] at he
      replace hk := hk.2 c_17
      refine r_iload_n rfl rfl ?_
      refine r_aload_n rfl rfl ?_
      refine q_getfield rfl (cc_51 _) rfl ?_
      refine r_iload_n rfl rfl ?_
      obtain ⟨hb2, hk⟩ := hk
      refine q_iald rfl (cc_52 _) hb2 ?_
      obtain ⟨hb3, hk⟩ := hk
      refine r_callSN0 [_, _] _ rfl kY_X11_apart kT_X11_apart rfl rfl (Nat.le_of_ble_eq_true rfl) (Nat.le_of_ble_eq_true rfl) (s_X11_apart hb3) (fun r h q => ?_)
      obtain ⟨rfl, rfl⟩ := q
      simp only [Option.toList, List.cons_append, List.nil_append]
      refine r_aload_n rfl rfl ?_
      refine q_getfield rfl (cc_51 _) rfl ?_
      refine r_aload_n rfl rfl ?_
      obtain ⟨hb4, hk⟩ := hk
      refine q_callV0 [] _ rfl kY_X8_all kT_X8_all rfl rfl (Nat.le_of_ble_eq_true rfl) (Nat.le_of_ble_eq_true rfl) (cc_51 _) (s_X8_all hb4) (fun r h q => ?_)
      obtain ⟨rfl, rfl⟩ := q
      simp only [Option.toList, List.cons_append, List.nil_append]
      refine r_iload_n rfl rfl ?_
      obtain ⟨hb5, hk⟩ := hk
      refine r_callS0 [_, _] _ rfl kY_X8_index kT_X8_index rfl rfl (Nat.le_of_ble_eq_true rfl) (Nat.le_of_ble_eq_true rfl) (s_X8_index hb5) (fun r h q => ?_)
      obtain ⟨rfl, rfl⟩ := q
      simp only [Option.toList, List.cons_append, List.nil_append]
      obtain ⟨hb6, hk⟩ := hk
      refine q_iald rfl hfr hb6 ?_
      refine r_iadd rfl ?_
      refine r_iload_n rfl rfl ?_
      refine r_icmp_ne rfl (fun c_45 => ?_) (fun c_45 => ?_)
      · rw [if_neg c_45] at he
        replace hk := hk.2 c_45
        refine r_iinc (b := x3 + 1) rfl rfl rfl (Nat.le_of_ble_eq_true rfl) rfl ?_
        refine r_goto rfl ?_
        subst he
        exact r_weak (L1 := [some (.ref 51), some (.int x1), some (.int x2), some (.int (x3 + 1))]) ⟨rfl, rfl, rfl, rfl, trivial⟩ (ih _ _ _ hk)
      · rw [if_pos c_45] at he
        replace hk := hk.1 c_45
        refine r_aload_n rfl rfl ?_
        refine q_getfield rfl (cc_51 _) rfl ?_
        refine r_iload_n rfl rfl ?_
        obtain ⟨hb7, hk⟩ := hk
        refine q_iald rfl (cc_52 _) hb7 ?_
        refine r_iret rfl rfl rfl ?_
        first | with_reducible exact fin_ri he | exact fin_ri he

def f_X8_firstCell (fu : Nat) (v0 : Int32) (D : fl_D) (s : fl_I) (l : fl_L) : Int32 :=
  f_X8_firstCell_12 fu fu v0 (f_X8_fewest fu v0 (f_X8_all fu s l) D s l) (0 : Int32) D s l

def p_X8_firstCell (fu : Nat) (v0 : Int32) (D : fl_D) (s : fl_I) (l : fl_L) : Prop :=
  (p_X8_all fu s l) ∧ (p_X8_fewest fu v0 (f_X8_all fu s l) D s l) ∧ p_X8_firstCell_12 fu fu v0 (f_X8_fewest fu v0 (f_X8_all fu s l) D s l) (0 : Int32) D s l

set_option maxRecDepth 100000 in
set_option maxHeartbeats 1000000 in
theorem s_X8_firstCell {G : ab_G} {fu : Nat} {d : Nat} {D : fl_D} {s : fl_I} {l : fl_L} (hfr : ∀ f g, cl D D.2.2.2.1 f g = some (.inl (0, 10240, .inl f))) {v0 : Int32} (hk : p_X8_firstCell fu v0 D s l) : ab_C G (d + 2) 0 0 M_X8_firstCell 0 (ab_ent [.ref 51, .int v0]) [] (hp D s l) (rt (some (.int (f_X8_firstCell fu v0 D s l))) (hp D s l)) := by
  generalize he : (f_X8_firstCell fu v0 D s l) = res
  unfold f_X8_firstCell at he
  unfold p_X8_firstCell at hk
  refine r_weak (L1 := [some (.ref 51), some (.int v0), none, none]) ⟨rfl, rfl, trivial⟩ ?_
  refine r_aload_n rfl rfl ?_
  refine r_iload_n rfl rfl ?_
  refine r_aload_n rfl rfl ?_
  obtain ⟨hb0, hk⟩ := hk
  refine q_callV0 [] _ rfl kY_X8_all kT_X8_all rfl rfl (Nat.le_of_ble_eq_true rfl) (Nat.le_of_ble_eq_true rfl) (cc_51 _) (s_X8_all hb0) (fun r h q => ?_)
  obtain ⟨rfl, rfl⟩ := q
  simp only [Option.toList, List.cons_append, List.nil_append]
  obtain ⟨hb1, hk⟩ := hk
  refine q_callV0 [_, _] _ rfl kY_X8_fewest kT_X8_fewest rfl rfl (Nat.le_of_ble_eq_true rfl) (Nat.le_of_ble_eq_true rfl) (cc_51 _) (s_X8_fewest hfr hb1) (fun r h q => ?_)
  obtain ⟨rfl, rfl⟩ := q
  simp only [Option.toList, List.cons_append, List.nil_append]
  refine r_istore_n rfl (Nat.le_of_ble_eq_true rfl) rfl ?_
  refine r_iconst_ (a := 0) rfl (by decide) ?_
  refine r_istore_n rfl (Nat.le_of_ble_eq_true rfl) rfl ?_
  subst he
  exact r_weak (L1 := [some (.ref 51), some (.int v0), some (.int (f_X8_fewest fu v0 (f_X8_all fu s l) D s l)), some (.int (0 : Int32))]) ⟨rfl, rfl, rfl, rfl, trivial⟩ (lp_X8_firstCell_12 hfr fu _ _ _ hk)

def f_X12_longest_20 (fu : Nat) : Nat → Int32 → Int32 → fl_I → fl_L → Int32 × fl_I × fl_L
  | 0, x2, x3, s, l => (0, s, l)
  | n + 1, x2, x3, s, l =>
    if ((s 72 (s 60 18).toNatClampNeg) ≤ x3) then (x2, s, l) else if ((f_X12_missingOf fu x3 s l) = 0) then if (x2 < 0) then f_X12_longest_20 fu n x3 (x3 + 1) s l else if ((f_X12_lengthOf fu (f_X12_wordAt fu x3 s l)) ≤ (f_X12_lengthOf fu (f_X12_wordAt fu x2 s l))) then f_X12_longest_20 fu n x2 (x3 + 1) s l else f_X12_longest_20 fu n x3 (x3 + 1) s l else f_X12_longest_20 fu n x2 (x3 + 1) s l

def p_X12_longest_20 (fu : Nat) : Nat → Int32 → Int32 → fl_I → fl_L → Prop
  | 0, _, _, _, _ => False
  | n + 1, x2, x3, s, l =>
    (vp_in (s 60 18) 2) ∧ ((((s 72 (s 60 18).toNatClampNeg) ≤ x3) → True) ∧ (¬ ((s 72 (s 60 18).toNatClampNeg) ≤ x3) → (p_X12_missingOf fu x3 s l) ∧ ((((f_X12_missingOf fu x3 s l) = 0) → (((x2 < 0) → p_X12_longest_20 fu n x3 (x3 + 1) s l) ∧ (¬ (x2 < 0) → (p_X12_wordAt fu x3 s l) ∧ (p_X12_lengthOf fu (f_X12_wordAt fu x3 s l)) ∧ (p_X12_wordAt fu x2 s l) ∧ (p_X12_lengthOf fu (f_X12_wordAt fu x2 s l)) ∧ ((((f_X12_lengthOf fu (f_X12_wordAt fu x3 s l)) ≤ (f_X12_lengthOf fu (f_X12_wordAt fu x2 s l))) → p_X12_longest_20 fu n x2 (x3 + 1) s l) ∧ (¬ ((f_X12_lengthOf fu (f_X12_wordAt fu x3 s l)) ≤ (f_X12_lengthOf fu (f_X12_wordAt fu x2 s l))) → p_X12_longest_20 fu n x3 (x3 + 1) s l))))) ∧ (¬ ((f_X12_missingOf fu x3 s l) = 0) → p_X12_longest_20 fu n x2 (x3 + 1) s l))))

set_option maxRecDepth 100000 in
set_option maxHeartbeats 1000000 in
theorem lp_X12_longest_20 {G : ab_G} {fu : Nat} {d : Nat} {D : fl_D} : ∀ (n : Nat) (x2 : Int32) (x3 : Int32) (s : fl_I) (l : fl_L), p_X12_longest_20 fu n x2 x3 s l → ab_C G (d + 3) 0 0 M_X12_longest 20 [some (.ref 60), none, some (.int x2), some (.int x3)] [] (hp D s l) (rt (some (.int (f_X12_longest_20 fu n x2 x3 s l).1)) (hp D (f_X12_longest_20 fu n x2 x3 s l).2.1 (f_X12_longest_20 fu n x2 x3 s l).2.2)) := by
  intro n
  induction n with
  | zero => intro x2 x3 s l hk; exact hk.elim
  | succ n ih =>
    intro x2 x3 s l hk
    generalize he : f_X12_longest_20 fu (n + 1) x2 x3 s l = res
    unfold f_X12_longest_20 at he
    unfold p_X12_longest_20 at hk
    refine r_iload_n rfl rfl ?_
    refine r_aload_n rfl rfl ?_
    refine q_getfield rfl (cc_60 _) rfl ?_
    refine r_aload_n rfl rfl ?_
    refine q_getfield rfl (cc_60 _) rfl ?_
    obtain ⟨hb2, hk⟩ := hk
    refine q_iald rfl (cc_72 _) hb2 ?_
    refine r_icmp_ge rfl (fun c_30 => ?_) (fun c_30 => ?_)
    · rw [if_pos c_30] at he
      replace hk := hk.1 c_30
      refine r_iload_n rfl rfl ?_
      refine r_iret rfl rfl rfl ?_
      first | with_reducible exact fin_i he | exact fin_i he
    · rw [if_neg c_30] at he
      replace hk := hk.2 c_30
      refine r_aload_n rfl rfl ?_
      refine r_iload_n rfl rfl ?_
      obtain ⟨hb3, hk⟩ := hk
      refine q_callV0 [_] _ rfl kY_X12_missingOf kT_X12_missingOf rfl rfl (Nat.le_of_ble_eq_true rfl) (Nat.le_of_ble_eq_true rfl) (cc_60 _) (s_X12_missingOf hb3) (fun r h q => ?_)
      obtain ⟨rfl, rfl⟩ := q
      simp only [Option.toList, List.cons_append, List.nil_append]
      refine r_if_ne rfl (fun c_38 => ?_) (fun c_38 => ?_)
      · rw [if_neg c_38] at he
        replace hk := hk.2 c_38
        refine r_iinc (b := x3 + 1) rfl rfl rfl (Nat.le_of_ble_eq_true rfl) rfl ?_
        refine r_goto rfl ?_
        subst he
        exact r_weak (L1 := [some (.ref 60), none, some (.int x2), some (.int (x3 + 1))]) ⟨rfl, rfl, rfl, trivial⟩ (ih _ _ _ _ hk)
      · rw [if_pos c_38] at he
        replace hk := hk.1 c_38
        refine r_iload_n rfl rfl ?_
        refine r_if_lt rfl (fun c_42 => ?_) (fun c_42 => ?_)
        · rw [if_pos c_42] at he
          replace hk := hk.1 c_42
          refine r_iload_n rfl rfl ?_
          refine r_istore_n rfl (Nat.le_of_ble_eq_true rfl) rfl ?_
          refine r_iinc (b := x3 + 1) rfl rfl rfl (Nat.le_of_ble_eq_true rfl) rfl ?_
          refine r_goto rfl ?_
          subst he
          exact r_weak (L1 := [some (.ref 60), none, some (.int x3), some (.int (x3 + 1))]) ⟨rfl, rfl, rfl, trivial⟩ (ih _ _ _ _ hk)
        · rw [if_neg c_42] at he
          replace hk := hk.2 c_42
          refine r_aload_n rfl rfl ?_
          refine r_iload_n rfl rfl ?_
          obtain ⟨hb4, hk⟩ := hk
          refine q_callV0 [_] _ rfl kY_X12_wordAt kT_X12_wordAt rfl rfl (Nat.le_of_ble_eq_true rfl) (Nat.le_of_ble_eq_true rfl) (cc_60 _) (s_X12_wordAt hb4) (fun r h q => ?_)
          obtain ⟨rfl, rfl⟩ := q
          simp only [Option.toList, List.cons_append, List.nil_append]
          obtain ⟨hb5, hk⟩ := hk
          refine r_callS0 [_] _ rfl kY_X12_lengthOf kT_X12_lengthOf rfl rfl (Nat.le_of_ble_eq_true rfl) (Nat.le_of_ble_eq_true rfl) (s_X12_lengthOf hb5) (fun r h q => ?_)
          obtain ⟨rfl, rfl⟩ := q
          simp only [Option.toList, List.cons_append, List.nil_append]
          refine r_aload_n rfl rfl ?_
          refine r_iload_n rfl rfl ?_
          obtain ⟨hb6, hk⟩ := hk
          refine q_callV0 [_] _ rfl kY_X12_wordAt kT_X12_wordAt rfl rfl (Nat.le_of_ble_eq_true rfl) (Nat.le_of_ble_eq_true rfl) (cc_60 _) (s_X12_wordAt hb6) (fun r h q => ?_)
          obtain ⟨rfl, rfl⟩ := q
          simp only [Option.toList, List.cons_append, List.nil_append]
          obtain ⟨hb7, hk⟩ := hk
          refine r_callS0 [_] _ rfl kY_X12_lengthOf kT_X12_lengthOf rfl rfl (Nat.le_of_ble_eq_true rfl) (Nat.le_of_ble_eq_true rfl) (s_X12_lengthOf hb7) (fun r h q => ?_)
          obtain ⟨rfl, rfl⟩ := q
          simp only [Option.toList, List.cons_append, List.nil_append]
          refine r_icmp_le rfl (fun c_61 => ?_) (fun c_61 => ?_)
          · rw [if_pos c_61] at he
            replace hk := hk.1 c_61
            refine r_iinc (b := x3 + 1) rfl rfl rfl (Nat.le_of_ble_eq_true rfl) rfl ?_
            refine r_goto rfl ?_
            subst he
            exact r_weak (L1 := [some (.ref 60), none, some (.int x2), some (.int (x3 + 1))]) ⟨rfl, rfl, rfl, trivial⟩ (ih _ _ _ _ hk)
          · rw [if_neg c_61] at he
            replace hk := hk.2 c_61
            refine r_iload_n rfl rfl ?_
            refine r_istore_n rfl (Nat.le_of_ble_eq_true rfl) rfl ?_
            refine r_iinc (b := x3 + 1) rfl rfl rfl (Nat.le_of_ble_eq_true rfl) rfl ?_
            refine r_goto rfl ?_
            subst he
            exact r_weak (L1 := [some (.ref 60), none, some (.int x3), some (.int (x3 + 1))]) ⟨rfl, rfl, rfl, trivial⟩ (ih _ _ _ _ hk)

def f_X12_longest (fu : Nat) (v0 : Int32) (s : fl_I) (l : fl_L) : Int32 × fl_I × fl_L :=
  if ((f_X12_isHeap fu v0 s l) = 0) then ((-1 : Int32), s, l) else f_X12_longest_20 fu fu (-2 : Int32) (0 : Int32) (f_X12_fillsHeap fu v0 s l).1 (f_X12_fillsHeap fu v0 s l).2

def p_X12_longest (fu : Nat) (v0 : Int32) (s : fl_I) (l : fl_L) : Prop :=
  (p_X12_isHeap fu v0 s l) ∧ ((((f_X12_isHeap fu v0 s l) = 0) → True) ∧ (¬ ((f_X12_isHeap fu v0 s l) = 0) → (p_X12_fillsHeap fu v0 s l) ∧ p_X12_longest_20 fu fu (-2 : Int32) (0 : Int32) (f_X12_fillsHeap fu v0 s l).1 (f_X12_fillsHeap fu v0 s l).2))

set_option maxRecDepth 100000 in
set_option maxHeartbeats 1000000 in
theorem s_X12_longest {G : ab_G} {fu : Nat} {d : Nat} {D : fl_D} {s : fl_I} {l : fl_L} {v0 : Int32} (hk : p_X12_longest fu v0 s l) : ab_C G (d + 3) 0 0 M_X12_longest 0 (ab_ent [.ref 60, .int v0]) [] (hp D s l) (rt (some (.int (f_X12_longest fu v0 s l).1)) (hp D (f_X12_longest fu v0 s l).2.1 (f_X12_longest fu v0 s l).2.2)) := by
  generalize he : (f_X12_longest fu v0 s l) = res
  unfold f_X12_longest at he
  unfold p_X12_longest at hk
  refine r_weak (L1 := [some (.ref 60), some (.int v0), none, none]) ⟨rfl, rfl, trivial⟩ ?_
  refine r_aload_n rfl rfl ?_
  refine r_iload_n rfl rfl ?_
  obtain ⟨hb0, hk⟩ := hk
  refine q_callV0 [_] _ rfl kY_X12_isHeap kT_X12_isHeap rfl rfl (Nat.le_of_ble_eq_true rfl) (Nat.le_of_ble_eq_true rfl) (cc_60 _) (s_X12_isHeap hb0) (fun r h q => ?_)
  obtain ⟨rfl, rfl⟩ := q
  simp only [Option.toList, List.cons_append, List.nil_append]
  refine r_if_ne rfl (fun c_5 => ?_) (fun c_5 => ?_)
  · rw [if_neg c_5] at he
    replace hk := hk.2 c_5
    refine r_aload_n rfl rfl ?_
    refine r_iload_n rfl rfl ?_
    obtain ⟨hb1, hk⟩ := hk
    refine q_callV0 [_] _ rfl kY_X12_fillsHeap kT_X12_fillsHeap rfl rfl (Nat.le_of_ble_eq_true rfl) (Nat.le_of_ble_eq_true rfl) (cc_60 _) (s_X12_fillsHeap hb1) (fun r h q => ?_)
    obtain ⟨rfl, rfl⟩ := q
    simp only [Option.toList, List.cons_append, List.nil_append]
    refine r_bipush_ (a := -2) rfl (by decide) ?_
    refine r_istore_n rfl (Nat.le_of_ble_eq_true rfl) rfl ?_
    refine r_iconst_ (a := 0) rfl (by decide) ?_
    refine r_istore_n rfl (Nat.le_of_ble_eq_true rfl) rfl ?_
    subst he
    exact r_weak (L1 := [some (.ref 60), none, some (.int (-2 : Int32)), some (.int (0 : Int32))]) ⟨rfl, rfl, rfl, trivial⟩ (lp_X12_longest_20 fu _ _ _ _ hk)
  · rw [if_pos c_5] at he
    replace hk := hk.1 c_5
    refine r_iconst_ (a := -1) rfl (by decide) ?_
    refine r_iret rfl rfl rfl ?_
    first | with_reducible exact fin_i he | exact fin_i he

def f_X12_together_20 (fu : Nat) : Nat → Int32 → Int32 → Int32 → fl_I → fl_L → Int32 × fl_I × fl_L
  | 0, x1, x2, x3, s, l => (0, s, l)
  | n + 1, x1, x2, x3, s, l =>
    if (((1 : Int32) <<< ((s 72 (s 60 18).toNatClampNeg) &&& 31)) ≤ x3) then if (x1 = 0) then ((f_X12_bits fu x2), s, l) else (x2, s, l) else if ((f_X12_bits fu x3) ≤ (f_X12_bits fu x2)) then f_X12_together_20 fu n x1 x2 (x3 + 1) s l else if ((f_X12_areMade fu x3 s l) = 0) then f_X12_together_20 fu n x1 x2 (x3 + 1) s l else f_X12_together_20 fu n x1 x3 (x3 + 1) s l

def p_X12_together_20 (fu : Nat) : Nat → Int32 → Int32 → Int32 → fl_I → fl_L → Prop
  | 0, _, _, _, _, _ => False
  | n + 1, x1, x2, x3, s, l =>
    (vp_in (s 60 18) 2) ∧ (((((1 : Int32) <<< ((s 72 (s 60 18).toNatClampNeg) &&& 31)) ≤ x3) → (((x1 = 0) → (p_X12_bits fu x2) ∧ True) ∧ (¬ (x1 = 0) → True))) ∧ (¬ (((1 : Int32) <<< ((s 72 (s 60 18).toNatClampNeg) &&& 31)) ≤ x3) → (p_X12_bits fu x3) ∧ (p_X12_bits fu x2) ∧ ((((f_X12_bits fu x3) ≤ (f_X12_bits fu x2)) → p_X12_together_20 fu n x1 x2 (x3 + 1) s l) ∧ (¬ ((f_X12_bits fu x3) ≤ (f_X12_bits fu x2)) → (p_X12_areMade fu x3 s l) ∧ ((((f_X12_areMade fu x3 s l) = 0) → p_X12_together_20 fu n x1 x2 (x3 + 1) s l) ∧ (¬ ((f_X12_areMade fu x3 s l) = 0) → p_X12_together_20 fu n x1 x3 (x3 + 1) s l))))))

set_option maxRecDepth 100000 in
set_option maxHeartbeats 1000000 in
theorem lp_X12_together_20 {G : ab_G} {fu : Nat} {d : Nat} {D : fl_D} : ∀ (n : Nat) (x1 : Int32) (x2 : Int32) (x3 : Int32) (s : fl_I) (l : fl_L), p_X12_together_20 fu n x1 x2 x3 s l → ab_C G (d + 2) 0 0 M_X12_together 20 [some (.ref 60), some (.int x1), some (.int x2), some (.int x3)] [] (hp D s l) (rt (some (.int (f_X12_together_20 fu n x1 x2 x3 s l).1)) (hp D (f_X12_together_20 fu n x1 x2 x3 s l).2.1 (f_X12_together_20 fu n x1 x2 x3 s l).2.2)) := by
  intro n
  induction n with
  | zero => intro x1 x2 x3 s l hk; exact hk.elim
  | succ n ih =>
    intro x1 x2 x3 s l hk
    generalize he : f_X12_together_20 fu (n + 1) x1 x2 x3 s l = res
    unfold f_X12_together_20 at he
    unfold p_X12_together_20 at hk
    refine r_iload_n rfl rfl ?_
    refine r_iconst_ (a := 1) rfl (by decide) ?_
    refine r_aload_n rfl rfl ?_
    refine q_getfield rfl (cc_60 _) rfl ?_
    refine r_aload_n rfl rfl ?_
    refine q_getfield rfl (cc_60 _) rfl ?_
    obtain ⟨hb2, hk⟩ := hk
    refine q_iald rfl (cc_72 _) hb2 ?_
    refine r_ishl rfl ?_
    refine r_icmp_ge rfl (fun c_32 => ?_) (fun c_32 => ?_)
    · rw [if_pos c_32] at he
      replace hk := hk.1 c_32
      refine r_iload_n rfl rfl ?_
      refine r_if_ne rfl (fun c_63 => ?_) (fun c_63 => ?_)
      · rw [if_neg c_63] at he
        replace hk := hk.2 c_63
        refine r_iload_n rfl rfl ?_
        refine r_iret rfl rfl rfl ?_
        first | with_reducible exact fin_i he | exact fin_i he
      · rw [if_pos c_63] at he
        replace hk := hk.1 c_63
        refine r_iload_n rfl rfl ?_
        obtain ⟨hb3, hk⟩ := hk
        refine r_callS0 [_] _ rfl kY_X12_bits kT_X12_bits rfl rfl (Nat.le_of_ble_eq_true rfl) (Nat.le_of_ble_eq_true rfl) (s_X12_bits hb3) (fun r h q => ?_)
        obtain ⟨rfl, rfl⟩ := q
        simp only [Option.toList, List.cons_append, List.nil_append]
        refine r_goto rfl ?_
        refine r_iret rfl rfl rfl ?_
        first | with_reducible exact fin_i he | exact fin_i he
    · rw [if_neg c_32] at he
      replace hk := hk.2 c_32
      refine r_iload_n rfl rfl ?_
      obtain ⟨hb4, hk⟩ := hk
      refine r_callS0 [_] _ rfl kY_X12_bits kT_X12_bits rfl rfl (Nat.le_of_ble_eq_true rfl) (Nat.le_of_ble_eq_true rfl) (s_X12_bits hb4) (fun r h q => ?_)
      obtain ⟨rfl, rfl⟩ := q
      simp only [Option.toList, List.cons_append, List.nil_append]
      refine r_iload_n rfl rfl ?_
      obtain ⟨hb5, hk⟩ := hk
      refine r_callS0 [_] _ rfl kY_X12_bits kT_X12_bits rfl rfl (Nat.le_of_ble_eq_true rfl) (Nat.le_of_ble_eq_true rfl) (s_X12_bits hb5) (fun r h q => ?_)
      obtain ⟨rfl, rfl⟩ := q
      simp only [Option.toList, List.cons_append, List.nil_append]
      refine r_icmp_le rfl (fun c_43 => ?_) (fun c_43 => ?_)
      · rw [if_pos c_43] at he
        replace hk := hk.1 c_43
        refine r_iinc (b := x3 + 1) rfl rfl rfl (Nat.le_of_ble_eq_true rfl) rfl ?_
        refine r_goto rfl ?_
        subst he
        exact r_weak (L1 := [some (.ref 60), some (.int x1), some (.int x2), some (.int (x3 + 1))]) ⟨rfl, rfl, rfl, rfl, trivial⟩ (ih _ _ _ _ _ hk)
      · rw [if_neg c_43] at he
        replace hk := hk.2 c_43
        refine r_aload_n rfl rfl ?_
        refine r_iload_n rfl rfl ?_
        obtain ⟨hb6, hk⟩ := hk
        refine q_callV0 [_] _ rfl kY_X12_areMade kT_X12_areMade rfl rfl (Nat.le_of_ble_eq_true rfl) (Nat.le_of_ble_eq_true rfl) (cc_60 _) (s_X12_areMade hb6) (fun r h q => ?_)
        obtain ⟨rfl, rfl⟩ := q
        simp only [Option.toList, List.cons_append, List.nil_append]
        refine r_if_eq rfl (fun c_51 => ?_) (fun c_51 => ?_)
        · rw [if_pos c_51] at he
          replace hk := hk.1 c_51
          refine r_iinc (b := x3 + 1) rfl rfl rfl (Nat.le_of_ble_eq_true rfl) rfl ?_
          refine r_goto rfl ?_
          subst he
          exact r_weak (L1 := [some (.ref 60), some (.int x1), some (.int x2), some (.int (x3 + 1))]) ⟨rfl, rfl, rfl, rfl, trivial⟩ (ih _ _ _ _ _ hk)
        · rw [if_neg c_51] at he
          replace hk := hk.2 c_51
          refine r_iload_n rfl rfl ?_
          refine r_istore_n rfl (Nat.le_of_ble_eq_true rfl) rfl ?_
          refine r_iinc (b := x3 + 1) rfl rfl rfl (Nat.le_of_ble_eq_true rfl) rfl ?_
          refine r_goto rfl ?_
          subst he
          exact r_weak (L1 := [some (.ref 60), some (.int x1), some (.int x3), some (.int (x3 + 1))]) ⟨rfl, rfl, rfl, rfl, trivial⟩ (ih _ _ _ _ _ hk)

def f_X12_together (fu : Nat) (v0 : Int32) (s : fl_I) (l : fl_L) : Int32 × fl_I × fl_L :=
  if ((f_X12_in fu v0 (0 : Int32) (1 : Int32)) = 0) then ((-1 : Int32), s, l) else f_X12_together_20 fu fu v0 (0 : Int32) (1 : Int32) (f_X12_fillsHeap fu (5 : Int32) s l).1 (f_X12_fillsHeap fu (5 : Int32) s l).2

def p_X12_together (fu : Nat) (v0 : Int32) (s : fl_I) (l : fl_L) : Prop :=
  (p_X12_in fu v0 (0 : Int32) (1 : Int32)) ∧ ((((f_X12_in fu v0 (0 : Int32) (1 : Int32)) = 0) → True) ∧ (¬ ((f_X12_in fu v0 (0 : Int32) (1 : Int32)) = 0) → (p_X12_fillsHeap fu (5 : Int32) s l) ∧ p_X12_together_20 fu fu v0 (0 : Int32) (1 : Int32) (f_X12_fillsHeap fu (5 : Int32) s l).1 (f_X12_fillsHeap fu (5 : Int32) s l).2))

set_option maxRecDepth 100000 in
set_option maxHeartbeats 1000000 in
theorem s_X12_together {G : ab_G} {fu : Nat} {d : Nat} {D : fl_D} {s : fl_I} {l : fl_L} {v0 : Int32} (hk : p_X12_together fu v0 s l) : ab_C G (d + 2) 0 0 M_X12_together 0 (ab_ent [.ref 60, .int v0]) [] (hp D s l) (rt (some (.int (f_X12_together fu v0 s l).1)) (hp D (f_X12_together fu v0 s l).2.1 (f_X12_together fu v0 s l).2.2)) := by
  generalize he : (f_X12_together fu v0 s l) = res
  unfold f_X12_together at he
  unfold p_X12_together at hk
  refine r_weak (L1 := [some (.ref 60), some (.int v0), none, none]) ⟨rfl, rfl, trivial⟩ ?_
  refine r_iload_n rfl rfl ?_
  refine r_iconst_ (a := 0) rfl (by decide) ?_
  refine r_iconst_ (a := 1) rfl (by decide) ?_
  obtain ⟨hb0, hk⟩ := hk
  refine r_callS0 [_, _, _] _ rfl kY_X12_in kT_X12_in rfl rfl (Nat.le_of_ble_eq_true rfl) (Nat.le_of_ble_eq_true rfl) (s_X12_in hb0) (fun r h q => ?_)
  obtain ⟨rfl, rfl⟩ := q
  simp only [Option.toList, List.cons_append, List.nil_append]
  refine r_if_ne rfl (fun c_6 => ?_) (fun c_6 => ?_)
  · rw [if_neg c_6] at he
    replace hk := hk.2 c_6
    refine r_aload_n rfl rfl ?_
    refine r_iconst_ (a := 5) rfl (by decide) ?_
    obtain ⟨hb1, hk⟩ := hk
    refine q_callV0 [_] _ rfl kY_X12_fillsHeap kT_X12_fillsHeap rfl rfl (Nat.le_of_ble_eq_true rfl) (Nat.le_of_ble_eq_true rfl) (cc_60 _) (s_X12_fillsHeap hb1) (fun r h q => ?_)
    obtain ⟨rfl, rfl⟩ := q
    simp only [Option.toList, List.cons_append, List.nil_append]
    refine r_iconst_ (a := 0) rfl (by decide) ?_
    refine r_istore_n rfl (Nat.le_of_ble_eq_true rfl) rfl ?_
    refine r_iconst_ (a := 1) rfl (by decide) ?_
    refine r_istore_n rfl (Nat.le_of_ble_eq_true rfl) rfl ?_
    subst he
    exact r_weak (L1 := [some (.ref 60), some (.int v0), some (.int (0 : Int32)), some (.int (1 : Int32))]) ⟨rfl, rfl, rfl, rfl, trivial⟩ (lp_X12_together_20 fu _ _ _ _ _ hk)
  · rw [if_pos c_6] at he
    replace hk := hk.1 c_6
    refine r_iconst_ (a := -1) rfl (by decide) ?_
    refine r_iret rfl rfl rfl ?_
    first | with_reducible exact fin_i he | exact fin_i he

def f_X1_pays (fu : Nat) (v2 : Int32) (v3 : Int32) (t : Nat) (a : Nat) (s : fl_I) (l : fl_L) : Int32 × fl_I × fl_L :=
  ((f_X1_value fu (2 : Int32) t (wi (wi (wi (wi (wi (fl_fill (0 : Int32) 48 9 s l).1 48 (0 : Int32).toNatClampNeg ((fl_fill (0 : Int32) 48 9 s l).1 (t + 4) v3.toNatClampNeg)) 48 (3 : Int32).toNatClampNeg ((wi (fl_fill (0 : Int32) 48 9 s l).1 48 (0 : Int32).toNatClampNeg ((fl_fill (0 : Int32) 48 9 s l).1 (t + 4) v3.toNatClampNeg)) a 0)) 48 (5 : Int32).toNatClampNeg ((wi (wi (fl_fill (0 : Int32) 48 9 s l).1 48 (0 : Int32).toNatClampNeg ((fl_fill (0 : Int32) 48 9 s l).1 (t + 4) v3.toNatClampNeg)) 48 (3 : Int32).toNatClampNeg ((wi (fl_fill (0 : Int32) 48 9 s l).1 48 (0 : Int32).toNatClampNeg ((fl_fill (0 : Int32) 48 9 s l).1 (t + 4) v3.toNatClampNeg)) a 0)) (t + 8) v2.toNatClampNeg)) 48 (6 : Int32).toNatClampNeg ((wi (wi (wi (fl_fill (0 : Int32) 48 9 s l).1 48 (0 : Int32).toNatClampNeg ((fl_fill (0 : Int32) 48 9 s l).1 (t + 4) v3.toNatClampNeg)) 48 (3 : Int32).toNatClampNeg ((wi (fl_fill (0 : Int32) 48 9 s l).1 48 (0 : Int32).toNatClampNeg ((fl_fill (0 : Int32) 48 9 s l).1 (t + 4) v3.toNatClampNeg)) a 0)) 48 (5 : Int32).toNatClampNeg ((wi (wi (fl_fill (0 : Int32) 48 9 s l).1 48 (0 : Int32).toNatClampNeg ((fl_fill (0 : Int32) 48 9 s l).1 (t + 4) v3.toNatClampNeg)) 48 (3 : Int32).toNatClampNeg ((wi (fl_fill (0 : Int32) 48 9 s l).1 48 (0 : Int32).toNatClampNeg ((fl_fill (0 : Int32) 48 9 s l).1 (t + 4) v3.toNatClampNeg)) a 0)) (t + 8) v2.toNatClampNeg)) (a + 5) v2.toNatClampNeg)) 48 (8 : Int32).toNatClampNeg v2) (fl_fill (0 : Int32) 48 9 s l).2).1, (f_X1_value fu (2 : Int32) t (wi (wi (wi (wi (wi (fl_fill (0 : Int32) 48 9 s l).1 48 (0 : Int32).toNatClampNeg ((fl_fill (0 : Int32) 48 9 s l).1 (t + 4) v3.toNatClampNeg)) 48 (3 : Int32).toNatClampNeg ((wi (fl_fill (0 : Int32) 48 9 s l).1 48 (0 : Int32).toNatClampNeg ((fl_fill (0 : Int32) 48 9 s l).1 (t + 4) v3.toNatClampNeg)) a 0)) 48 (5 : Int32).toNatClampNeg ((wi (wi (fl_fill (0 : Int32) 48 9 s l).1 48 (0 : Int32).toNatClampNeg ((fl_fill (0 : Int32) 48 9 s l).1 (t + 4) v3.toNatClampNeg)) 48 (3 : Int32).toNatClampNeg ((wi (fl_fill (0 : Int32) 48 9 s l).1 48 (0 : Int32).toNatClampNeg ((fl_fill (0 : Int32) 48 9 s l).1 (t + 4) v3.toNatClampNeg)) a 0)) (t + 8) v2.toNatClampNeg)) 48 (6 : Int32).toNatClampNeg ((wi (wi (wi (fl_fill (0 : Int32) 48 9 s l).1 48 (0 : Int32).toNatClampNeg ((fl_fill (0 : Int32) 48 9 s l).1 (t + 4) v3.toNatClampNeg)) 48 (3 : Int32).toNatClampNeg ((wi (fl_fill (0 : Int32) 48 9 s l).1 48 (0 : Int32).toNatClampNeg ((fl_fill (0 : Int32) 48 9 s l).1 (t + 4) v3.toNatClampNeg)) a 0)) 48 (5 : Int32).toNatClampNeg ((wi (wi (fl_fill (0 : Int32) 48 9 s l).1 48 (0 : Int32).toNatClampNeg ((fl_fill (0 : Int32) 48 9 s l).1 (t + 4) v3.toNatClampNeg)) 48 (3 : Int32).toNatClampNeg ((wi (fl_fill (0 : Int32) 48 9 s l).1 48 (0 : Int32).toNatClampNeg ((fl_fill (0 : Int32) 48 9 s l).1 (t + 4) v3.toNatClampNeg)) a 0)) (t + 8) v2.toNatClampNeg)) (a + 5) v2.toNatClampNeg)) 48 (8 : Int32).toNatClampNeg v2) (fl_fill (0 : Int32) 48 9 s l).2).2.1, (f_X1_value fu (2 : Int32) t (wi (wi (wi (wi (wi (fl_fill (0 : Int32) 48 9 s l).1 48 (0 : Int32).toNatClampNeg ((fl_fill (0 : Int32) 48 9 s l).1 (t + 4) v3.toNatClampNeg)) 48 (3 : Int32).toNatClampNeg ((wi (fl_fill (0 : Int32) 48 9 s l).1 48 (0 : Int32).toNatClampNeg ((fl_fill (0 : Int32) 48 9 s l).1 (t + 4) v3.toNatClampNeg)) a 0)) 48 (5 : Int32).toNatClampNeg ((wi (wi (fl_fill (0 : Int32) 48 9 s l).1 48 (0 : Int32).toNatClampNeg ((fl_fill (0 : Int32) 48 9 s l).1 (t + 4) v3.toNatClampNeg)) 48 (3 : Int32).toNatClampNeg ((wi (fl_fill (0 : Int32) 48 9 s l).1 48 (0 : Int32).toNatClampNeg ((fl_fill (0 : Int32) 48 9 s l).1 (t + 4) v3.toNatClampNeg)) a 0)) (t + 8) v2.toNatClampNeg)) 48 (6 : Int32).toNatClampNeg ((wi (wi (wi (fl_fill (0 : Int32) 48 9 s l).1 48 (0 : Int32).toNatClampNeg ((fl_fill (0 : Int32) 48 9 s l).1 (t + 4) v3.toNatClampNeg)) 48 (3 : Int32).toNatClampNeg ((wi (fl_fill (0 : Int32) 48 9 s l).1 48 (0 : Int32).toNatClampNeg ((fl_fill (0 : Int32) 48 9 s l).1 (t + 4) v3.toNatClampNeg)) a 0)) 48 (5 : Int32).toNatClampNeg ((wi (wi (fl_fill (0 : Int32) 48 9 s l).1 48 (0 : Int32).toNatClampNeg ((fl_fill (0 : Int32) 48 9 s l).1 (t + 4) v3.toNatClampNeg)) 48 (3 : Int32).toNatClampNeg ((wi (fl_fill (0 : Int32) 48 9 s l).1 48 (0 : Int32).toNatClampNeg ((fl_fill (0 : Int32) 48 9 s l).1 (t + 4) v3.toNatClampNeg)) a 0)) (t + 8) v2.toNatClampNeg)) (a + 5) v2.toNatClampNeg)) 48 (8 : Int32).toNatClampNeg v2) (fl_fill (0 : Int32) 48 9 s l).2).2.2)

def p_X1_pays (fu : Nat) (v2 : Int32) (v3 : Int32) (t : Nat) (a : Nat) (s : fl_I) (l : fl_L) : Prop :=
  (vp_in v3 32) ∧ (vp_in v2 4) ∧ (vp_in v2 4) ∧ (p_X1_value fu (2 : Int32) t (wi (wi (wi (wi (wi (fl_fill (0 : Int32) 48 9 s l).1 48 (0 : Int32).toNatClampNeg ((fl_fill (0 : Int32) 48 9 s l).1 (t + 4) v3.toNatClampNeg)) 48 (3 : Int32).toNatClampNeg ((wi (fl_fill (0 : Int32) 48 9 s l).1 48 (0 : Int32).toNatClampNeg ((fl_fill (0 : Int32) 48 9 s l).1 (t + 4) v3.toNatClampNeg)) a 0)) 48 (5 : Int32).toNatClampNeg ((wi (wi (fl_fill (0 : Int32) 48 9 s l).1 48 (0 : Int32).toNatClampNeg ((fl_fill (0 : Int32) 48 9 s l).1 (t + 4) v3.toNatClampNeg)) 48 (3 : Int32).toNatClampNeg ((wi (fl_fill (0 : Int32) 48 9 s l).1 48 (0 : Int32).toNatClampNeg ((fl_fill (0 : Int32) 48 9 s l).1 (t + 4) v3.toNatClampNeg)) a 0)) (t + 8) v2.toNatClampNeg)) 48 (6 : Int32).toNatClampNeg ((wi (wi (wi (fl_fill (0 : Int32) 48 9 s l).1 48 (0 : Int32).toNatClampNeg ((fl_fill (0 : Int32) 48 9 s l).1 (t + 4) v3.toNatClampNeg)) 48 (3 : Int32).toNatClampNeg ((wi (fl_fill (0 : Int32) 48 9 s l).1 48 (0 : Int32).toNatClampNeg ((fl_fill (0 : Int32) 48 9 s l).1 (t + 4) v3.toNatClampNeg)) a 0)) 48 (5 : Int32).toNatClampNeg ((wi (wi (fl_fill (0 : Int32) 48 9 s l).1 48 (0 : Int32).toNatClampNeg ((fl_fill (0 : Int32) 48 9 s l).1 (t + 4) v3.toNatClampNeg)) 48 (3 : Int32).toNatClampNeg ((wi (fl_fill (0 : Int32) 48 9 s l).1 48 (0 : Int32).toNatClampNeg ((fl_fill (0 : Int32) 48 9 s l).1 (t + 4) v3.toNatClampNeg)) a 0)) (t + 8) v2.toNatClampNeg)) (a + 5) v2.toNatClampNeg)) 48 (8 : Int32).toNatClampNeg v2) (fl_fill (0 : Int32) 48 9 s l).2) ∧ True

set_option maxRecDepth 100000 in
set_option maxHeartbeats 1000000 in
theorem s_X1_pays {G : ab_G} {fu : Nat} {d : Nat} {D : fl_D} {s : fl_I} {l : fl_L} {t : Nat} (htt : isT t) {a : Nat} (hya : isY D a) {v2 : Int32} {v3 : Int32} (hk : p_X1_pays fu v2 v3 t a s l) : ab_C G (d + 2) 0 0 M_X1_pays 0 (ab_ent [.ref 47, .ref t, .ref a, .int v2, .int v3]) [] (hp D s l) (rt (some (.int (f_X1_pays fu v2 v3 t a s l).1)) (hp D (f_X1_pays fu v2 v3 t a s l).2.1 (f_X1_pays fu v2 v3 t a s l).2.2)) := by
  generalize he : (f_X1_pays fu v2 v3 t a s l) = res
  unfold f_X1_pays at he
  unfold p_X1_pays at hk
  refine r_weak (L1 := [some (.ref 47), some (.ref t), some (.ref a), some (.int v2), some (.int v3)]) ⟨rfl, rfl, rfl, rfl, rfl, trivial⟩ ?_
  refine r_aload_n rfl rfl ?_
  refine q_getfield rfl (cc_47 _) rfl ?_
  refine r_iconst_ (a := 0) rfl (by decide) ?_
  refine r_callS0 [_, _] _ rfl kY_J7_fill_53178 kT_J7_fill_53178 rfl rfl (Nat.le_of_ble_eq_true rfl) (Nat.le_of_ble_eq_true rfl) (s_fill (cc_48 _) (by omega)) (fun r h q => ?_)
  obtain ⟨rfl, rfl⟩ := q
  simp only [Option.toList, List.cons_append, List.nil_append]
  refine r_aload_n rfl rfl ?_
  refine q_getfield rfl (cc_47 _) rfl ?_
  refine r_iconst_ (a := 0) rfl (by decide) ?_
  refine r_aload_n rfl rfl ?_
  refine q_getfield rfl (cT_0 htt) rfl ?_
  refine r_iload rfl rfl ?_
  obtain ⟨hb0, hk⟩ := hk
  refine q_iald rfl (cT_4 htt) hb0 ?_
  refine w_iast rfl (cc_48 _) (by unfold vp_in; decide) ?_
  refine r_aload_n rfl rfl ?_
  refine q_getfield rfl (cc_47 _) rfl ?_
  refine r_iconst_ (a := 3) rfl (by decide) ?_
  refine r_aload_n rfl rfl ?_
  refine q_getfield rfl (cY_0 hya) rfl ?_
  refine w_iast rfl (cc_48 _) (by unfold vp_in; decide) ?_
  refine r_aload_n rfl rfl ?_
  refine q_getfield rfl (cc_47 _) rfl ?_
  refine r_iconst_ (a := 5) rfl (by decide) ?_
  refine r_aload_n rfl rfl ?_
  refine q_getfield rfl (cT_0 htt) rfl ?_
  refine r_iload_n rfl rfl ?_
  obtain ⟨hb1, hk⟩ := hk
  refine q_iald rfl (cT_8 htt) hb1 ?_
  refine w_iast rfl (cc_48 _) (by unfold vp_in; decide) ?_
  refine r_aload_n rfl rfl ?_
  refine q_getfield rfl (cc_47 _) rfl ?_
  refine r_bipush_ (a := 6) rfl (by decide) ?_
  refine r_aload_n rfl rfl ?_
  refine q_getfield rfl (cY_0 hya) rfl ?_
  refine r_iload_n rfl rfl ?_
  obtain ⟨hb2, hk⟩ := hk
  refine q_iald rfl (cY_5 hya) hb2 ?_
  refine w_iast rfl (cc_48 _) (by unfold vp_in; decide) ?_
  refine r_aload_n rfl rfl ?_
  refine q_getfield rfl (cc_47 _) rfl ?_
  refine r_bipush_ (a := 8) rfl (by decide) ?_
  refine r_iload_n rfl rfl ?_
  refine w_iast rfl (cc_48 _) (by unfold vp_in; decide) ?_
  refine r_aload_n rfl rfl ?_
  refine r_aload_n rfl rfl ?_
  refine r_iconst_ (a := 2) rfl (by decide) ?_
  obtain ⟨hb3, hk⟩ := hk
  refine q_callV0 [_, _] _ rfl kY_X1_value kT_X1_value rfl rfl (Nat.le_of_ble_eq_true rfl) (Nat.le_of_ble_eq_true rfl) (cc_47 _) (s_X1_value htt hb3) (fun r h q => ?_)
  obtain ⟨rfl, rfl⟩ := q
  simp only [Option.toList, List.cons_append, List.nil_append]
  refine r_iret rfl rfl rfl ?_
  first | with_reducible exact fin_i he | exact fin_i he

