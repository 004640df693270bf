def f_X12_round_17 (fu : Nat) (s : fl_I) (l : fl_L) : Int32 × fl_I × fl_L :=
    ((-1 : Int32), s, l)

def p_X12_round_17 (fu : Nat) (s : fl_I) (l : fl_L) : Prop :=
    True

set_option maxRecDepth 100000 in
set_option maxHeartbeats 1000000 in
theorem lp_X12_round_17 {G : ab_G} {fu : Nat} {d : Nat} {D : fl_D} : ∀ (s : fl_I) (l : fl_L), p_X12_round_17 fu  s l → ab_C G (d + 3) 0 0 M_X12_round 17 [none, none, none, none, none] [] (hp D s l) (rt (some (.int (f_X12_round_17 fu  s l).1)) (hp D (f_X12_round_17 fu  s l).2.1 (f_X12_round_17 fu  s l).2.2)) := by
  intro  s l hk
  generalize he : f_X12_round_17 fu  s l = res
  unfold f_X12_round_17 at he
  unfold p_X12_round_17 at hk
  refine r_iconst_ (a := -1) rfl (by decide) ?_
  refine r_iret rfl rfl rfl ?_
  first | with_reducible exact fin_i he | exact fin_i he

def f_X12_round_64 (fu : Nat) (x2 : Int32) (y0 : Int32) (s : fl_I) (l : fl_L) : Int32 × fl_I × fl_L :=
    if (x2 = 0) then (y0, s, l) else ((s 60 63), s, l)

def p_X12_round_64 (fu : Nat) (x2 : Int32) (y0 : Int32) (s : fl_I) (l : fl_L) : Prop :=
    (((x2 = 0) → True) ∧ (¬ (x2 = 0) → True))

set_option maxRecDepth 100000 in
set_option maxHeartbeats 1000000 in
theorem lp_X12_round_64 {G : ab_G} {fu : Nat} {d : Nat} {D : fl_D} : ∀ (x2 : Int32) (y0 : Int32) (s : fl_I) (l : fl_L), p_X12_round_64 fu x2 y0 s l → ab_C G (d + 3) 0 0 M_X12_round 64 [some (.ref 60), none, some (.int x2), none, none] [.int y0] (hp D s l) (rt (some (.int (f_X12_round_64 fu x2 y0 s l).1)) (hp D (f_X12_round_64 fu x2 y0 s l).2.1 (f_X12_round_64 fu x2 y0 s l).2.2)) := by
  intro x2 y0 s l hk
  generalize he : f_X12_round_64 fu x2 y0 s l = res
  unfold f_X12_round_64 at he
  unfold p_X12_round_64 at hk
  refine r_istore rfl (Nat.le_of_ble_eq_true rfl) rfl ?_
  refine r_iload_n rfl rfl ?_
  refine r_if_ne rfl (fun c_67 => ?_) (fun c_67 => ?_)
  · rw [if_neg c_67] at he
    replace hk := hk.2 c_67
    refine r_aload_n rfl rfl ?_
    refine q_getfield rfl (cc_60 _) rfl ?_
    refine r_iret rfl rfl rfl ?_
    first | with_reducible exact fin_i he | exact fin_i he
  · rw [if_pos c_67] at he
    replace hk := hk.1 c_67
    refine r_iload rfl rfl ?_
    refine r_goto rfl ?_
    refine r_iret rfl rfl rfl ?_
    first | with_reducible exact fin_i he | exact fin_i he

def f_X12_round_51 (fu : Nat) (x2 : Int32) (x3 : Int32) (s : fl_I) (l : fl_L) : Int32 × fl_I × fl_L :=
    f_X12_round_64 fu x2 (f_X12_roundFrom fu x3 (((1 : Int32) <<< ((s 60 60) &&& 31)) - (1 : Int32)) s l).1 (f_X12_roundFrom fu x3 (((1 : Int32) <<< ((s 60 60) &&& 31)) - (1 : Int32)) s l).2.1 (f_X12_roundFrom fu x3 (((1 : Int32) <<< ((s 60 60) &&& 31)) - (1 : Int32)) s l).2.2

def p_X12_round_51 (fu : Nat) (x2 : Int32) (x3 : Int32) (s : fl_I) (l : fl_L) : Prop :=
    (p_X12_roundFrom fu x3 (((1 : Int32) <<< ((s 60 60) &&& 31)) - (1 : Int32)) s l) ∧ p_X12_round_64 fu x2 (f_X12_roundFrom fu x3 (((1 : Int32) <<< ((s 60 60) &&& 31)) - (1 : Int32)) s l).1 (f_X12_roundFrom fu x3 (((1 : Int32) <<< ((s 60 60) &&& 31)) - (1 : Int32)) s l).2.1 (f_X12_roundFrom fu x3 (((1 : Int32) <<< ((s 60 60) &&& 31)) - (1 : Int32)) s l).2.2

set_option maxRecDepth 100000 in
set_option maxHeartbeats 1000000 in
theorem lp_X12_round_51 {G : ab_G} {fu : Nat} {d : Nat} {D : fl_D} : ∀ (x2 : Int32) (x3 : Int32) (s : fl_I) (l : fl_L), p_X12_round_51 fu x2 x3 s l → ab_C G (d + 3) 0 0 M_X12_round 51 [some (.ref 60), none, some (.int x2), some (.int x3), none] [] (hp D s l) (rt (some (.int (f_X12_round_51 fu x2 x3 s l).1)) (hp D (f_X12_round_51 fu x2 x3 s l).2.1 (f_X12_round_51 fu x2 x3 s l).2.2)) := by
  intro x2 x3 s l hk
  generalize he : f_X12_round_51 fu x2 x3 s l = res
  unfold f_X12_round_51 at he
  unfold p_X12_round_51 at hk
  refine r_aload_n rfl rfl ?_
  refine r_iload_n rfl rfl ?_
  refine r_iconst_ (a := 1) rfl (by decide) ?_
  refine r_aload_n rfl rfl ?_
  refine q_getfield rfl (cc_60 _) rfl ?_
  refine r_ishl rfl ?_
  refine r_iconst_ (a := 1) rfl (by decide) ?_
  refine r_isub rfl ?_
  obtain ⟨hb6, hk⟩ := hk
  refine q_callV0 [_, _] _ rfl kY_X12_roundFrom kT_X12_roundFrom rfl rfl (Nat.le_of_ble_eq_true rfl) (Nat.le_of_ble_eq_true rfl) (cc_60 _) (s_X12_roundFrom hb6) (fun r h q => ?_)
  obtain ⟨rfl, rfl⟩ := q
  simp only [Option.toList, List.cons_append, List.nil_append]
  subst he
  exact r_weak (L1 := [some (.ref 60), none, some (.int x2), none, none]) ⟨rfl, rfl, trivial⟩ (lp_X12_round_64 _ _ _ _ hk)

def f_X12_round_35 (fu : Nat) (x2 : Int32) (x3 : Int32) (s : fl_I) (l : fl_L) : Int32 × fl_I × fl_L :=
    if ((s 60 60) ≤ (10 : Int32)) then f_X12_round_51 fu x2 x3 (f_X12_fillsRest fu s l).1 (f_X12_fillsRest fu s l).2 else ((-3 : Int32), s, l)

def p_X12_round_35 (fu : Nat) (x2 : Int32) (x3 : Int32) (s : fl_I) (l : fl_L) : Prop :=
    ((((s 60 60) ≤ (10 : Int32)) → (p_X12_fillsRest fu s l) ∧ p_X12_round_51 fu x2 x3 (f_X12_fillsRest fu s l).1 (f_X12_fillsRest fu s l).2) ∧ (¬ ((s 60 60) ≤ (10 : Int32)) → True))

set_option maxRecDepth 100000 in
set_option maxHeartbeats 1000000 in
theorem lp_X12_round_35 {G : ab_G} {fu : Nat} {d : Nat} {D : fl_D} : ∀ (x2 : Int32) (x3 : Int32) (s : fl_I) (l : fl_L), p_X12_round_35 fu x2 x3 s l → ab_C G (d + 3) 0 0 M_X12_round 35 [some (.ref 60), none, some (.int x2), some (.int x3), none] [] (hp D s l) (rt (some (.int (f_X12_round_35 fu x2 x3 s l).1)) (hp D (f_X12_round_35 fu x2 x3 s l).2.1 (f_X12_round_35 fu x2 x3 s l).2.2)) := by
  intro x2 x3 s l hk
  generalize he : f_X12_round_35 fu x2 x3 s l = res
  unfold f_X12_round_35 at he
  unfold p_X12_round_35 at hk
  refine r_aload_n rfl rfl ?_
  refine q_getfield rfl (cc_60 _) rfl ?_
  refine r_bipush_ (a := 10) rfl (by decide) ?_
  refine r_icmp_le rfl (fun c_41 => ?_) (fun c_41 => ?_)
  · rw [if_pos c_41] at he
    replace hk := hk.1 c_41
    refine r_aload_n rfl rfl ?_
    obtain ⟨hb5, hk⟩ := hk
    refine q_callV0 [] _ rfl kY_X12_fillsRest kT_X12_fillsRest rfl rfl (Nat.le_of_ble_eq_true rfl) (Nat.le_of_ble_eq_true rfl) (cc_60 _) (s_X12_fillsRest hb5) (fun r h q => ?_)
    obtain ⟨rfl, rfl⟩ := q
    simp only [Option.toList, List.cons_append, List.nil_append]
    subst he
    exact r_weak (L1 := [some (.ref 60), none, some (.int x2), some (.int x3), none]) ⟨rfl, rfl, rfl, trivial⟩ (lp_X12_round_51 _ _ _ _ hk)
  · rw [if_neg c_41] at he
    replace hk := hk.2 c_41
    refine r_bipush_ (a := -3) rfl (by decide) ?_
    refine r_iret rfl rfl rfl ?_
    first | with_reducible exact fin_i he | exact fin_i he

def f_X12_round_23 (fu : Nat) (x1 : Int32) (x2 : Int32) (s : fl_I) (l : fl_L) : Int32 × fl_I × fl_L :=
    f_X12_round_35 fu x2 (f_X12_cellOfPicker fu x1 s l) (f_X12_fillsCells fu (f_X12_cellOfPicker fu x1 s l) (f_X12_cellOfPicker fu x1 s l) s l).1 (f_X12_fillsCells fu (f_X12_cellOfPicker fu x1 s l) (f_X12_cellOfPicker fu x1 s l) s l).2

def p_X12_round_23 (fu : Nat) (x1 : Int32) (x2 : Int32) (s : fl_I) (l : fl_L) : Prop :=
    (p_X12_cellOfPicker fu x1 s l) ∧ (p_X12_fillsCells fu (f_X12_cellOfPicker fu x1 s l) (f_X12_cellOfPicker fu x1 s l) s l) ∧ p_X12_round_35 fu x2 (f_X12_cellOfPicker fu x1 s l) (f_X12_fillsCells fu (f_X12_cellOfPicker fu x1 s l) (f_X12_cellOfPicker fu x1 s l) s l).1 (f_X12_fillsCells fu (f_X12_cellOfPicker fu x1 s l) (f_X12_cellOfPicker fu x1 s l) s l).2

set_option maxRecDepth 100000 in
set_option maxHeartbeats 1000000 in
theorem lp_X12_round_23 {G : ab_G} {fu : Nat} {d : Nat} {D : fl_D} : ∀ (x1 : Int32) (x2 : Int32) (s : fl_I) (l : fl_L), p_X12_round_23 fu x1 x2 s l → ab_C G (d + 3) 0 0 M_X12_round 23 [some (.ref 60), some (.int x1), some (.int x2), none, none] [] (hp D s l) (rt (some (.int (f_X12_round_23 fu x1 x2 s l).1)) (hp D (f_X12_round_23 fu x1 x2 s l).2.1 (f_X12_round_23 fu x1 x2 s l).2.2)) := by
  intro x1 x2 s l hk
  generalize he : f_X12_round_23 fu x1 x2 s l = res
  unfold f_X12_round_23 at he
  unfold p_X12_round_23 at hk
  refine r_aload_n rfl rfl ?_
  refine r_iload_n rfl rfl ?_
  obtain ⟨hb3, hk⟩ := hk
  refine q_callV0 [_] _ rfl kY_X12_cellOfPicker kT_X12_cellOfPicker rfl rfl (Nat.le_of_ble_eq_true rfl) (Nat.le_of_ble_eq_true rfl) (cc_60 _) (s_X12_cellOfPicker hb3) (fun r h q => ?_)
  obtain ⟨rfl, rfl⟩ := q
  simp only [Option.toList, List.cons_append, List.nil_append]
  refine r_istore_n rfl (Nat.le_of_ble_eq_true rfl) rfl ?_
  refine r_aload_n rfl rfl ?_
  refine r_iload_n rfl rfl ?_
  refine r_iload_n rfl rfl ?_
  obtain ⟨hb4, hk⟩ := hk
  refine q_callV0 [_, _] _ rfl kY_X12_fillsCells kT_X12_fillsCells rfl rfl (Nat.le_of_ble_eq_true rfl) (Nat.le_of_ble_eq_true rfl) (cc_60 _) (s_X12_fillsCells hb4) (fun r h q => ?_)
  obtain ⟨rfl, rfl⟩ := q
  simp only [Option.toList, List.cons_append, List.nil_append]
  subst he
  exact r_weak (L1 := [some (.ref 60), none, some (.int x2), some (.int (f_X12_cellOfPicker fu x1 s l)), none]) ⟨rfl, rfl, rfl, trivial⟩ (lp_X12_round_35 _ _ _ _ hk)

def f_X12_round (fu : Nat) (v0 : Int32) (v1 : Int32) (s : fl_I) (l : fl_L) : Int32 × fl_I × fl_L :=
  if ((f_X12_isPicker fu v0 s l) = 0) then f_X12_round_17 fu  s l else if ((f_X12_in fu v1 (0 : Int32) (1 : Int32)) = 0) then f_X12_round_17 fu  s l else f_X12_round_23 fu v0 v1 (f_X12_copies fu s l).1 (f_X12_copies fu s l).2

def p_X12_round (fu : Nat) (v0 : Int32) (v1 : Int32) (s : fl_I) (l : fl_L) : Prop :=
  (p_X12_isPicker fu v0 s l) ∧ ((((f_X12_isPicker fu v0 s l) = 0) → p_X12_round_17 fu  s l) ∧ (¬ ((f_X12_isPicker fu v0 s l) = 0) → (p_X12_in fu v1 (0 : Int32) (1 : Int32)) ∧ ((((f_X12_in fu v1 (0 : Int32) (1 : Int32)) = 0) → p_X12_round_17 fu  s l) ∧ (¬ ((f_X12_in fu v1 (0 : Int32) (1 : Int32)) = 0) → (p_X12_copies fu s l) ∧ p_X12_round_23 fu v0 v1 (f_X12_copies fu s l).1 (f_X12_copies fu s l).2))))

set_option maxRecDepth 100000 in
set_option maxHeartbeats 1000000 in
theorem s_X12_round {G : ab_G} {fu : Nat} {d : Nat} {D : fl_D} {s : fl_I} {l : fl_L} {v0 : Int32} {v1 : Int32} (hk : p_X12_round fu v0 v1 s l) : ab_C G (d + 3) 0 0 M_X12_round 0 (ab_ent [.ref 60, .int v0, .int v1]) [] (hp D s l) (rt (some (.int (f_X12_round fu v0 v1 s l).1)) (hp D (f_X12_round fu v0 v1 s l).2.1 (f_X12_round fu v0 v1 s l).2.2)) := by
  generalize he : (f_X12_round fu v0 v1 s l) = res
  unfold f_X12_round at he
  unfold p_X12_round at hk
  refine r_weak (L1 := [some (.ref 60), some (.int v0), some (.int v1), none, none]) ⟨rfl, rfl, rfl, trivial⟩ ?_
  refine r_aload_n rfl rfl ?_
  refine r_iload_n rfl rfl ?_
  obtain ⟨hb0, hk⟩ := hk
  refine q_callV0 [_] _ rfl kY_X12_isPicker kT_X12_isPicker rfl rfl (Nat.le_of_ble_eq_true rfl) (Nat.le_of_ble_eq_true rfl) (cc_60 _) (s_X12_isPicker hb0) (fun r h q => ?_)
  obtain ⟨rfl, rfl⟩ := q
  simp only [Option.toList, List.cons_append, List.nil_append]
  refine r_if_eq rfl (fun c_5 => ?_) (fun c_5 => ?_)
  · rw [if_pos c_5] at he
    replace hk := hk.1 c_5
    subst he
    exact r_weak (L1 := [none, none, none, none, none]) trivial (lp_X12_round_17 _ _ hk)
  · rw [if_neg c_5] at he
    replace hk := hk.2 c_5
    refine r_iload_n rfl rfl ?_
    refine r_iconst_ (a := 0) rfl (by decide) ?_
    refine r_iconst_ (a := 1) rfl (by decide) ?_
    obtain ⟨hb1, hk⟩ := hk
    refine r_callS0 [_, _, _] _ rfl kY_X12_in kT_X12_in rfl rfl (Nat.le_of_ble_eq_true rfl) (Nat.le_of_ble_eq_true rfl) (s_X12_in hb1) (fun r h q => ?_)
    obtain ⟨rfl, rfl⟩ := q
    simp only [Option.toList, List.cons_append, List.nil_append]
    refine r_if_ne rfl (fun c_14 => ?_) (fun c_14 => ?_)
    · rw [if_neg c_14] at he
      replace hk := hk.2 c_14
      refine r_aload_n rfl rfl ?_
      obtain ⟨hb2, hk⟩ := hk
      refine q_callV0 [] _ rfl kY_X12_copies kT_X12_copies rfl rfl (Nat.le_of_ble_eq_true rfl) (Nat.le_of_ble_eq_true rfl) (cc_60 _) (s_X12_copies hb2) (fun r h q => ?_)
      obtain ⟨rfl, rfl⟩ := q
      simp only [Option.toList, List.cons_append, List.nil_append]
      subst he
      exact r_weak (L1 := [some (.ref 60), some (.int v0), some (.int v1), none, none]) ⟨rfl, rfl, rfl, trivial⟩ (lp_X12_round_23 _ _ _ _ hk)
    · rw [if_pos c_14] at he
      replace hk := hk.1 c_14
      subst he
      exact r_weak (L1 := [none, none, none, none, none]) trivial (lp_X12_round_17 _ _ hk)

def f_X12_writtenBits_23 (fu : Nat) (K4 : Int32 → Int32 → Int32 → Int32) : Nat → Int32 → Int32 → Int32 → Int32 → Int32 → fl_I → fl_L → Int32
  | 0, _, _, _, _, _, _, _ => 0
  | n + 1, x1, x2, x3, x4, x5, s, l =>
    if (x1 ≤ x5) then if (x4 = 0) then K4 x1 x2 (x3 + 1) else K4 x1 (x2 ||| ((1 : Int32) <<< (x3 &&& 31))) (x3 + 1) else if ((f_X12_isThere fu x3 (s 103 x5.toNatClampNeg) s l) = (s 104 x5.toNatClampNeg)) then f_X12_writtenBits_23 fu K4 n x1 x2 x3 x4 (x5 + 1) s l else f_X12_writtenBits_23 fu K4 n x1 x2 x3 (0 : Int32) (x5 + 1) s l

def p_X12_writtenBits_23 (fu : Nat) (P4 : Int32 → Int32 → Int32 → Prop) : Nat → Int32 → Int32 → Int32 → Int32 → Int32 → fl_I → fl_L → Prop
  | 0, _, _, _, _, _, _, _ => False
  | n + 1, x1, x2, x3, x4, x5, s, l =>
    (((x1 ≤ x5) → (((x4 = 0) → P4 x1 x2 (x3 + 1)) ∧ (¬ (x4 = 0) → P4 x1 (x2 ||| ((1 : Int32) <<< (x3 &&& 31))) (x3 + 1)))) ∧ (¬ (x1 ≤ x5) → (vp_in x5 20) ∧ (p_X12_isThere fu x3 (s 103 x5.toNatClampNeg) s l) ∧ (vp_in x5 20) ∧ ((((f_X12_isThere fu x3 (s 103 x5.toNatClampNeg) s l) = (s 104 x5.toNatClampNeg)) → p_X12_writtenBits_23 fu P4 n x1 x2 x3 x4 (x5 + 1) s l) ∧ (¬ ((f_X12_isThere fu x3 (s 103 x5.toNatClampNeg) s l) = (s 104 x5.toNatClampNeg)) → p_X12_writtenBits_23 fu P4 n x1 x2 x3 (0 : Int32) (x5 + 1) s l))))

set_option maxRecDepth 100000 in
set_option maxHeartbeats 1000000 in
theorem lp_X12_writtenBits_23 {G : ab_G} {fu : Nat} {d : Nat} {D : fl_D} {s : fl_I} {l : fl_L} (K4 : Int32 → Int32 → Int32 → Int32) (P4 : Int32 → Int32 → Int32 → Prop) (hK4 : ∀ (x1 : Int32) (x2 : Int32) (x3 : Int32), P4 x1 x2 x3 → ab_C G (d + 2) 0 0 M_X12_writtenBits 4 [some (.ref 60), some (.int x1), some (.int x2), some (.int x3), none, none] [] (hp D s l) (rt (some (.int (K4 x1 x2 x3))) (hp D s l))) : ∀ (n : Nat) (x1 : Int32) (x2 : Int32) (x3 : Int32) (x4 : Int32) (x5 : Int32), p_X12_writtenBits_23 fu P4 n x1 x2 x3 x4 x5 s l → ab_C G (d + 2) 0 0 M_X12_writtenBits 23 [some (.ref 60), some (.int x1), some (.int x2), some (.int x3), some (.int x4), some (.int x5)] [] (hp D s l) (rt (some (.int (f_X12_writtenBits_23 fu K4 n x1 x2 x3 x4 x5 s l))) (hp D s l)) := by
  intro n
  induction n with
  | zero => intro x1 x2 x3 x4 x5 hk; exact hk.elim
  | succ n ih =>
    intro x1 x2 x3 x4 x5 hk
    generalize he : f_X12_writtenBits_23 fu K4 (n + 1) x1 x2 x3 x4 x5 s l = res
    unfold f_X12_writtenBits_23 at he
    unfold p_X12_writtenBits_23 at hk
    refine r_iload rfl rfl ?_
    refine r_iload_n rfl rfl ?_
    refine r_icmp_ge rfl (fun c_26 => ?_) (fun c_26 => ?_)
    · rw [if_pos c_26] at he
      replace hk := hk.1 c_26
      refine r_iload rfl rfl ?_
      refine r_if_eq rfl (fun c_62 => ?_) (fun c_62 => ?_)
      · rw [if_pos c_62] at he
        replace hk := hk.1 c_62
        refine r_iinc (b := x3 + 1) rfl rfl rfl (Nat.le_of_ble_eq_true rfl) rfl ?_
        refine r_goto rfl ?_
        subst he
        exact r_weak (L1 := [some (.ref 60), some (.int x1), some (.int x2), some (.int (x3 + 1)), none, none]) ⟨rfl, rfl, rfl, rfl, trivial⟩ (hK4 _ _ _ hk)
      · rw [if_neg c_62] at he
        replace hk := hk.2 c_62
        refine r_iload_n rfl rfl ?_
        refine r_iconst_ (a := 1) rfl (by decide) ?_
        refine r_iload_n rfl rfl ?_
        refine r_ishl rfl ?_
        refine r_ior rfl ?_
        refine r_istore_n rfl (Nat.le_of_ble_eq_true rfl) rfl ?_
        refine r_iinc (b := x3 + 1) rfl rfl rfl (Nat.le_of_ble_eq_true rfl) rfl ?_
        refine r_goto rfl ?_
        subst he
        exact r_weak (L1 := [some (.ref 60), some (.int x1), some (.int (x2 ||| ((1 : Int32) <<< (x3 &&& 31)))), some (.int (x3 + 1)), none, none]) ⟨rfl, rfl, rfl, rfl, trivial⟩ (hK4 _ _ _ hk)
    · rw [if_neg c_26] at he
      replace hk := hk.2 c_26
      refine r_aload_n rfl rfl ?_
      refine r_iload_n rfl rfl ?_
      refine r_aload_n rfl rfl ?_
      refine q_getfield rfl (cc_60 _) rfl ?_
      refine r_iload rfl rfl ?_
      obtain ⟨hb1, hk⟩ := hk
      refine q_iald rfl (cc_103 _) hb1 ?_
      obtain ⟨hb2, hk⟩ := hk
      refine q_callV0 [_, _] _ rfl kY_X12_isThere kT_X12_isThere rfl rfl (Nat.le_of_ble_eq_true rfl) (Nat.le_of_ble_eq_true rfl) (cc_60 _) (s_X12_isThere hb2) (fun r h q => ?_)
      obtain ⟨rfl, rfl⟩ := q
      simp only [Option.toList, List.cons_append, List.nil_append]
      refine r_aload_n rfl rfl ?_
      refine q_getfield rfl (cc_60 _) rfl ?_
      refine r_iload rfl rfl ?_
      obtain ⟨hb3, hk⟩ := hk
      refine q_zald rfl (cc_104 _) hb3 ?_
      refine r_icmp_eq rfl (fun c_48 => ?_) (fun c_48 => ?_)
      · rw [if_pos c_48] at he
        replace hk := hk.1 c_48
        refine r_iinc (b := x5 + 1) rfl rfl rfl (Nat.le_of_ble_eq_true rfl) rfl ?_
        refine r_goto rfl ?_
        subst he
        exact r_weak (L1 := [some (.ref 60), some (.int x1), some (.int x2), some (.int x3), some (.int x4), some (.int (x5 + 1))]) ⟨rfl, rfl, rfl, rfl, rfl, rfl, trivial⟩ (ih _ _ _ _ _ hk)
      · rw [if_neg c_48] at he
        replace hk := hk.2 c_48
        refine r_iconst_ (a := 0) rfl (by decide) ?_
        refine r_istore rfl (Nat.le_of_ble_eq_true rfl) rfl ?_
        refine r_iinc (b := x5 + 1) rfl rfl rfl (Nat.le_of_ble_eq_true rfl) rfl ?_
        refine r_goto rfl ?_
        subst he
        exact r_weak (L1 := [some (.ref 60), some (.int x1), some (.int x2), some (.int x3), some (.int (0 : Int32)), some (.int (x5 + 1))]) ⟨rfl, rfl, rfl, rfl, rfl, rfl, trivial⟩ (ih _ _ _ _ _ hk)

def f_X12_writtenBits_4 (fu : Nat) : Nat → Int32 → Int32 → Int32 → fl_I → fl_L → Int32
  | 0, _, _, _, _, _ => 0
  | n + 1, x1, x2, x3, s, l =>
    if ((s 72 (s 60 18).toNatClampNeg) ≤ x3) then x2 else f_X12_writtenBits_23 fu (fun x1 x2 x3 => f_X12_writtenBits_4 fu n x1 x2 x3 s l) fu x1 x2 x3 (1 : Int32) (0 : Int32) s l

def p_X12_writtenBits_4 (fu : Nat) : Nat → Int32 → Int32 → Int32 → fl_I → fl_L → Prop
  | 0, _, _, _, _, _ => False
  | n + 1, x1, x2, x3, s, l =>
    (vp_in (s 60 18) 2) ∧ ((((s 72 (s 60 18).toNatClampNeg) ≤ x3) → True) ∧ (¬ ((s 72 (s 60 18).toNatClampNeg) ≤ x3) → p_X12_writtenBits_23 fu (fun x1 x2 x3 => p_X12_writtenBits_4 fu n x1 x2 x3 s l) fu x1 x2 x3 (1 : Int32) (0 : Int32) s l))

set_option maxRecDepth 100000 in
set_option maxHeartbeats 1000000 in
theorem lp_X12_writtenBits_4 {G : ab_G} {fu : Nat} {d : Nat} {D : fl_D} {s : fl_I} {l : fl_L} : ∀ (n : Nat) (x1 : Int32) (x2 : Int32) (x3 : Int32), p_X12_writtenBits_4 fu n x1 x2 x3 s l → ab_C G (d + 2) 0 0 M_X12_writtenBits 4 [some (.ref 60), some (.int x1), some (.int x2), some (.int x3), none, none] [] (hp D s l) (rt (some (.int (f_X12_writtenBits_4 fu n x1 x2 x3 s l))) (hp D s l)) := by
  intro n
  induction n with
  | zero => intro x1 x2 x3 hk; exact hk.elim
  | succ n ih =>
    intro x1 x2 x3 hk
    generalize he : f_X12_writtenBits_4 fu (n + 1) x1 x2 x3 s l = res
    unfold f_X12_writtenBits_4 at he
    unfold p_X12_writtenBits_4 at hk
    refine r_iload_n rfl rfl ?_
    refine r_aload_n rfl rfl ?_
    refine q_getfield rfl (cc_60 _) rfl ?_
    refine r_aload_n rfl rfl ?_
    refine q_getfield rfl (cc_60 _) rfl ?_
    obtain ⟨hb0, hk⟩ := hk
    refine q_iald rfl (cc_72 _) hb0 ?_
    refine r_icmp_ge rfl (fun c_14 => ?_) (fun c_14 => ?_)
    · rw [if_pos c_14] at he
      replace hk := hk.1 c_14
      refine r_iload_n rfl rfl ?_
      refine r_iret rfl rfl rfl ?_
      first | with_reducible exact fin_ri he | exact fin_ri he
    · rw [if_neg c_14] at he
      replace hk := hk.2 c_14
      refine r_iconst_ (a := 1) rfl (by decide) ?_
      refine r_istore rfl (Nat.le_of_ble_eq_true rfl) rfl ?_
      refine r_iconst_ (a := 0) rfl (by decide) ?_
      refine r_istore rfl (Nat.le_of_ble_eq_true rfl) rfl ?_
      subst he
      exact r_weak (L1 := [some (.ref 60), some (.int x1), some (.int x2), some (.int x3), some (.int (1 : Int32)), some (.int (0 : Int32))]) ⟨rfl, rfl, rfl, rfl, rfl, rfl, trivial⟩ (lp_X12_writtenBits_23 _ _ (fun _ _ _ h9 => ih _ _ _ h9) fu _ _ _ _ _ hk)

def f_X12_writtenBits (fu : Nat) (v0 : Int32) (s : fl_I) (l : fl_L) : Int32 :=
  f_X12_writtenBits_4 fu fu v0 (0 : Int32) (0 : Int32) s l

def p_X12_writtenBits (fu : Nat) (v0 : Int32) (s : fl_I) (l : fl_L) : Prop :=
  p_X12_writtenBits_4 fu fu v0 (0 : Int32) (0 : Int32) s l

set_option maxRecDepth 100000 in
set_option maxHeartbeats 1000000 in
theorem s_X12_writtenBits {G : ab_G} {fu : Nat} {d : Nat} {D : fl_D} {s : fl_I} {l : fl_L} {v0 : Int32} (hk : p_X12_writtenBits fu v0 s l) : ab_C G (d + 2) 0 0 M_X12_writtenBits 0 (ab_ent [.ref 60, .int v0]) [] (hp D s l) (rt (some (.int (f_X12_writtenBits fu v0 s l))) (hp D s l)) := by
  generalize he : (f_X12_writtenBits fu v0 s l) = res
  unfold f_X12_writtenBits at he
  unfold p_X12_writtenBits at hk
  refine r_weak (L1 := [some (.ref 60), some (.int v0), none, none, none, none]) ⟨rfl, rfl, trivial⟩ ?_
  refine r_iconst_ (a := 0) rfl (by decide) ?_
  refine r_istore_n rfl (Nat.le_of_ble_eq_true rfl) rfl ?_
  refine r_iconst_ (a := 0) rfl (by decide) ?_
  refine r_istore_n rfl (Nat.le_of_ble_eq_true rfl) rfl ?_
  subst he
  exact r_weak (L1 := [some (.ref 60), some (.int v0), some (.int (0 : Int32)), some (.int (0 : Int32)), none, none]) ⟨rfl, rfl, rfl, rfl, trivial⟩ (lp_X12_writtenBits_4 fu _ _ _ hk)

def f_X12_send_21 (fu : Nat) (s : fl_I) (l : fl_L) : Int32 × fl_I × fl_L :=
    ((0 : Int32), s, l)

def p_X12_send_21 (fu : Nat) (s : fl_I) (l : fl_L) : Prop :=
    True

set_option maxRecDepth 100000 in
set_option maxHeartbeats 1000000 in
theorem lp_X12_send_21 {G : ab_G} {fu : Nat} {d : Nat} {D : fl_D} : ∀ (s : fl_I) (l : fl_L), p_X12_send_21 fu  s l → ab_C G (d + 2) 0 0 M_X12_send 21 [none, none, none, none, none] [] (hp D s l) (rt (some (.int (f_X12_send_21 fu  s l).1)) (hp D (f_X12_send_21 fu  s l).2.1 (f_X12_send_21 fu  s l).2.2)) := by
  intro  s l hk
  generalize he : f_X12_send_21 fu  s l = res
  unfold f_X12_send_21 at he
  unfold p_X12_send_21 at hk
  refine r_iconst_ (a := 0) rfl (by decide) ?_
  refine r_iret rfl rfl rfl ?_
  first | with_reducible exact fin_i he | exact fin_i he

def f_X12_send_83 (fu : Nat) (s : fl_I) (l : fl_L) : Int32 × fl_I × fl_L :=
    ((1 : Int32), s, l)

def p_X12_send_83 (fu : Nat) (s : fl_I) (l : fl_L) : Prop :=
    True

set_option maxRecDepth 100000 in
set_option maxHeartbeats 1000000 in
theorem lp_X12_send_83 {G : ab_G} {fu : Nat} {d : Nat} {D : fl_D} : ∀ (s : fl_I) (l : fl_L), p_X12_send_83 fu  s l → ab_C G (d + 2) 0 0 M_X12_send 83 [none, none, none, none, none] [] (hp D s l) (rt (some (.int (f_X12_send_83 fu  s l).1)) (hp D (f_X12_send_83 fu  s l).2.1 (f_X12_send_83 fu  s l).2.2)) := by
  intro  s l hk
  generalize he : f_X12_send_83 fu  s l = res
  unfold f_X12_send_83 at he
  unfold p_X12_send_83 at hk
  refine r_iconst_ (a := 1) rfl (by decide) ?_
  refine r_iret rfl rfl rfl ?_
  first | with_reducible exact fin_i he | exact fin_i he

def f_X12_send_67 (fu : Nat) (x1 : Int32) (x4 : Int32) (s : fl_I) (l : fl_L) : Int32 × fl_I × fl_L :=
    f_X12_send_83 fu  (f_X12_records fu (wi s 95 ((136 : Int32) + x1).toNatClampNeg x4) l).1 (f_X12_records fu (wi s 95 ((136 : Int32) + x1).toNatClampNeg x4) l).2

def p_X12_send_67 (fu : Nat) (x1 : Int32) (x4 : Int32) (s : fl_I) (l : fl_L) : Prop :=
    (vp_in ((136 : Int32) + x1) 141) ∧ (p_X12_records fu (wi s 95 ((136 : Int32) + x1).toNatClampNeg x4) l) ∧ p_X12_send_83 fu  (f_X12_records fu (wi s 95 ((136 : Int32) + x1).toNatClampNeg x4) l).1 (f_X12_records fu (wi s 95 ((136 : Int32) + x1).toNatClampNeg x4) l).2

set_option maxRecDepth 100000 in
set_option maxHeartbeats 1000000 in
theorem lp_X12_send_67 {G : ab_G} {fu : Nat} {d : Nat} {D : fl_D} : ∀ (x1 : Int32) (x4 : Int32) (s : fl_I) (l : fl_L), p_X12_send_67 fu x1 x4 s l → ab_C G (d + 2) 0 0 M_X12_send 67 [some (.ref 60), some (.int x1), none, none, some (.int x4)] [] (hp D s l) (rt (some (.int (f_X12_send_67 fu x1 x4 s l).1)) (hp D (f_X12_send_67 fu x1 x4 s l).2.1 (f_X12_send_67 fu x1 x4 s l).2.2)) := by
  intro x1 x4 s l hk
  generalize he : f_X12_send_67 fu x1 x4 s l = res
  unfold f_X12_send_67 at he
  unfold p_X12_send_67 at hk
  refine r_aload_n rfl rfl ?_
  refine q_getfield rfl (cc_60 _) rfl ?_
  refine r_sipush_ (a := 136) rfl (by decide) ?_
  refine r_iload_n rfl rfl ?_
  refine r_iadd rfl ?_
  refine r_iload rfl rfl ?_
  obtain ⟨hb4, hk⟩ := hk
  refine w_iast rfl (cc_95 _) hb4 ?_
  refine r_aload_n rfl rfl ?_
  obtain ⟨hb5, hk⟩ := hk
  refine q_callV0 [] _ rfl kY_X12_records kT_X12_records rfl rfl (Nat.le_of_ble_eq_true rfl) (Nat.le_of_ble_eq_true rfl) (cc_60 _) (s_X12_records hb5) (fun r h q => ?_)
  obtain ⟨rfl, rfl⟩ := q
  simp only [Option.toList, List.cons_append, List.nil_append]
  subst he
  exact r_weak (L1 := [none, none, none, none, none]) trivial (lp_X12_send_83 _ _ hk)

def f_X12_send_23 (fu : Nat) (x1 : Int32) (x2 : Int32) (x3 : Int32) (s : fl_I) (l : fl_L) : Int32 × fl_I × fl_L :=
    if (x2 = (-1 : Int32)) then if ((s 94 ((136 : Int32) + x1).toNatClampNeg) = (-2 : Int32)) then ((0 : Int32), s, l) else f_X12_send_67 fu x1 (-2 : Int32) (f_X12_copies fu s l).1 (f_X12_copies fu s l).2 else if ((s 94 ((136 : Int32) + x1).toNatClampNeg) = (f_X12_goalAt fu x1 (((10 : Int32) * x3) + x2) s l)) then ((0 : Int32), s, l) else f_X12_send_67 fu x1 (f_X12_goalAt fu x1 (((10 : Int32) * x3) + x2) s l) (f_X12_copies fu s l).1 (f_X12_copies fu s l).2

def p_X12_send_23 (fu : Nat) (x1 : Int32) (x2 : Int32) (x3 : Int32) (s : fl_I) (l : fl_L) : Prop :=
    (((x2 = (-1 : Int32)) → (vp_in ((136 : Int32) + x1) 141) ∧ ((((s 94 ((136 : Int32) + x1).toNatClampNeg) = (-2 : Int32)) → True) ∧ (¬ ((s 94 ((136 : Int32) + x1).toNatClampNeg) = (-2 : Int32)) → (p_X12_copies fu s l) ∧ p_X12_send_67 fu x1 (-2 : Int32) (f_X12_copies fu s l).1 (f_X12_copies fu s l).2))) ∧ (¬ (x2 = (-1 : Int32)) → (p_X12_goalAt fu x1 (((10 : Int32) * x3) + x2) s l) ∧ (vp_in ((136 : Int32) + x1) 141) ∧ ((((s 94 ((136 : Int32) + x1).toNatClampNeg) = (f_X12_goalAt fu x1 (((10 : Int32) * x3) + x2) s l)) → True) ∧ (¬ ((s 94 ((136 : Int32) + x1).toNatClampNeg) = (f_X12_goalAt fu x1 (((10 : Int32) * x3) + x2) s l)) → (p_X12_copies fu s l) ∧ p_X12_send_67 fu x1 (f_X12_goalAt fu x1 (((10 : Int32) * x3) + x2) s l) (f_X12_copies fu s l).1 (f_X12_copies fu s l).2))))

set_option maxRecDepth 100000 in
set_option maxHeartbeats 1000000 in
theorem lp_X12_send_23 {G : ab_G} {fu : Nat} {d : Nat} {D : fl_D} : ∀ (x1 : Int32) (x2 : Int32) (x3 : Int32) (s : fl_I) (l : fl_L), p_X12_send_23 fu x1 x2 x3 s l → ab_C G (d + 2) 0 0 M_X12_send 23 [some (.ref 60), some (.int x1), some (.int x2), some (.int x3), none] [] (hp D s l) (rt (some (.int (f_X12_send_23 fu x1 x2 x3 s l).1)) (hp D (f_X12_send_23 fu x1 x2 x3 s l).2.1 (f_X12_send_23 fu x1 x2 x3 s l).2.2)) := by
  intro x1 x2 x3 s l hk
  generalize he : f_X12_send_23 fu x1 x2 x3 s l = res
  unfold f_X12_send_23 at he
  unfold p_X12_send_23 at hk
  refine r_iload_n rfl rfl ?_
  refine r_iconst_ (a := -1) rfl (by decide) ?_
  refine r_icmp_ne rfl (fun c_25 => ?_) (fun c_25 => ?_)
  · rw [if_neg c_25] at he
    replace hk := hk.2 c_25
    refine r_aload_n rfl rfl ?_
    refine r_iload_n rfl rfl ?_
    refine r_bipush_ (a := 10) rfl (by decide) ?_
    refine r_iload_n rfl rfl ?_
    refine r_imul rfl ?_
    refine r_iload_n rfl rfl ?_
    refine r_iadd rfl ?_
    obtain ⟨hb1, hk⟩ := hk
    refine q_callV0 [_, _] _ rfl kY_X12_goalAt kT_X12_goalAt rfl rfl (Nat.le_of_ble_eq_true rfl) (Nat.le_of_ble_eq_true rfl) (cc_60 _) (s_X12_goalAt hb1) (fun r h q => ?_)
    obtain ⟨rfl, rfl⟩ := q
    simp only [Option.toList, List.cons_append, List.nil_append]
    refine r_istore rfl (Nat.le_of_ble_eq_true rfl) rfl ?_
    refine r_aload_n rfl rfl ?_
    refine q_getfield rfl (cc_60 _) rfl ?_
    refine r_sipush_ (a := 136) rfl (by decide) ?_
    refine r_iload_n rfl rfl ?_
    refine r_iadd rfl ?_
    obtain ⟨hb2, hk⟩ := hk
    refine q_iald rfl (cc_94 _) hb2 ?_
    refine r_iload rfl rfl ?_
    refine r_icmp_ne rfl (fun c_58 => ?_) (fun c_58 => ?_)
    · rw [if_neg c_58] at he
      replace hk := hk.2 c_58
      refine r_aload_n rfl rfl ?_
      obtain ⟨hb3, hk⟩ := hk
      refine q_callV0 [] _ rfl kY_X12_copies kT_X12_copies rfl rfl (Nat.le_of_ble_eq_true rfl) (Nat.le_of_ble_eq_true rfl) (cc_60 _) (s_X12_copies hb3) (fun r h q => ?_)
      obtain ⟨rfl, rfl⟩ := q
      simp only [Option.toList, List.cons_append, List.nil_append]
      subst he
      exact r_weak (L1 := [some (.ref 60), some (.int x1), none, none, some (.int (f_X12_goalAt fu x1 (((10 : Int32) * x3) + x2) s l))]) ⟨rfl, rfl, rfl, trivial⟩ (lp_X12_send_67 _ _ _ _ hk)
    · rw [if_pos c_58] at he
      replace hk := hk.1 c_58
      refine r_iconst_ (a := 0) rfl (by decide) ?_
      refine r_iret rfl rfl rfl ?_
      first | with_reducible exact fin_i he | exact fin_i he
  · rw [if_pos c_25] at he
    replace hk := hk.1 c_25
    refine r_bipush_ (a := -2) rfl (by decide) ?_
    refine r_goto rfl ?_
    refine r_istore rfl (Nat.le_of_ble_eq_true rfl) rfl ?_
    refine r_aload_n rfl rfl ?_
    refine q_getfield rfl (cc_60 _) rfl ?_
    refine r_sipush_ (a := 136) rfl (by decide) ?_
    refine r_iload_n rfl rfl ?_
    refine r_iadd rfl ?_
    obtain ⟨hb6, hk⟩ := hk
    refine q_iald rfl (cc_94 _) hb6 ?_
    refine r_iload rfl rfl ?_
    refine r_icmp_ne rfl (fun c_58 => ?_) (fun c_58 => ?_)
    · rw [if_neg c_58] at he
      replace hk := hk.2 c_58
      refine r_aload_n rfl rfl ?_
      obtain ⟨hb7, hk⟩ := hk
      refine q_callV0 [] _ rfl kY_X12_copies kT_X12_copies rfl rfl (Nat.le_of_ble_eq_true rfl) (Nat.le_of_ble_eq_true rfl) (cc_60 _) (s_X12_copies hb7) (fun r h q => ?_)
      obtain ⟨rfl, rfl⟩ := q
      simp only [Option.toList, List.cons_append, List.nil_append]
      subst he
      exact r_weak (L1 := [some (.ref 60), some (.int x1), none, none, some (.int (-2 : Int32))]) ⟨rfl, rfl, rfl, trivial⟩ (lp_X12_send_67 _ _ _ _ hk)
    · rw [if_pos c_58] at he
      replace hk := hk.1 c_58
      refine r_iconst_ (a := 0) rfl (by decide) ?_
      refine r_iret rfl rfl rfl ?_
      first | with_reducible exact fin_i he | exact fin_i he

def f_X12_send (fu : Nat) (v0 : Int32) (v1 : Int32) (v2 : Int32) (s : fl_I) (l : fl_L) : Int32 × fl_I × fl_L :=
  if ((f_X12_isPicker fu v0 s l) = 0) then f_X12_send_21 fu  s l else if (v1 = (-1 : Int32)) then f_X12_send_23 fu v0 v1 v2 s l else if ((f_X12_isCell fu v1 v2) = 0) then f_X12_send_21 fu  s l else f_X12_send_23 fu v0 v1 v2 s l

def p_X12_send (fu : Nat) (v0 : Int32) (v1 : Int32) (v2 : Int32) (s : fl_I) (l : fl_L) : Prop :=
  (p_X12_isPicker fu v0 s l) ∧ ((((f_X12_isPicker fu v0 s l) = 0) → p_X12_send_21 fu  s l) ∧ (¬ ((f_X12_isPicker fu v0 s l) = 0) → (((v1 = (-1 : Int32)) → p_X12_send_23 fu v0 v1 v2 s l) ∧ (¬ (v1 = (-1 : Int32)) → (p_X12_isCell fu v1 v2) ∧ ((((f_X12_isCell fu v1 v2) = 0) → p_X12_send_21 fu  s l) ∧ (¬ ((f_X12_isCell fu v1 v2) = 0) → p_X12_send_23 fu v0 v1 v2 s l))))))

set_option maxRecDepth 100000 in
set_option maxHeartbeats 1000000 in
theorem s_X12_send {G : ab_G} {fu : Nat} {d : Nat} {D : fl_D} {s : fl_I} {l : fl_L} {v0 : Int32} {v1 : Int32} {v2 : Int32} (hk : p_X12_send fu v0 v1 v2 s l) : ab_C G (d + 2) 0 0 M_X12_send 0 (ab_ent [.ref 60, .int v0, .int v1, .int v2]) [] (hp D s l) (rt (some (.int (f_X12_send fu v0 v1 v2 s l).1)) (hp D (f_X12_send fu v0 v1 v2 s l).2.1 (f_X12_send fu v0 v1 v2 s l).2.2)) := by
  generalize he : (f_X12_send fu v0 v1 v2 s l) = res
  unfold f_X12_send at he
  unfold p_X12_send at hk
  refine r_weak (L1 := [some (.ref 60), some (.int v0), some (.int v1), some (.int v2), none]) ⟨rfl, rfl, rfl, rfl, trivial⟩ ?_
  refine r_aload_n rfl rfl ?_
  refine r_iload_n rfl rfl ?_
  obtain ⟨hb0, hk⟩ := hk
  refine q_callV0 [_] _ rfl kY_X12_isPicker kT_X12_isPicker rfl rfl (Nat.le_of_ble_eq_true rfl) (Nat.le_of_ble_eq_true rfl) (cc_60 _) (s_X12_isPicker hb0) (fun r h q => ?_)
  obtain ⟨rfl, rfl⟩ := q
  simp only [Option.toList, List.cons_append, List.nil_append]
  refine r_if_eq rfl (fun c_5 => ?_) (fun c_5 => ?_)
  · rw [if_pos c_5] at he
    replace hk := hk.1 c_5
    subst he
    exact r_weak (L1 := [none, none, none, none, none]) trivial (lp_X12_send_21 _ _ hk)
  · rw [if_neg c_5] at he
    replace hk := hk.2 c_5
    refine r_iload_n rfl rfl ?_
    refine r_iconst_ (a := -1) rfl (by decide) ?_
    refine r_icmp_eq rfl (fun c_10 => ?_) (fun c_10 => ?_)
    · rw [if_pos c_10] at he
      replace hk := hk.1 c_10
      subst he
      exact r_weak (L1 := [some (.ref 60), some (.int v0), some (.int v1), some (.int v2), none]) ⟨rfl, rfl, rfl, rfl, trivial⟩ (lp_X12_send_23 _ _ _ _ _ hk)
    · rw [if_neg c_10] at he
      replace hk := hk.2 c_10
      refine r_iload_n rfl rfl ?_
      refine r_iload_n rfl rfl ?_
      obtain ⟨hb8, hk⟩ := hk
      refine r_callS0 [_, _] _ rfl kY_X12_isCell kT_X12_isCell rfl rfl (Nat.le_of_ble_eq_true rfl) (Nat.le_of_ble_eq_true rfl) (s_X12_isCell hb8) (fun r h q => ?_)
      obtain ⟨rfl, rfl⟩ := q
      simp only [Option.toList, List.cons_append, List.nil_append]
      refine r_if_ne rfl (fun c_18 => ?_) (fun c_18 => ?_)
      · rw [if_neg c_18] at he
        replace hk := hk.2 c_18
        subst he
        exact r_weak (L1 := [some (.ref 60), some (.int v0), some (.int v1), some (.int v2), none]) ⟨rfl, rfl, rfl, rfl, trivial⟩ (lp_X12_send_23 _ _ _ _ _ hk)
      · rw [if_pos c_18] at he
        replace hk := hk.1 c_18
        subst he
        exact r_weak (L1 := [none, none, none, none, none]) trivial (lp_X12_send_21 _ _ hk)

def f_X0_makesAtOnce_47 (fu : Nat) : Nat → Int32 → Int32 → Int32 → Nat → fl_I → fl_L → Int32 × fl_I × fl_L
  | 0, x2, x3, x4, t, s, l => (0, s, l)
  | n + 1, x2, x3, x4, t, s, l =>
    if ((s t 1) ≤ x4) then if (x3 = 0) then ((1 : Int32), s, l) else ((0 : Int32), s, l) else if (((x2 >>> (x4 &&& 31)) &&& (1 : Int32)) = (1 : Int32)) then f_X0_makesAtOnce_47 fu n x2 x3 (x4 + 1) t (f_X0_putBack fu (l (t + 2) x4.toNatClampNeg) s l).1 (f_X0_putBack fu (l (t + 2) x4.toNatClampNeg) s l).2 else f_X0_makesAtOnce_47 fu n x2 x3 (x4 + 1) t s l

def p_X0_makesAtOnce_47 (fu : Nat) : Nat → Int32 → Int32 → Int32 → Nat → fl_I → fl_L → Prop
  | 0, _, _, _, _, _, _ => False
  | n + 1, x2, x3, x4, t, s, l =>
    ((((s t 1) ≤ x4) → (((x3 = 0) → True) ∧ (¬ (x3 = 0) → True))) ∧ (¬ ((s t 1) ≤ x4) → (((((x2 >>> (x4 &&& 31)) &&& (1 : Int32)) = (1 : Int32)) → (vp_in x4 8) ∧ (p_X0_putBack fu (l (t + 2) x4.toNatClampNeg) s l) ∧ p_X0_makesAtOnce_47 fu n x2 x3 (x4 + 1) t (f_X0_putBack fu (l (t + 2) x4.toNatClampNeg) s l).1 (f_X0_putBack fu (l (t + 2) x4.toNatClampNeg) s l).2) ∧ (¬ (((x2 >>> (x4 &&& 31)) &&& (1 : Int32)) = (1 : Int32)) → p_X0_makesAtOnce_47 fu n x2 x3 (x4 + 1) t s l))))

set_option maxRecDepth 100000 in
set_option maxHeartbeats 1000000 in
theorem lp_X0_makesAtOnce_47 {G : ab_G} {fu : Nat} {d : Nat} {D : fl_D} {t : Nat} (htt : isT t) : ∀ (n : Nat) (x2 : Int32) (x3 : Int32) (x4 : Int32) (s : fl_I) (l : fl_L), p_X0_makesAtOnce_47 fu n x2 x3 x4 t s l → ab_C G (d + 3) 0 0 M_X0_makesAtOnce 47 [some (.ref 55), some (.ref t), some (.int x2), some (.int x3), some (.int x4)] [] (hp D s l) (rt (some (.int (f_X0_makesAtOnce_47 fu n x2 x3 x4 t s l).1)) (hp D (f_X0_makesAtOnce_47 fu n x2 x3 x4 t s l).2.1 (f_X0_makesAtOnce_47 fu n x2 x3 x4 t s l).2.2)) := by
  intro n
  induction n with
  | zero => intro x2 x3 x4 s l hk; exact hk.elim
  | succ n ih =>
    intro x2 x3 x4 s l hk
    generalize he : f_X0_makesAtOnce_47 fu (n + 1) x2 x3 x4 t s l = res
    unfold f_X0_makesAtOnce_47 at he
    unfold p_X0_makesAtOnce_47 at hk
    refine r_iload rfl rfl ?_
    refine r_aload_n rfl rfl ?_
    refine q_getfield rfl (cT_0 htt) rfl ?_
    refine r_icmp_ge rfl (fun c_53 => ?_) (fun c_53 => ?_)
    · rw [if_pos c_53] at he
      replace hk := hk.1 c_53
      refine r_iload_n rfl rfl ?_
      refine r_if_ne rfl (fun c_84 => ?_) (fun c_84 => ?_)
      · rw [if_neg c_84] at he
        replace hk := hk.2 c_84
        refine r_iconst_ (a := 0) rfl (by decide) ?_
        refine r_iret rfl rfl rfl ?_
        first | with_reducible exact fin_i he | exact fin_i he
      · rw [if_pos c_84] at he
        replace hk := hk.1 c_84
        refine r_iconst_ (a := 1) rfl (by decide) ?_
        refine r_goto rfl ?_
        refine r_iret rfl rfl rfl ?_
        first | with_reducible exact fin_i he | exact fin_i he
    · rw [if_neg c_53] at he
      replace hk := hk.2 c_53
      refine r_iload_n rfl rfl ?_
      refine r_iload rfl rfl ?_
      refine r_ishr rfl ?_
      refine r_iconst_ (a := 1) rfl (by decide) ?_
      refine r_iand rfl ?_
      refine r_iconst_ (a := 1) rfl (by decide) ?_
      refine r_icmp_ne rfl (fun c_63 => ?_) (fun c_63 => ?_)
      · rw [if_neg c_63] at he
        replace hk := hk.2 c_63
        refine r_iinc (b := x4 + 1) rfl rfl rfl (Nat.le_of_ble_eq_true rfl) rfl ?_
        refine r_goto rfl ?_
        subst he
        exact r_weak (L1 := [some (.ref 55), some (.ref t), some (.int x2), some (.int x3), some (.int (x4 + 1))]) ⟨rfl, rfl, rfl, rfl, rfl, trivial⟩ (ih _ _ _ _ _ hk)
      · rw [if_pos c_63] at he
        replace hk := hk.1 c_63
        refine r_aload_n rfl rfl ?_
        refine r_aload_n rfl rfl ?_
        refine q_getfield rfl (cT_0 htt) rfl ?_
        refine r_iload rfl rfl ?_
        obtain ⟨hb0, hk⟩ := hk
        refine q_lald rfl (cT_2 htt) hb0 ?_
        obtain ⟨hb1, hk⟩ := hk
        refine q_callV0 [_] _ rfl kY_X0_putBack kT_X0_putBack rfl rfl (Nat.le_of_ble_eq_true rfl) (Nat.le_of_ble_eq_true rfl) (cc_55 _) (s_X0_putBack hb1) (fun r h q => ?_)
        obtain ⟨rfl, rfl⟩ := q
        simp only [Option.toList, List.cons_append, List.nil_append]
        refine r_iinc (b := x4 + 1) rfl rfl rfl (Nat.le_of_ble_eq_true rfl) rfl ?_
        refine r_goto rfl ?_
        subst he
        exact r_weak (L1 := [some (.ref 55), some (.ref t), some (.int x2), some (.int x3), some (.int (x4 + 1))]) ⟨rfl, rfl, rfl, rfl, rfl, trivial⟩ (ih _ _ _ _ _ hk)

def f_X0_makesAtOnce_5 (fu : Nat) : Nat → Int32 → Int32 → Int32 → Nat → fl_I → fl_L → Int32 × fl_I × fl_L
  | 0, x2, x3, x4, t, s, l => (0, s, l)
  | n + 1, x2, x3, x4, t, s, l =>
    if ((s t 1) ≤ x4) then f_X0_makesAtOnce_47 fu fu x2 x3 (0 : Int32) t s l else if (((x2 >>> (x4 &&& 31)) &&& (1 : Int32)) = (1 : Int32)) then f_X0_makesAtOnce_5 fu n x2 (x3 + (f_X0_takeOut fu (l (t + 2) x4.toNatClampNeg) s l).1) (x4 + 1) t (f_X0_takeOut fu (l (t + 2) x4.toNatClampNeg) s l).2.1 (f_X0_takeOut fu (l (t + 2) x4.toNatClampNeg) s l).2.2 else f_X0_makesAtOnce_5 fu n x2 x3 (x4 + 1) t s l

def p_X0_makesAtOnce_5 (fu : Nat) : Nat → Int32 → Int32 → Int32 → Nat → fl_I → fl_L → Prop
  | 0, _, _, _, _, _, _ => False
  | n + 1, x2, x3, x4, t, s, l =>
    ((((s t 1) ≤ x4) → p_X0_makesAtOnce_47 fu fu x2 x3 (0 : Int32) t s l) ∧ (¬ ((s t 1) ≤ x4) → (((((x2 >>> (x4 &&& 31)) &&& (1 : Int32)) = (1 : Int32)) → (vp_in x4 8) ∧ (p_X0_takeOut fu (l (t + 2) x4.toNatClampNeg) s l) ∧ p_X0_makesAtOnce_5 fu n x2 (x3 + (f_X0_takeOut fu (l (t + 2) x4.toNatClampNeg) s l).1) (x4 + 1) t (f_X0_takeOut fu (l (t + 2) x4.toNatClampNeg) s l).2.1 (f_X0_takeOut fu (l (t + 2) x4.toNatClampNeg) s l).2.2) ∧ (¬ (((x2 >>> (x4 &&& 31)) &&& (1 : Int32)) = (1 : Int32)) → p_X0_makesAtOnce_5 fu n x2 x3 (x4 + 1) t s l))))

set_option maxRecDepth 100000 in
set_option maxHeartbeats 1000000 in
theorem lp_X0_makesAtOnce_5 {G : ab_G} {fu : Nat} {d : Nat} {D : fl_D} {t : Nat} (htt : isT t) : ∀ (n : Nat) (x2 : Int32) (x3 : Int32) (x4 : Int32) (s : fl_I) (l : fl_L), p_X0_makesAtOnce_5 fu n x2 x3 x4 t s l → ab_C G (d + 3) 0 0 M_X0_makesAtOnce 5 [some (.ref 55), some (.ref t), some (.int x2), some (.int x3), some (.int x4)] [] (hp D s l) (rt (some (.int (f_X0_makesAtOnce_5 fu n x2 x3 x4 t s l).1)) (hp D (f_X0_makesAtOnce_5 fu n x2 x3 x4 t s l).2.1 (f_X0_makesAtOnce_5 fu n x2 x3 x4 t s l).2.2)) := by
  intro n
  induction n with
  | zero => intro x2 x3 x4 s l hk; exact hk.elim
  | succ n ih =>
    intro x2 x3 x4 s l hk
    generalize he : f_X0_makesAtOnce_5 fu (n + 1) x2 x3 x4 t s l = res
    unfold f_X0_makesAtOnce_5 at he
    unfold p_X0_makesAtOnce_5 at hk
    refine r_iload rfl rfl ?_
    refine r_aload_n rfl rfl ?_
    refine q_getfield rfl (cT_0 htt) rfl ?_
    refine r_icmp_ge rfl (fun c_11 => ?_) (fun c_11 => ?_)
    · rw [if_pos c_11] at he
      replace hk := hk.1 c_11
      refine r_iconst_ (a := 0) rfl (by decide) ?_
      refine r_istore rfl (Nat.le_of_ble_eq_true rfl) rfl ?_
      subst he
      exact r_weak (L1 := [some (.ref 55), some (.ref t), some (.int x2), some (.int x3), some (.int (0 : Int32))]) ⟨rfl, rfl, rfl, rfl, rfl, trivial⟩ (lp_X0_makesAtOnce_47 htt fu _ _ _ _ _ hk)
    · rw [if_neg c_11] at he
      replace hk := hk.2 c_11
      refine r_iload_n rfl rfl ?_
      refine r_iload rfl rfl ?_
      refine r_ishr rfl ?_
      refine r_iconst_ (a := 1) rfl (by decide) ?_
      refine r_iand rfl ?_
      refine r_iconst_ (a := 1) rfl (by decide) ?_
      refine r_icmp_ne rfl (fun c_21 => ?_) (fun c_21 => ?_)
      · rw [if_neg c_21] at he
        replace hk := hk.2 c_21
        refine r_iinc (b := x4 + 1) rfl rfl rfl (Nat.le_of_ble_eq_true rfl) rfl ?_
        refine r_goto rfl ?_
        subst he
        exact r_weak (L1 := [some (.ref 55), some (.ref t), some (.int x2), some (.int x3), some (.int (x4 + 1))]) ⟨rfl, rfl, rfl, rfl, rfl, trivial⟩ (ih _ _ _ _ _ hk)
      · rw [if_pos c_21] at he
        replace hk := hk.1 c_21
        refine r_iload_n rfl rfl ?_
        refine r_aload_n rfl rfl ?_
        refine r_aload_n rfl rfl ?_
        refine q_getfield rfl (cT_0 htt) rfl ?_
        refine r_iload rfl rfl ?_
        obtain ⟨hb2, hk⟩ := hk
        refine q_lald rfl (cT_2 htt) hb2 ?_
        obtain ⟨hb3, hk⟩ := hk
        refine q_callV0 [_] _ rfl kY_X0_takeOut kT_X0_takeOut rfl rfl (Nat.le_of_ble_eq_true rfl) (Nat.le_of_ble_eq_true rfl) (cc_55 _) (s_X0_takeOut hb3) (fun r h q => ?_)
        obtain ⟨rfl, rfl⟩ := q
        simp only [Option.toList, List.cons_append, List.nil_append]
        refine r_iadd rfl ?_
        refine r_istore_n rfl (Nat.le_of_ble_eq_true rfl) rfl ?_
        refine r_iinc (b := x4 + 1) rfl rfl rfl (Nat.le_of_ble_eq_true rfl) rfl ?_
        refine r_goto rfl ?_
        subst he
        exact r_weak (L1 := [some (.ref 55), some (.ref t), some (.int x2), some (.int (x3 + (f_X0_takeOut fu (l (t + 2) x4.toNatClampNeg) s l).1)), some (.int (x4 + 1))]) ⟨rfl, rfl, rfl, rfl, rfl, trivial⟩ (ih _ _ _ _ _ hk)

def f_X0_makesAtOnce (fu : Nat) (v1 : Int32) (t : Nat) (s : fl_I) (l : fl_L) : Int32 × fl_I × fl_L :=
  f_X0_makesAtOnce_5 fu fu v1 (0 : Int32) (0 : Int32) t s l

def p_X0_makesAtOnce (fu : Nat) (v1 : Int32) (t : Nat) (s : fl_I) (l : fl_L) : Prop :=
  p_X0_makesAtOnce_5 fu fu v1 (0 : Int32) (0 : Int32) t s l

set_option maxRecDepth 100000 in
set_option maxHeartbeats 1000000 in
theorem s_X0_makesAtOnce {G : ab_G} {fu : Nat} {d : Nat} {D : fl_D} {s : fl_I} {l : fl_L} {t : Nat} (htt : isT t) {v1 : Int32} (hk : p_X0_makesAtOnce fu v1 t s l) : ab_C G (d + 3) 0 0 M_X0_makesAtOnce 0 (ab_ent [.ref 55, .ref t, .int v1]) [] (hp D s l) (rt (some (.int (f_X0_makesAtOnce fu v1 t s l).1)) (hp D (f_X0_makesAtOnce fu v1 t s l).2.1 (f_X0_makesAtOnce fu v1 t s l).2.2)) := by
  generalize he : (f_X0_makesAtOnce fu v1 t s l) = res
  unfold f_X0_makesAtOnce at he
  unfold p_X0_makesAtOnce at hk
  refine r_weak (L1 := [some (.ref 55), some (.ref t), some (.int v1), none, none]) ⟨rfl, rfl, rfl, trivial⟩ ?_
  refine r_iconst_ (a := 0) rfl (by decide) ?_
  refine r_istore_n rfl (Nat.le_of_ble_eq_true rfl) rfl ?_
  refine r_iconst_ (a := 0) rfl (by decide) ?_
  refine r_istore rfl (Nat.le_of_ble_eq_true rfl) rfl ?_
  subst he
  exact r_weak (L1 := [some (.ref 55), some (.ref t), some (.int v1), some (.int (0 : Int32)), some (.int (0 : Int32))]) ⟨rfl, rfl, rfl, rfl, rfl, trivial⟩ (lp_X0_makesAtOnce_5 htt fu _ _ _ _ _ hk)

