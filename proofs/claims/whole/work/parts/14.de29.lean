def f_X0_lacks (fu : Nat) (v0 : Int64) (s : fl_I) (l : fl_L) : Int32 × fl_I × fl_L :=
  ((f_X0_takeOut fu v0 s l).1, (f_X0_putBack fu v0 (f_X0_takeOut fu v0 s l).2.1 (f_X0_takeOut fu v0 s l).2.2).1, (f_X0_putBack fu v0 (f_X0_takeOut fu v0 s l).2.1 (f_X0_takeOut fu v0 s l).2.2).2)

def p_X0_lacks (fu : Nat) (v0 : Int64) (s : fl_I) (l : fl_L) : Prop :=
  (p_X0_takeOut fu v0 s l) ∧ (p_X0_putBack fu v0 (f_X0_takeOut fu v0 s l).2.1 (f_X0_takeOut fu v0 s l).2.2) ∧ True

set_option maxRecDepth 100000 in
set_option maxHeartbeats 1000000 in
theorem s_X0_lacks {G : ab_G} {fu : Nat} {d : Nat} {D : fl_D} {s : fl_I} {l : fl_L} {v0 : Int64} (hk : p_X0_lacks fu v0 s l) : ab_C G (d + 3) 0 0 M_X0_lacks 0 (ab_ent [.ref 55, .long v0]) [] (hp D s l) (rt (some (.int (f_X0_lacks fu v0 s l).1)) (hp D (f_X0_lacks fu v0 s l).2.1 (f_X0_lacks fu v0 s l).2.2)) := by
  generalize he : (f_X0_lacks fu v0 s l) = res
  unfold f_X0_lacks at he
  unfold p_X0_lacks at hk
  refine r_weak (L1 := [some (.ref 55), some (.long v0), none, none]) ⟨rfl, rfl, trivial⟩ ?_
  refine r_aload_n rfl rfl ?_
  refine r_lload_n rfl rfl ?_
  obtain ⟨hb0, hk⟩ := hk
  refine q_callV0 [_] _ rfl kY_X0_takeOut kT_X0_takeOut rfl rfl (Nat.le_of_ble_eq_true rfl) (Nat.le_of_ble_eq_true rfl) (cc_55 _) (s_X0_takeOut hb0) (fun r h q => ?_)
  obtain ⟨rfl, rfl⟩ := q
  simp only [Option.toList, List.cons_append, List.nil_append]
  refine r_istore_n rfl (Nat.le_of_ble_eq_true rfl) rfl ?_
  refine r_aload_n rfl rfl ?_
  refine r_lload_n rfl rfl ?_
  obtain ⟨hb1, hk⟩ := hk
  refine q_callV0 [_] _ rfl kY_X0_putBack kT_X0_putBack rfl rfl (Nat.le_of_ble_eq_true rfl) (Nat.le_of_ble_eq_true rfl) (cc_55 _) (s_X0_putBack hb1) (fun r h q => ?_)
  obtain ⟨rfl, rfl⟩ := q
  simp only [Option.toList, List.cons_append, List.nil_append]
  refine r_iload_n rfl rfl ?_
  refine r_iret rfl rfl rfl ?_
  first | with_reducible exact fin_i he | exact fin_i he

def f_X12_takesOf (fu : Nat) (v0 : Int32) (s : fl_I) (l : fl_L) : Int32 × fl_I × fl_L :=
  ((f_X12_within fu (f_X12_lawTells fu (1 : Int32) (1 : Int32) (f_X12_looksAt fu v0 s l).1 (f_X12_looksAt fu v0 s l).2).1 (0 : Int32) (99 : Int32)), (f_X12_lawTells fu (1 : Int32) (1 : Int32) (f_X12_looksAt fu v0 s l).1 (f_X12_looksAt fu v0 s l).2).2.1, (f_X12_lawTells fu (1 : Int32) (1 : Int32) (f_X12_looksAt fu v0 s l).1 (f_X12_looksAt fu v0 s l).2).2.2)

def p_X12_takesOf (fu : Nat) (v0 : Int32) (s : fl_I) (l : fl_L) : Prop :=
  (p_X12_looksAt fu v0 s l) ∧ (p_X12_lawTells fu (1 : Int32) (1 : Int32) (f_X12_looksAt fu v0 s l).1 (f_X12_looksAt fu v0 s l).2) ∧ (p_X12_within fu (f_X12_lawTells fu (1 : Int32) (1 : Int32) (f_X12_looksAt fu v0 s l).1 (f_X12_looksAt fu v0 s l).2).1 (0 : Int32) (99 : Int32)) ∧ True

set_option maxRecDepth 100000 in
set_option maxHeartbeats 1000000 in
theorem s_X12_takesOf {G : ab_G} {fu : Nat} {d : Nat} {D : fl_D} {s : fl_I} {l : fl_L} {v0 : Int32} (hk : p_X12_takesOf fu v0 s l) : ab_C G (d + 3) 0 0 M_X12_takesOf 0 (ab_ent [.ref 60, .int v0]) [] (hp D s l) (rt (some (.int (f_X12_takesOf fu v0 s l).1)) (hp D (f_X12_takesOf fu v0 s l).2.1 (f_X12_takesOf fu v0 s l).2.2)) := by
  generalize he : (f_X12_takesOf fu v0 s l) = res
  unfold f_X12_takesOf at he
  unfold p_X12_takesOf at hk
  refine r_weak (L1 := [some (.ref 60), some (.int v0)]) ⟨rfl, rfl, trivial⟩ ?_
  refine r_aload_n rfl rfl ?_
  refine r_iload_n rfl rfl ?_
  obtain ⟨hb0, hk⟩ := hk
  refine q_callV0 [_] _ rfl kY_X12_looksAt kT_X12_looksAt rfl rfl (Nat.le_of_ble_eq_true rfl) (Nat.le_of_ble_eq_true rfl) (cc_60 _) (s_X12_looksAt hb0) (fun r h q => ?_)
  obtain ⟨rfl, rfl⟩ := q
  simp only [Option.toList, List.cons_append, List.nil_append]
  refine r_aload_n rfl rfl ?_
  refine r_iconst_ (a := 1) rfl (by decide) ?_
  refine r_iconst_ (a := 1) rfl (by decide) ?_
  obtain ⟨hb1, hk⟩ := hk
  refine q_callV0 [_, _] _ rfl kY_X12_lawTells kT_X12_lawTells rfl rfl (Nat.le_of_ble_eq_true rfl) (Nat.le_of_ble_eq_true rfl) (cc_60 _) (s_X12_lawTells hb1) (fun r h q => ?_)
  obtain ⟨rfl, rfl⟩ := q
  simp only [Option.toList, List.cons_append, List.nil_append]
  refine r_iconst_ (a := 0) rfl (by decide) ?_
  refine r_bipush_ (a := 99) rfl (by decide) ?_
  obtain ⟨hb2, hk⟩ := hk
  refine r_callS0 [_, _, _] _ rfl kY_X12_within kT_X12_within rfl rfl (Nat.le_of_ble_eq_true rfl) (Nat.le_of_ble_eq_true rfl) (s_X12_within hb2) (fun r h q => ?_)
  obtain ⟨rfl, rfl⟩ := q
  simp only [Option.toList, List.cons_append, List.nil_append]
  refine r_iret rfl rfl rfl ?_
  first | with_reducible exact fin_i he | exact fin_i he

def f_X12_isBlown (fu : Nat) (v0 : Int32) (s : fl_I) (l : fl_L) : Int32 × fl_I × fl_L :=
  if ((f_X12_lawTells fu (0 : Int32) (0 : Int32) (f_X12_looksAt fu v0 s l).1 (f_X12_looksAt fu v0 s l).2).1 ≤ 0) then ((0 : Int32), (f_X12_lawTells fu (0 : Int32) (0 : Int32) (f_X12_looksAt fu v0 s l).1 (f_X12_looksAt fu v0 s l).2).2.1, (f_X12_lawTells fu (0 : Int32) (0 : Int32) (f_X12_looksAt fu v0 s l).1 (f_X12_looksAt fu v0 s l).2).2.2) else ((1 : Int32), (f_X12_lawTells fu (0 : Int32) (0 : Int32) (f_X12_looksAt fu v0 s l).1 (f_X12_looksAt fu v0 s l).2).2.1, (f_X12_lawTells fu (0 : Int32) (0 : Int32) (f_X12_looksAt fu v0 s l).1 (f_X12_looksAt fu v0 s l).2).2.2)

def p_X12_isBlown (fu : Nat) (v0 : Int32) (s : fl_I) (l : fl_L) : Prop :=
  (p_X12_looksAt fu v0 s l) ∧ (p_X12_lawTells fu (0 : Int32) (0 : Int32) (f_X12_looksAt fu v0 s l).1 (f_X12_looksAt fu v0 s l).2) ∧ ((((f_X12_lawTells fu (0 : Int32) (0 : Int32) (f_X12_looksAt fu v0 s l).1 (f_X12_looksAt fu v0 s l).2).1 ≤ 0) → True) ∧ (¬ ((f_X12_lawTells fu (0 : Int32) (0 : Int32) (f_X12_looksAt fu v0 s l).1 (f_X12_looksAt fu v0 s l).2).1 ≤ 0) → True))

set_option maxRecDepth 100000 in
set_option maxHeartbeats 1000000 in
theorem s_X12_isBlown {G : ab_G} {fu : Nat} {d : Nat} {D : fl_D} {s : fl_I} {l : fl_L} {v0 : Int32} (hk : p_X12_isBlown fu v0 s l) : ab_C G (d + 3) 0 0 M_X12_isBlown 0 (ab_ent [.ref 60, .int v0]) [] (hp D s l) (rt (some (.int (f_X12_isBlown fu v0 s l).1)) (hp D (f_X12_isBlown fu v0 s l).2.1 (f_X12_isBlown fu v0 s l).2.2)) := by
  generalize he : (f_X12_isBlown fu v0 s l) = res
  unfold f_X12_isBlown at he
  unfold p_X12_isBlown at hk
  refine r_weak (L1 := [some (.ref 60), some (.int v0)]) ⟨rfl, rfl, trivial⟩ ?_
  refine r_aload_n rfl rfl ?_
  refine r_iload_n rfl rfl ?_
  obtain ⟨hb0, hk⟩ := hk
  refine q_callV0 [_] _ rfl kY_X12_looksAt kT_X12_looksAt rfl rfl (Nat.le_of_ble_eq_true rfl) (Nat.le_of_ble_eq_true rfl) (cc_60 _) (s_X12_looksAt hb0) (fun r h q => ?_)
  obtain ⟨rfl, rfl⟩ := q
  simp only [Option.toList, List.cons_append, List.nil_append]
  refine r_aload_n rfl rfl ?_
  refine r_iconst_ (a := 0) rfl (by decide) ?_
  refine r_iconst_ (a := 0) rfl (by decide) ?_
  obtain ⟨hb1, hk⟩ := hk
  refine q_callV0 [_, _] _ rfl kY_X12_lawTells kT_X12_lawTells rfl rfl (Nat.le_of_ble_eq_true rfl) (Nat.le_of_ble_eq_true rfl) (cc_60 _) (s_X12_lawTells hb1) (fun r h q => ?_)
  obtain ⟨rfl, rfl⟩ := q
  simp only [Option.toList, List.cons_append, List.nil_append]
  refine r_if_le rfl (fun c_11 => ?_) (fun c_11 => ?_)
  · rw [if_pos c_11] at he
    replace hk := hk.1 c_11
    refine r_iconst_ (a := 0) rfl (by decide) ?_
    refine r_iret rfl rfl rfl ?_
    first | with_reducible exact fin_i he | exact fin_i he
  · rw [if_neg c_11] at he
    replace hk := hk.2 c_11
    refine r_iconst_ (a := 1) rfl (by decide) ?_
    refine r_goto rfl ?_
    refine r_iret rfl rfl rfl ?_
    first | with_reducible exact fin_i he | exact fin_i he

def f_X9_lawOfPiece (fu : Nat) (v0 : Int32) (v3 : Int32) (t : Nat) (a : Nat) (s : fl_I) (l : fl_L) : Int32 × fl_I × fl_L :=
  ((f_X1_ofPiece fu v0 v3 (f_X10_countAt fu (s (a + 1) v3.toNatClampNeg) a s l) t a s l).1, (f_X1_ofPiece fu v0 v3 (f_X10_countAt fu (s (a + 1) v3.toNatClampNeg) a s l) t a s l).2.1, (f_X1_ofPiece fu v0 v3 (f_X10_countAt fu (s (a + 1) v3.toNatClampNeg) a s l) t a s l).2.2)

def p_X9_lawOfPiece (fu : Nat) (v0 : Int32) (v3 : Int32) (t : Nat) (a : Nat) (s : fl_I) (l : fl_L) : Prop :=
  (vp_in v3 32) ∧ (p_X10_countAt fu (s (a + 1) v3.toNatClampNeg) a s l) ∧ (p_X1_ofPiece fu v0 v3 (f_X10_countAt fu (s (a + 1) v3.toNatClampNeg) a s l) t a s l) ∧ True

set_option maxRecDepth 100000 in
set_option maxHeartbeats 1000000 in
theorem s_X9_lawOfPiece {G : ab_G} {fu : Nat} {d : Nat} {D : fl_D} {s : fl_I} {l : fl_L} {t : Nat} (htt : isT t) {a : Nat} (hya : isY D a) {v0 : Int32} {v3 : Int32} (hk : p_X9_lawOfPiece fu v0 v3 t a s l) : ab_C G (d + 3) 0 0 M_X9_lawOfPiece 0 (ab_ent [.ref 46, .int v0, .ref t, .ref a, .int v3]) [] (hp D s l) (rt (some (.int (f_X9_lawOfPiece fu v0 v3 t a s l).1)) (hp D (f_X9_lawOfPiece fu v0 v3 t a s l).2.1 (f_X9_lawOfPiece fu v0 v3 t a s l).2.2)) := by
  generalize he : (f_X9_lawOfPiece fu v0 v3 t a s l) = res
  unfold f_X9_lawOfPiece at he
  unfold p_X9_lawOfPiece at hk
  refine r_weak (L1 := [some (.ref 46), some (.int v0), some (.ref t), some (.ref a), some (.int v3)]) ⟨rfl, rfl, rfl, rfl, rfl, trivial⟩ ?_
  refine r_aload_n rfl rfl ?_
  refine q_getfield rfl (cc_46 _) rfl ?_
  refine r_iload_n rfl rfl ?_
  refine r_aload_n rfl rfl ?_
  refine r_aload_n rfl rfl ?_
  refine r_iload rfl rfl ?_
  refine r_aload_n rfl rfl ?_
  refine r_aload_n rfl rfl ?_
  refine q_getfield rfl (cY_0 hya) rfl ?_
  refine r_iload rfl rfl ?_
  obtain ⟨hb0, hk⟩ := hk
  refine q_iald rfl (cY_1 hya) hb0 ?_
  obtain ⟨hb1, hk⟩ := hk
  refine q_callV0 [_] _ rfl kY_X10_countAt kT_X10_countAt rfl rfl (Nat.le_of_ble_eq_true rfl) (Nat.le_of_ble_eq_true rfl) (cY_0 hya) (s_X10_countAt hya hb1) (fun r h q => ?_)
  obtain ⟨rfl, rfl⟩ := q
  simp only [Option.toList, List.cons_append, List.nil_append]
  obtain ⟨hb2, hk⟩ := hk
  refine q_callV0 [_, _, _, _, _] _ rfl kY_X1_ofPiece kT_X1_ofPiece rfl rfl (Nat.le_of_ble_eq_true rfl) (Nat.le_of_ble_eq_true rfl) (cc_47 _) (s_X1_ofPiece htt hya hb2) (fun r h q => ?_)
  obtain ⟨rfl, rfl⟩ := q
  simp only [Option.toList, List.cons_append, List.nil_append]
  refine r_iret rfl rfl rfl ?_
  first | with_reducible exact fin_i he | exact fin_i he

def f_X12_lossNow_4 (fu : Nat) : Nat → Int32 → Int32 → fl_I → fl_L → Int32 × fl_I × fl_L
  | 0, x1, x2, s, l => (0, s, l)
  | n + 1, x1, x2, s, l =>
    if ((s 60 54) ≤ x2) then (x1, s, l) else if ((f_X12_doesLie fu x2 s l) = 0) then f_X12_lossNow_4 fu n x1 (x2 + 1) s l else f_X12_lossNow_4 fu n (x1 + (f_X12_takesOf fu x2 s l).1) (x2 + 1) (f_X12_takesOf fu x2 s l).2.1 (f_X12_takesOf fu x2 s l).2.2

def p_X12_lossNow_4 (fu : Nat) : Nat → Int32 → Int32 → fl_I → fl_L → Prop
  | 0, _, _, _, _ => False
  | n + 1, x1, x2, s, l =>
    ((((s 60 54) ≤ x2) → True) ∧ (¬ ((s 60 54) ≤ x2) → (p_X12_doesLie fu x2 s l) ∧ ((((f_X12_doesLie fu x2 s l) = 0) → p_X12_lossNow_4 fu n x1 (x2 + 1) s l) ∧ (¬ ((f_X12_doesLie fu x2 s l) = 0) → (p_X12_takesOf fu x2 s l) ∧ p_X12_lossNow_4 fu n (x1 + (f_X12_takesOf fu x2 s l).1) (x2 + 1) (f_X12_takesOf fu x2 s l).2.1 (f_X12_takesOf fu x2 s l).2.2))))

set_option maxRecDepth 100000 in
set_option maxHeartbeats 1000000 in
theorem lp_X12_lossNow_4 {G : ab_G} {fu : Nat} {d : Nat} {D : fl_D} : ∀ (n : Nat) (x1 : Int32) (x2 : Int32) (s : fl_I) (l : fl_L), p_X12_lossNow_4 fu n x1 x2 s l → ab_C G (d + 4) 0 0 M_X12_lossNow 4 [some (.ref 60), some (.int x1), some (.int x2)] [] (hp D s l) (rt (some (.int (f_X12_lossNow_4 fu n x1 x2 s l).1)) (hp D (f_X12_lossNow_4 fu n x1 x2 s l).2.1 (f_X12_lossNow_4 fu n x1 x2 s l).2.2)) := by
  intro n
  induction n with
  | zero => intro x1 x2 s l hk; exact hk.elim
  | succ n ih =>
    intro x1 x2 s l hk
    generalize he : f_X12_lossNow_4 fu (n + 1) x1 x2 s l = res
    unfold f_X12_lossNow_4 at he
    unfold p_X12_lossNow_4 at hk
    refine r_iload_n rfl rfl ?_
    refine r_aload_n rfl rfl ?_
    refine q_getfield rfl (cc_60 _) rfl ?_
    refine r_icmp_ge rfl (fun c_9 => ?_) (fun c_9 => ?_)
    · rw [if_pos c_9] at he
      replace hk := hk.1 c_9
      refine r_iload_n rfl rfl ?_
      refine r_iret rfl rfl rfl ?_
      first | with_reducible exact fin_i he | exact fin_i he
    · rw [if_neg c_9] at he
      replace hk := hk.2 c_9
      refine r_aload_n rfl rfl ?_
      refine r_iload_n rfl rfl ?_
      obtain ⟨hb0, hk⟩ := hk
      refine q_callV0 [_] _ rfl kY_X12_doesLie kT_X12_doesLie rfl rfl (Nat.le_of_ble_eq_true rfl) (Nat.le_of_ble_eq_true rfl) (cc_60 _) (s_X12_doesLie hb0) (fun r h q => ?_)
      obtain ⟨rfl, rfl⟩ := q
      simp only [Option.toList, List.cons_append, List.nil_append]
      refine r_if_eq rfl (fun c_17 => ?_) (fun c_17 => ?_)
      · rw [if_pos c_17] at he
        replace hk := hk.1 c_17
        refine r_iinc (b := x2 + 1) rfl rfl rfl (Nat.le_of_ble_eq_true rfl) rfl ?_
        refine r_goto rfl ?_
        subst he
        exact r_weak (L1 := [some (.ref 60), some (.int x1), some (.int (x2 + 1))]) ⟨rfl, rfl, rfl, trivial⟩ (ih _ _ _ _ hk)
      · rw [if_neg c_17] at he
        replace hk := hk.2 c_17
        refine r_iload_n rfl rfl ?_
        refine r_aload_n rfl rfl ?_
        refine r_iload_n rfl rfl ?_
        obtain ⟨hb1, hk⟩ := hk
        refine q_callV0 [_] _ rfl kY_X12_takesOf kT_X12_takesOf rfl rfl (Nat.le_of_ble_eq_true rfl) (Nat.le_of_ble_eq_true rfl) (cc_60 _) (s_X12_takesOf hb1) (fun r h q => ?_)
        obtain ⟨rfl, rfl⟩ := q
        simp only [Option.toList, List.cons_append, List.nil_append]
        refine r_iadd rfl ?_
        refine r_istore_n rfl (Nat.le_of_ble_eq_true rfl) rfl ?_
        refine r_iinc (b := x2 + 1) rfl rfl rfl (Nat.le_of_ble_eq_true rfl) rfl ?_
        refine r_goto rfl ?_
        subst he
        exact r_weak (L1 := [some (.ref 60), some (.int (x1 + (f_X12_takesOf fu x2 s l).1)), some (.int (x2 + 1))]) ⟨rfl, rfl, rfl, trivial⟩ (ih _ _ _ _ hk)

def f_X12_lossNow (fu : Nat) (s : fl_I) (l : fl_L) : Int32 × fl_I × fl_L :=
  f_X12_lossNow_4 fu fu (0 : Int32) (0 : Int32) s l

def p_X12_lossNow (fu : Nat) (s : fl_I) (l : fl_L) : Prop :=
  p_X12_lossNow_4 fu fu (0 : Int32) (0 : Int32) s l

set_option maxRecDepth 100000 in
set_option maxHeartbeats 1000000 in
theorem s_X12_lossNow {G : ab_G} {fu : Nat} {d : Nat} {D : fl_D} {s : fl_I} {l : fl_L}  (hk : p_X12_lossNow fu s l) : ab_C G (d + 4) 0 0 M_X12_lossNow 0 (ab_ent [.ref 60]) [] (hp D s l) (rt (some (.int (f_X12_lossNow fu s l).1)) (hp D (f_X12_lossNow fu s l).2.1 (f_X12_lossNow fu s l).2.2)) := by
  generalize he : (f_X12_lossNow fu s l) = res
  unfold f_X12_lossNow at he
  unfold p_X12_lossNow at hk
  refine r_weak (L1 := [some (.ref 60), none, none]) ⟨rfl, trivial⟩ ?_
  refine r_iconst_ (a := 0) rfl (by decide) ?_
  refine r_istore_n rfl (Nat.le_of_ble_eq_true rfl) rfl ?_
  refine r_iconst_ (a := 0) rfl (by decide) ?_
  refine r_istore_n rfl (Nat.le_of_ble_eq_true rfl) rfl ?_
  subst he
  exact r_weak (L1 := [some (.ref 60), some (.int (0 : Int32)), some (.int (0 : Int32))]) ⟨rfl, rfl, rfl, trivial⟩ (lp_X12_lossNow_4 fu _ _ _ _ hk)

def f_X12_written (fu : Nat) (v0 : Int32) (v1 : Int32) (s : fl_I) (l : fl_L) : Int32 :=
  if ((f_X12_in fu v0 (0 : Int32) (s 60 65)) = 0) then (-1 : Int32) else if ((f_X12_in fu v1 (0 : Int32) (1 : Int32)) = 0) then (-1 : Int32) else if (v1 = 0) then (f_X12_bits fu (f_X12_writtenBits fu v0 s l)) else (f_X12_writtenBits fu v0 s l)

def p_X12_written (fu : Nat) (v0 : Int32) (v1 : Int32) (s : fl_I) (l : fl_L) : Prop :=
  (p_X12_in fu v0 (0 : Int32) (s 60 65)) ∧ ((((f_X12_in fu v0 (0 : Int32) (s 60 65)) = 0) → True) ∧ (¬ ((f_X12_in fu v0 (0 : Int32) (s 60 65)) = 0) → (p_X12_in fu v1 (0 : Int32) (1 : Int32)) ∧ ((((f_X12_in fu v1 (0 : Int32) (1 : Int32)) = 0) → True) ∧ (¬ ((f_X12_in fu v1 (0 : Int32) (1 : Int32)) = 0) → (p_X12_writtenBits fu v0 s l) ∧ (((v1 = 0) → (p_X12_bits fu (f_X12_writtenBits fu v0 s l)) ∧ True) ∧ (¬ (v1 = 0) → True))))))

set_option maxRecDepth 100000 in
set_option maxHeartbeats 1000000 in
theorem s_X12_written {G : ab_G} {fu : Nat} {d : Nat} {D : fl_D} {s : fl_I} {l : fl_L} {v0 : Int32} {v1 : Int32} (hk : p_X12_written fu v0 v1 s l) : ab_C G (d + 3) 0 0 M_X12_written 0 (ab_ent [.ref 60, .int v0, .int v1]) [] (hp D s l) (rt (some (.int (f_X12_written fu v0 v1 s l))) (hp D s l)) := by
  generalize he : (f_X12_written fu v0 v1 s l) = res
  unfold f_X12_written at he
  unfold p_X12_written at hk
  refine r_weak (L1 := [some (.ref 60), some (.int v0), some (.int v1), none]) ⟨rfl, rfl, rfl, trivial⟩ ?_
  refine r_iload_n rfl rfl ?_
  refine r_iconst_ (a := 0) rfl (by decide) ?_
  refine r_aload_n rfl rfl ?_
  refine q_getfield rfl (cc_60 _) rfl ?_
  obtain ⟨hb0, hk⟩ := hk
  refine r_callS0 [_, _, _] _ rfl kY_X12_in kT_X12_in rfl rfl (Nat.le_of_ble_eq_true rfl) (Nat.le_of_ble_eq_true rfl) (s_X12_in hb0) (fun r h q => ?_)
  obtain ⟨rfl, rfl⟩ := q
  simp only [Option.toList, List.cons_append, List.nil_append]
  refine r_if_eq rfl (fun c_9 => ?_) (fun c_9 => ?_)
  · rw [if_pos c_9] at he
    replace hk := hk.1 c_9
    refine r_iconst_ (a := -1) rfl (by decide) ?_
    refine r_iret rfl rfl rfl ?_
    first | with_reducible exact fin_ri he | exact fin_ri he
  · rw [if_neg c_9] at he
    replace hk := hk.2 c_9
    refine r_iload_n rfl rfl ?_
    refine r_iconst_ (a := 0) rfl (by decide) ?_
    refine r_iconst_ (a := 1) rfl (by decide) ?_
    obtain ⟨hb1, hk⟩ := hk
    refine r_callS0 [_, _, _] _ rfl kY_X12_in kT_X12_in rfl rfl (Nat.le_of_ble_eq_true rfl) (Nat.le_of_ble_eq_true rfl) (s_X12_in hb1) (fun r h q => ?_)
    obtain ⟨rfl, rfl⟩ := q
    simp only [Option.toList, List.cons_append, List.nil_append]
    refine r_if_ne rfl (fun c_18 => ?_) (fun c_18 => ?_)
    · rw [if_neg c_18] at he
      replace hk := hk.2 c_18
      refine r_aload_n rfl rfl ?_
      refine r_iload_n rfl rfl ?_
      obtain ⟨hb2, hk⟩ := hk
      refine q_callV0 [_] _ rfl kY_X12_writtenBits kT_X12_writtenBits rfl rfl (Nat.le_of_ble_eq_true rfl) (Nat.le_of_ble_eq_true rfl) (cc_60 _) (s_X12_writtenBits hb2) (fun r h q => ?_)
      obtain ⟨rfl, rfl⟩ := q
      simp only [Option.toList, List.cons_append, List.nil_append]
      refine r_istore_n rfl (Nat.le_of_ble_eq_true rfl) rfl ?_
      refine r_iload_n rfl rfl ?_
      refine r_if_ne rfl (fun c_30 => ?_) (fun c_30 => ?_)
      · rw [if_neg c_30] at he
        replace hk := hk.2 c_30
        refine r_iload_n rfl rfl ?_
        refine r_iret rfl rfl rfl ?_
        first | with_reducible exact fin_ri he | exact fin_ri he
      · rw [if_pos c_30] at he
        replace hk := hk.1 c_30
        refine r_iload_n rfl rfl ?_
        obtain ⟨hb3, hk⟩ := hk
        refine r_callS0 [_] _ rfl kY_X12_bits kT_X12_bits rfl rfl (Nat.le_of_ble_eq_true rfl) (Nat.le_of_ble_eq_true rfl) (s_X12_bits hb3) (fun r h q => ?_)
        obtain ⟨rfl, rfl⟩ := q
        simp only [Option.toList, List.cons_append, List.nil_append]
        refine r_goto rfl ?_
        refine r_iret rfl rfl rfl ?_
        first | with_reducible exact fin_ri he | exact fin_ri he
    · rw [if_pos c_18] at he
      replace hk := hk.1 c_18
      refine r_iconst_ (a := -1) rfl (by decide) ?_
      refine r_iret rfl rfl rfl ?_
      first | with_reducible exact fin_ri he | exact fin_ri he

def f_X0_makes_4 (fu : Nat) : Nat → Int32 → Int32 → Nat → fl_I → fl_L → Int32 × fl_I × fl_L
  | 0, x2, x3, t, s, l => (0, s, l)
  | n + 1, x2, x3, t, s, l =>
    if ((s t 1) ≤ x3) then (x2, s, l) else if ((f_X0_lacks fu (l (t + 2) x3.toNatClampNeg) s l).1 = 0) then f_X0_makes_4 fu n (x2 ||| ((1 : Int32) <<< (x3 &&& 31))) (x3 + 1) t (f_X0_lacks fu (l (t + 2) x3.toNatClampNeg) s l).2.1 (f_X0_lacks fu (l (t + 2) x3.toNatClampNeg) s l).2.2 else f_X0_makes_4 fu n x2 (x3 + 1) t (f_X0_lacks fu (l (t + 2) x3.toNatClampNeg) s l).2.1 (f_X0_lacks fu (l (t + 2) x3.toNatClampNeg) s l).2.2

def p_X0_makes_4 (fu : Nat) : Nat → Int32 → Int32 → Nat → fl_I → fl_L → Prop
  | 0, _, _, _, _, _ => False
  | n + 1, x2, x3, t, s, l =>
    ((((s t 1) ≤ x3) → True) ∧ (¬ ((s t 1) ≤ x3) → (vp_in x3 8) ∧ (p_X0_lacks fu (l (t + 2) x3.toNatClampNeg) s l) ∧ ((((f_X0_lacks fu (l (t + 2) x3.toNatClampNeg) s l).1 = 0) → p_X0_makes_4 fu n (x2 ||| ((1 : Int32) <<< (x3 &&& 31))) (x3 + 1) t (f_X0_lacks fu (l (t + 2) x3.toNatClampNeg) s l).2.1 (f_X0_lacks fu (l (t + 2) x3.toNatClampNeg) s l).2.2) ∧ (¬ ((f_X0_lacks fu (l (t + 2) x3.toNatClampNeg) s l).1 = 0) → p_X0_makes_4 fu n x2 (x3 + 1) t (f_X0_lacks fu (l (t + 2) x3.toNatClampNeg) s l).2.1 (f_X0_lacks fu (l (t + 2) x3.toNatClampNeg) s l).2.2))))

set_option maxRecDepth 100000 in
set_option maxHeartbeats 1000000 in
theorem lp_X0_makes_4 {G : ab_G} {fu : Nat} {d : Nat} {D : fl_D} {t : Nat} (htt : isT t) : ∀ (n : Nat) (x2 : Int32) (x3 : Int32) (s : fl_I) (l : fl_L), p_X0_makes_4 fu n x2 x3 t s l → ab_C G (d + 4) 0 0 M_X0_makes 4 [some (.ref 55), some (.ref t), some (.int x2), some (.int x3)] [] (hp D s l) (rt (some (.int (f_X0_makes_4 fu n x2 x3 t s l).1)) (hp D (f_X0_makes_4 fu n x2 x3 t s l).2.1 (f_X0_makes_4 fu n x2 x3 t s l).2.2)) := by
  intro n
  induction n with
  | zero => intro x2 x3 s l hk; exact hk.elim
  | succ n ih =>
    intro x2 x3 s l hk
    generalize he : f_X0_makes_4 fu (n + 1) x2 x3 t s l = res
    unfold f_X0_makes_4 at he
    unfold p_X0_makes_4 at hk
    refine r_iload_n rfl rfl ?_
    refine r_aload_n rfl rfl ?_
    refine q_getfield rfl (cT_0 htt) rfl ?_
    refine r_icmp_ge rfl (fun c_9 => ?_) (fun c_9 => ?_)
    · rw [if_pos c_9] at he
      replace hk := hk.1 c_9
      refine r_iload_n rfl rfl ?_
      refine r_iret rfl rfl rfl ?_
      first | with_reducible exact fin_i he | exact fin_i he
    · rw [if_neg c_9] at he
      replace hk := hk.2 c_9
      refine r_aload_n rfl rfl ?_
      refine r_aload_n rfl rfl ?_
      refine q_getfield rfl (cT_0 htt) rfl ?_
      refine r_iload_n rfl rfl ?_
      obtain ⟨hb0, hk⟩ := hk
      refine q_lald rfl (cT_2 htt) hb0 ?_
      obtain ⟨hb1, hk⟩ := hk
      refine q_callV0 [_] _ rfl kY_X0_lacks kT_X0_lacks rfl rfl (Nat.le_of_ble_eq_true rfl) (Nat.le_of_ble_eq_true rfl) (cc_55 _) (s_X0_lacks hb1) (fun r h q => ?_)
      obtain ⟨rfl, rfl⟩ := q
      simp only [Option.toList, List.cons_append, List.nil_append]
      refine r_if_ne rfl (fun c_22 => ?_) (fun c_22 => ?_)
      · rw [if_neg c_22] at he
        replace hk := hk.2 c_22
        refine r_iinc (b := x3 + 1) rfl rfl rfl (Nat.le_of_ble_eq_true rfl) rfl ?_
        refine r_goto rfl ?_
        subst he
        exact r_weak (L1 := [some (.ref 55), some (.ref t), some (.int x2), some (.int (x3 + 1))]) ⟨rfl, rfl, rfl, rfl, trivial⟩ (ih _ _ _ _ hk)
      · rw [if_pos c_22] at he
        replace hk := hk.1 c_22
        refine r_iload_n rfl rfl ?_
        refine r_iconst_ (a := 1) rfl (by decide) ?_
        refine r_iload_n rfl rfl ?_
        refine r_ishl rfl ?_
        refine r_ior rfl ?_
        refine r_istore_n rfl (Nat.le_of_ble_eq_true rfl) rfl ?_
        refine r_iinc (b := x3 + 1) rfl rfl rfl (Nat.le_of_ble_eq_true rfl) rfl ?_
        refine r_goto rfl ?_
        subst he
        exact r_weak (L1 := [some (.ref 55), some (.ref t), some (.int (x2 ||| ((1 : Int32) <<< (x3 &&& 31)))), some (.int (x3 + 1))]) ⟨rfl, rfl, rfl, rfl, trivial⟩ (ih _ _ _ _ hk)

def f_X0_makes (fu : Nat) (t : Nat) (s : fl_I) (l : fl_L) : Int32 × fl_I × fl_L :=
  f_X0_makes_4 fu fu (0 : Int32) (0 : Int32) t s l

def p_X0_makes (fu : Nat) (t : Nat) (s : fl_I) (l : fl_L) : Prop :=
  p_X0_makes_4 fu fu (0 : Int32) (0 : Int32) t s l

set_option maxRecDepth 100000 in
set_option maxHeartbeats 1000000 in
theorem s_X0_makes {G : ab_G} {fu : Nat} {d : Nat} {D : fl_D} {s : fl_I} {l : fl_L} {t : Nat} (htt : isT t)  (hk : p_X0_makes fu t s l) : ab_C G (d + 4) 0 0 M_X0_makes 0 (ab_ent [.ref 55, .ref t]) [] (hp D s l) (rt (some (.int (f_X0_makes fu t s l).1)) (hp D (f_X0_makes fu t s l).2.1 (f_X0_makes fu t s l).2.2)) := by
  generalize he : (f_X0_makes fu t s l) = res
  unfold f_X0_makes at he
  unfold p_X0_makes at hk
  refine r_weak (L1 := [some (.ref 55), some (.ref t), none, none]) ⟨rfl, rfl, trivial⟩ ?_
  refine r_iconst_ (a := 0) rfl (by decide) ?_
  refine r_istore_n rfl (Nat.le_of_ble_eq_true rfl) rfl ?_
  refine r_iconst_ (a := 0) rfl (by decide) ?_
  refine r_istore_n rfl (Nat.le_of_ble_eq_true rfl) rfl ?_
  subst he
  exact r_weak (L1 := [some (.ref 55), some (.ref t), some (.int (0 : Int32)), some (.int (0 : Int32))]) ⟨rfl, rfl, rfl, rfl, trivial⟩ (lp_X0_makes_4 htt fu _ _ _ _ hk)

def f_X0_mostAtOnce_4 (fu : Nat) : Nat → Int32 → Int32 → Nat → fl_I → fl_L → Int32 × fl_I × fl_L
  | 0, x2, x3, t, s, l => (0, s, l)
  | n + 1, x2, x3, t, s, l =>
    if (((1 : Int32) <<< ((s t 1) &&& 31)) ≤ x3) then (x2, s, l) else if ((f_J6_bitCount_0f7a4 fu x3) ≤ (f_J6_bitCount_0f7a4 fu x2)) then f_X0_mostAtOnce_4 fu n x2 (x3 + 1) t s l else if ((f_X0_makesAtOnce fu x3 t s l).1 = 0) then f_X0_mostAtOnce_4 fu n x2 (x3 + 1) t (f_X0_makesAtOnce fu x3 t s l).2.1 (f_X0_makesAtOnce fu x3 t s l).2.2 else f_X0_mostAtOnce_4 fu n x3 (x3 + 1) t (f_X0_makesAtOnce fu x3 t s l).2.1 (f_X0_makesAtOnce fu x3 t s l).2.2

def p_X0_mostAtOnce_4 (fu : Nat) : Nat → Int32 → Int32 → Nat → fl_I → fl_L → Prop
  | 0, _, _, _, _, _ => False
  | n + 1, x2, x3, t, s, l =>
    (((((1 : Int32) <<< ((s t 1) &&& 31)) ≤ x3) → True) ∧ (¬ (((1 : Int32) <<< ((s t 1) &&& 31)) ≤ x3) → (p_J6_bitCount_0f7a4 fu x3) ∧ (p_J6_bitCount_0f7a4 fu x2) ∧ ((((f_J6_bitCount_0f7a4 fu x3) ≤ (f_J6_bitCount_0f7a4 fu x2)) → p_X0_mostAtOnce_4 fu n x2 (x3 + 1) t s l) ∧ (¬ ((f_J6_bitCount_0f7a4 fu x3) ≤ (f_J6_bitCount_0f7a4 fu x2)) → (p_X0_makesAtOnce fu x3 t s l) ∧ ((((f_X0_makesAtOnce fu x3 t s l).1 = 0) → p_X0_mostAtOnce_4 fu n x2 (x3 + 1) t (f_X0_makesAtOnce fu x3 t s l).2.1 (f_X0_makesAtOnce fu x3 t s l).2.2) ∧ (¬ ((f_X0_makesAtOnce fu x3 t s l).1 = 0) → p_X0_mostAtOnce_4 fu n x3 (x3 + 1) t (f_X0_makesAtOnce fu x3 t s l).2.1 (f_X0_makesAtOnce fu x3 t s l).2.2))))))

set_option maxRecDepth 100000 in
set_option maxHeartbeats 1000000 in
theorem lp_X0_mostAtOnce_4 {G : ab_G} {fu : Nat} {d : Nat} {D : fl_D} {t : Nat} (htt : isT t) : ∀ (n : Nat) (x2 : Int32) (x3 : Int32) (s : fl_I) (l : fl_L), p_X0_mostAtOnce_4 fu n x2 x3 t s l → ab_C G (d + 4) 0 0 M_X0_mostAtOnce 4 [some (.ref 55), some (.ref t), some (.int x2), some (.int x3)] [] (hp D s l) (rt (some (.int (f_X0_mostAtOnce_4 fu n x2 x3 t s l).1)) (hp D (f_X0_mostAtOnce_4 fu n x2 x3 t s l).2.1 (f_X0_mostAtOnce_4 fu n x2 x3 t s l).2.2)) := by
  intro n
  induction n with
  | zero => intro x2 x3 s l hk; exact hk.elim
  | succ n ih =>
    intro x2 x3 s l hk
    generalize he : f_X0_mostAtOnce_4 fu (n + 1) x2 x3 t s l = res
    unfold f_X0_mostAtOnce_4 at he
    unfold p_X0_mostAtOnce_4 at hk
    refine r_iload_n rfl rfl ?_
    refine r_iconst_ (a := 1) rfl (by decide) ?_
    refine r_aload_n rfl rfl ?_
    refine q_getfield rfl (cT_0 htt) rfl ?_
    refine r_ishl rfl ?_
    refine r_icmp_ge rfl (fun c_11 => ?_) (fun c_11 => ?_)
    · rw [if_pos c_11] at he
      replace hk := hk.1 c_11
      refine r_iload_n rfl rfl ?_
      refine r_iret rfl rfl rfl ?_
      first | with_reducible exact fin_i he | exact fin_i he
    · rw [if_neg c_11] at he
      replace hk := hk.2 c_11
      refine r_iload_n rfl rfl ?_
      obtain ⟨hb0, hk⟩ := hk
      refine r_callS0 [_] _ rfl kY_J6_bitCount_0f7a4 kT_J6_bitCount_0f7a4 rfl rfl (Nat.le_of_ble_eq_true rfl) (Nat.le_of_ble_eq_true rfl) (s_J6_bitCount_0f7a4 hb0) (fun r h q => ?_)
      obtain ⟨rfl, rfl⟩ := q
      simp only [Option.toList, List.cons_append, List.nil_append]
      refine r_iload_n rfl rfl ?_
      obtain ⟨hb1, hk⟩ := hk
      refine r_callS0 [_] _ rfl kY_J6_bitCount_0f7a4 kT_J6_bitCount_0f7a4 rfl rfl (Nat.le_of_ble_eq_true rfl) (Nat.le_of_ble_eq_true rfl) (s_J6_bitCount_0f7a4 hb1) (fun r h q => ?_)
      obtain ⟨rfl, rfl⟩ := q
      simp only [Option.toList, List.cons_append, List.nil_append]
      refine r_icmp_le rfl (fun c_22 => ?_) (fun c_22 => ?_)
      · rw [if_pos c_22] at he
        replace hk := hk.1 c_22
        refine r_iinc (b := x3 + 1) rfl rfl rfl (Nat.le_of_ble_eq_true rfl) rfl ?_
        refine r_goto rfl ?_
        subst he
        exact r_weak (L1 := [some (.ref 55), some (.ref t), some (.int x2), some (.int (x3 + 1))]) ⟨rfl, rfl, rfl, rfl, trivial⟩ (ih _ _ _ _ hk)
      · rw [if_neg c_22] at he
        replace hk := hk.2 c_22
        refine r_aload_n rfl rfl ?_
        refine r_aload_n rfl rfl ?_
        refine r_iload_n rfl rfl ?_
        obtain ⟨hb2, hk⟩ := hk
        refine q_callV0 [_, _] _ rfl kY_X0_makesAtOnce kT_X0_makesAtOnce rfl rfl (Nat.le_of_ble_eq_true rfl) (Nat.le_of_ble_eq_true rfl) (cc_55 _) (s_X0_makesAtOnce htt hb2) (fun r h q => ?_)
        obtain ⟨rfl, rfl⟩ := q
        simp only [Option.toList, List.cons_append, List.nil_append]
        refine r_if_eq rfl (fun c_31 => ?_) (fun c_31 => ?_)
        · rw [if_pos c_31] at he
          replace hk := hk.1 c_31
          refine r_iinc (b := x3 + 1) rfl rfl rfl (Nat.le_of_ble_eq_true rfl) rfl ?_
          refine r_goto rfl ?_
          subst he
          exact r_weak (L1 := [some (.ref 55), some (.ref t), some (.int x2), some (.int (x3 + 1))]) ⟨rfl, rfl, rfl, rfl, trivial⟩ (ih _ _ _ _ hk)
        · rw [if_neg c_31] at he
          replace hk := hk.2 c_31
          refine r_iload_n rfl rfl ?_
          refine r_istore_n rfl (Nat.le_of_ble_eq_true rfl) rfl ?_
          refine r_iinc (b := x3 + 1) rfl rfl rfl (Nat.le_of_ble_eq_true rfl) rfl ?_
          refine r_goto rfl ?_
          subst he
          exact r_weak (L1 := [some (.ref 55), some (.ref t), some (.int x3), some (.int (x3 + 1))]) ⟨rfl, rfl, rfl, rfl, trivial⟩ (ih _ _ _ _ hk)

def f_X0_mostAtOnce (fu : Nat) (t : Nat) (s : fl_I) (l : fl_L) : Int32 × fl_I × fl_L :=
  f_X0_mostAtOnce_4 fu fu (0 : Int32) (1 : Int32) t s l

def p_X0_mostAtOnce (fu : Nat) (t : Nat) (s : fl_I) (l : fl_L) : Prop :=
  p_X0_mostAtOnce_4 fu fu (0 : Int32) (1 : Int32) t s l

set_option maxRecDepth 100000 in
set_option maxHeartbeats 1000000 in
theorem s_X0_mostAtOnce {G : ab_G} {fu : Nat} {d : Nat} {D : fl_D} {s : fl_I} {l : fl_L} {t : Nat} (htt : isT t)  (hk : p_X0_mostAtOnce fu t s l) : ab_C G (d + 4) 0 0 M_X0_mostAtOnce 0 (ab_ent [.ref 55, .ref t]) [] (hp D s l) (rt (some (.int (f_X0_mostAtOnce fu t s l).1)) (hp D (f_X0_mostAtOnce fu t s l).2.1 (f_X0_mostAtOnce fu t s l).2.2)) := by
  generalize he : (f_X0_mostAtOnce fu t s l) = res
  unfold f_X0_mostAtOnce at he
  unfold p_X0_mostAtOnce at hk
  refine r_weak (L1 := [some (.ref 55), some (.ref t), none, none]) ⟨rfl, rfl, trivial⟩ ?_
  refine r_iconst_ (a := 0) rfl (by decide) ?_
  refine r_istore_n rfl (Nat.le_of_ble_eq_true rfl) rfl ?_
  refine r_iconst_ (a := 1) rfl (by decide) ?_
  refine r_istore_n rfl (Nat.le_of_ble_eq_true rfl) rfl ?_
  subst he
  exact r_weak (L1 := [some (.ref 55), some (.ref t), some (.int (0 : Int32)), some (.int (1 : Int32))]) ⟨rfl, rfl, rfl, rfl, trivial⟩ (lp_X0_mostAtOnce_4 htt fu _ _ _ _ hk)

def f_X7_left_5 (fu : Nat) : Nat → Int32 → Int32 → Int32 → Nat → fl_I → fl_L → Int32
  | 0, _, _, _, _, _, _ => 0
  | n + 1, x2, x3, x4, t, s, l =>
    if ((s t 1) ≤ x4) then x3 else if ((f_X7_agrees fu (l (t + 2) x4.toNatClampNeg) x2 s l) = 0) then f_X7_left_5 fu n x2 x3 (x4 + 1) t s l else f_X7_left_5 fu n x2 (x3 ||| ((1 : Int32) <<< (x4 &&& 31))) (x4 + 1) t s l

def p_X7_left_5 (fu : Nat) : Nat → Int32 → Int32 → Int32 → Nat → fl_I → fl_L → Prop
  | 0, _, _, _, _, _, _ => False
  | n + 1, x2, x3, x4, t, s, l =>
    ((((s t 1) ≤ x4) → True) ∧ (¬ ((s t 1) ≤ x4) → (vp_in x4 8) ∧ (p_X7_agrees fu (l (t + 2) x4.toNatClampNeg) x2 s l) ∧ ((((f_X7_agrees fu (l (t + 2) x4.toNatClampNeg) x2 s l) = 0) → p_X7_left_5 fu n x2 x3 (x4 + 1) t s l) ∧ (¬ ((f_X7_agrees fu (l (t + 2) x4.toNatClampNeg) x2 s l) = 0) → p_X7_left_5 fu n x2 (x3 ||| ((1 : Int32) <<< (x4 &&& 31))) (x4 + 1) t s l))))

set_option maxRecDepth 100000 in
set_option maxHeartbeats 1000000 in
theorem lp_X7_left_5 {G : ab_G} {fu : Nat} {d : Nat} {D : fl_D} {s : fl_I} {l : fl_L} {t : Nat} (htt : isT t) : ∀ (n : Nat) (x2 : Int32) (x3 : Int32) (x4 : Int32), p_X7_left_5 fu n x2 x3 x4 t s l → ab_C G (d + 3) 0 0 M_X7_left 5 [some (.ref 57), some (.ref t), some (.int x2), some (.int x3), some (.int x4)] [] (hp D s l) (rt (some (.int (f_X7_left_5 fu n x2 x3 x4 t s l))) (hp D s l)) := by
  intro n
  induction n with
  | zero => intro x2 x3 x4 hk; exact hk.elim
  | succ n ih =>
    intro x2 x3 x4 hk
    generalize he : f_X7_left_5 fu (n + 1) x2 x3 x4 t s l = res
    unfold f_X7_left_5 at he
    unfold p_X7_left_5 at hk
    refine r_iload rfl rfl ?_
    refine r_aload_n rfl rfl ?_
    refine q_getfield rfl (cT_0 htt) rfl ?_
    refine r_icmp_ge rfl (fun c_11 => ?_) (fun c_11 => ?_)
    · rw [if_pos c_11] at he
      replace hk := hk.1 c_11
      refine r_iload_n rfl rfl ?_
      refine r_iret rfl rfl rfl ?_
      first | with_reducible exact fin_ri he | exact fin_ri he
    · rw [if_neg c_11] at he
      replace hk := hk.2 c_11
      refine r_aload_n rfl rfl ?_
      refine r_aload_n rfl rfl ?_
      refine q_getfield rfl (cT_0 htt) rfl ?_
      refine r_iload rfl rfl ?_
      obtain ⟨hb0, hk⟩ := hk
      refine q_lald rfl (cT_2 htt) hb0 ?_
      refine r_iload_n rfl rfl ?_
      obtain ⟨hb1, hk⟩ := hk
      refine q_callV0 [_, _] _ rfl kY_X7_agrees kT_X7_agrees rfl rfl (Nat.le_of_ble_eq_true rfl) (Nat.le_of_ble_eq_true rfl) (cc_57 _) (s_X7_agrees hb1) (fun r h q => ?_)
      obtain ⟨rfl, rfl⟩ := q
      simp only [Option.toList, List.cons_append, List.nil_append]
      refine r_if_eq rfl (fun c_26 => ?_) (fun c_26 => ?_)
      · rw [if_pos c_26] at he
        replace hk := hk.1 c_26
        refine r_iinc (b := x4 + 1) rfl rfl rfl (Nat.le_of_ble_eq_true rfl) rfl ?_
        refine r_goto rfl ?_
        subst he
        exact r_weak (L1 := [some (.ref 57), some (.ref t), some (.int x2), some (.int x3), some (.int (x4 + 1))]) ⟨rfl, rfl, rfl, rfl, rfl, trivial⟩ (ih _ _ _ hk)
      · rw [if_neg c_26] at he
        replace hk := hk.2 c_26
        refine r_iload_n rfl rfl ?_
        refine r_iconst_ (a := 1) rfl (by decide) ?_
        refine r_iload rfl rfl ?_
        refine r_ishl rfl ?_
        refine r_ior rfl ?_
        refine r_istore_n rfl (Nat.le_of_ble_eq_true rfl) rfl ?_
        refine r_iinc (b := x4 + 1) rfl rfl rfl (Nat.le_of_ble_eq_true rfl) rfl ?_
        refine r_goto rfl ?_
        subst he
        exact r_weak (L1 := [some (.ref 57), some (.ref t), some (.int x2), some (.int (x3 ||| ((1 : Int32) <<< (x4 &&& 31)))), some (.int (x4 + 1))]) ⟨rfl, rfl, rfl, rfl, rfl, trivial⟩ (ih _ _ _ hk)

def f_X7_left (fu : Nat) (v1 : Int32) (t : Nat) (s : fl_I) (l : fl_L) : Int32 :=
  f_X7_left_5 fu fu v1 (0 : Int32) (0 : Int32) t s l

def p_X7_left (fu : Nat) (v1 : Int32) (t : Nat) (s : fl_I) (l : fl_L) : Prop :=
  p_X7_left_5 fu fu v1 (0 : Int32) (0 : Int32) t s l

set_option maxRecDepth 100000 in
set_option maxHeartbeats 1000000 in
theorem s_X7_left {G : ab_G} {fu : Nat} {d : Nat} {D : fl_D} {s : fl_I} {l : fl_L} {t : Nat} (htt : isT t) {v1 : Int32} (hk : p_X7_left fu v1 t s l) : ab_C G (d + 3) 0 0 M_X7_left 0 (ab_ent [.ref 57, .ref t, .int v1]) [] (hp D s l) (rt (some (.int (f_X7_left fu v1 t s l))) (hp D s l)) := by
  generalize he : (f_X7_left fu v1 t s l) = res
  unfold f_X7_left at he
  unfold p_X7_left at hk
  refine r_weak (L1 := [some (.ref 57), some (.ref t), some (.int v1), none, none]) ⟨rfl, rfl, rfl, trivial⟩ ?_
  refine r_iconst_ (a := 0) rfl (by decide) ?_
  refine r_istore_n rfl (Nat.le_of_ble_eq_true rfl) rfl ?_
  refine r_iconst_ (a := 0) rfl (by decide) ?_
  refine r_istore rfl (Nat.le_of_ble_eq_true rfl) rfl ?_
  subst he
  exact r_weak (L1 := [some (.ref 57), some (.ref t), some (.int v1), some (.int (0 : Int32)), some (.int (0 : Int32))]) ⟨rfl, rfl, rfl, rfl, rfl, trivial⟩ (lp_X7_left_5 htt fu _ _ _ hk)

def f_X9_owed_6 (fu : Nat) : Nat → Int32 → Int32 → Int32 → Nat → Nat → fl_I → fl_L → Int32 × fl_I × fl_L
  | 0, x3, x4, x5, t, a, s, l => (0, s, l)
  | n + 1, x3, x4, x5, t, a, s, l =>
    if ((s a 1) ≤ x5) then (x4, s, l) else if ((f_X10_holder fu x5 a s l) = x3) then f_X9_owed_6 fu n x3 (x4 + (f_X11_money fu (f_X1_pays fu x3 x5 t a s l).1)) (x5 + 1) t a (f_X1_pays fu x3 x5 t a s l).2.1 (f_X1_pays fu x3 x5 t a s l).2.2 else f_X9_owed_6 fu n x3 x4 (x5 + 1) t a s l

def p_X9_owed_6 (fu : Nat) : Nat → Int32 → Int32 → Int32 → Nat → Nat → fl_I → fl_L → Prop
  | 0, _, _, _, _, _, _, _ => False
  | n + 1, x3, x4, x5, t, a, s, l =>
    ((((s a 1) ≤ x5) → True) ∧ (¬ ((s a 1) ≤ x5) → (p_X10_holder fu x5 a s l) ∧ ((((f_X10_holder fu x5 a s l) = x3) → (p_X1_pays fu x3 x5 t a s l) ∧ (p_X11_money fu (f_X1_pays fu x3 x5 t a s l).1) ∧ p_X9_owed_6 fu n x3 (x4 + (f_X11_money fu (f_X1_pays fu x3 x5 t a s l).1)) (x5 + 1) t a (f_X1_pays fu x3 x5 t a s l).2.1 (f_X1_pays fu x3 x5 t a s l).2.2) ∧ (¬ ((f_X10_holder fu x5 a s l) = x3) → p_X9_owed_6 fu n x3 x4 (x5 + 1) t a s l))))

set_option maxRecDepth 100000 in
set_option maxHeartbeats 1000000 in
theorem lp_X9_owed_6 {G : ab_G} {fu : Nat} {d : Nat} {D : fl_D} {t : Nat} (htt : isT t) {a : Nat} (hya : isY D a) : ∀ (n : Nat) (x3 : Int32) (x4 : Int32) (x5 : Int32) (s : fl_I) (l : fl_L), p_X9_owed_6 fu n x3 x4 x5 t a s l → ab_C G (d + 3) 0 0 M_X9_owed 6 [some (.ref 46), some (.ref t), some (.ref a), some (.int x3), some (.int x4), some (.int x5)] [] (hp D s l) (rt (some (.int (f_X9_owed_6 fu n x3 x4 x5 t a s l).1)) (hp D (f_X9_owed_6 fu n x3 x4 x5 t a s l).2.1 (f_X9_owed_6 fu n x3 x4 x5 t a s l).2.2)) := by
  intro n
  induction n with
  | zero => intro x3 x4 x5 s l hk; exact hk.elim
  | succ n ih =>
    intro x3 x4 x5 s l hk
    generalize he : f_X9_owed_6 fu (n + 1) x3 x4 x5 t a s l = res
    unfold f_X9_owed_6 at he
    unfold p_X9_owed_6 at hk
    refine r_iload rfl rfl ?_
    refine r_aload_n rfl rfl ?_
    refine q_getfield rfl (cY_0 hya) rfl ?_
    refine r_icmp_ge rfl (fun c_12 => ?_) (fun c_12 => ?_)
    · rw [if_pos c_12] at he
      replace hk := hk.1 c_12
      refine r_iload rfl rfl ?_
      refine r_iret rfl rfl rfl ?_
      first | with_reducible exact fin_i he | exact fin_i he
    · rw [if_neg c_12] at he
      replace hk := hk.2 c_12
      refine r_aload_n rfl rfl ?_
      refine r_iload rfl rfl ?_
      obtain ⟨hb0, hk⟩ := hk
      refine q_callV0 [_] _ rfl kY_X10_holder kT_X10_holder rfl rfl (Nat.le_of_ble_eq_true rfl) (Nat.le_of_ble_eq_true rfl) (cY_0 hya) (s_X10_holder hya hb0) (fun r h q => ?_)
      obtain ⟨rfl, rfl⟩ := q
      simp only [Option.toList, List.cons_append, List.nil_append]
      refine r_iload_n rfl rfl ?_
      refine r_icmp_ne rfl (fun c_22 => ?_) (fun c_22 => ?_)
      · rw [if_neg c_22] at he
        replace hk := hk.2 c_22
        refine r_iinc (b := x5 + 1) rfl rfl rfl (Nat.le_of_ble_eq_true rfl) rfl ?_
        refine r_goto rfl ?_
        subst he
        exact r_weak (L1 := [some (.ref 46), some (.ref t), some (.ref a), some (.int x3), some (.int x4), some (.int (x5 + 1))]) ⟨rfl, rfl, rfl, rfl, rfl, rfl, trivial⟩ (ih _ _ _ _ _ hk)
      · rw [if_pos c_22] at he
        replace hk := hk.1 c_22
        refine r_iload rfl rfl ?_
        refine r_aload_n rfl rfl ?_
        refine q_getfield rfl (cc_46 _) rfl ?_
        refine r_aload_n rfl rfl ?_
        refine r_aload_n rfl rfl ?_
        refine r_iload_n rfl rfl ?_
        refine r_iload rfl rfl ?_
        obtain ⟨hb1, hk⟩ := hk
        refine q_callV0 [_, _, _, _] _ rfl kY_X1_pays kT_X1_pays rfl rfl (Nat.le_of_ble_eq_true rfl) (Nat.le_of_ble_eq_true rfl) (cc_47 _) (s_X1_pays htt hya hb1) (fun r h q => ?_)
        obtain ⟨rfl, rfl⟩ := q
        simp only [Option.toList, List.cons_append, List.nil_append]
        obtain ⟨hb2, hk⟩ := hk
        refine r_callSN0 [_] _ rfl kY_X11_money kT_X11_money rfl rfl (Nat.le_of_ble_eq_true rfl) (Nat.le_of_ble_eq_true rfl) (s_X11_money hb2) (fun r h q => ?_)
        obtain ⟨rfl, rfl⟩ := q
        simp only [Option.toList, List.cons_append, List.nil_append]
        refine r_iadd rfl ?_
        refine r_istore rfl (Nat.le_of_ble_eq_true rfl) rfl ?_
        refine r_iinc (b := x5 + 1) rfl rfl rfl (Nat.le_of_ble_eq_true rfl) rfl ?_
        refine r_goto rfl ?_
        subst he
        exact r_weak (L1 := [some (.ref 46), some (.ref t), some (.ref a), some (.int x3), some (.int (x4 + (f_X11_money fu (f_X1_pays fu x3 x5 t a s l).1))), some (.int (x5 + 1))]) ⟨rfl, rfl, rfl, rfl, rfl, rfl, trivial⟩ (ih _ _ _ _ _ hk)

def f_X9_owed (fu : Nat) (v2 : Int32) (t : Nat) (a : Nat) (s : fl_I) (l : fl_L) : Int32 × fl_I × fl_L :=
  f_X9_owed_6 fu fu v2 (0 : Int32) (0 : Int32) t a s l

def p_X9_owed (fu : Nat) (v2 : Int32) (t : Nat) (a : Nat) (s : fl_I) (l : fl_L) : Prop :=
  p_X9_owed_6 fu fu v2 (0 : Int32) (0 : Int32) t a s l

set_option maxRecDepth 100000 in
set_option maxHeartbeats 1000000 in
theorem s_X9_owed {G : ab_G} {fu : Nat} {d : Nat} {D : fl_D} {s : fl_I} {l : fl_L} {t : Nat} (htt : isT t) {a : Nat} (hya : isY D a) {v2 : Int32} (hk : p_X9_owed fu v2 t a s l) : ab_C G (d + 3) 0 0 M_X9_owed 0 (ab_ent [.ref 46, .ref t, .ref a, .int v2]) [] (hp D s l) (rt (some (.int (f_X9_owed fu v2 t a s l).1)) (hp D (f_X9_owed fu v2 t a s l).2.1 (f_X9_owed fu v2 t a s l).2.2)) := by
  generalize he : (f_X9_owed fu v2 t a s l) = res
  unfold f_X9_owed at he
  unfold p_X9_owed at hk
  refine r_weak (L1 := [some (.ref 46), some (.ref t), some (.ref a), some (.int v2), none, none]) ⟨rfl, rfl, rfl, rfl, trivial⟩ ?_
  refine r_iconst_ (a := 0) rfl (by decide) ?_
  refine r_istore rfl (Nat.le_of_ble_eq_true rfl) rfl ?_
  refine r_iconst_ (a := 0) rfl (by decide) ?_
  refine r_istore rfl (Nat.le_of_ble_eq_true rfl) rfl ?_
  subst he
  exact r_weak (L1 := [some (.ref 46), some (.ref t), some (.ref a), some (.int v2), some (.int (0 : Int32)), some (.int (0 : Int32))]) ⟨rfl, rfl, rfl, rfl, rfl, rfl, trivial⟩ (lp_X9_owed_6 htt hya fu _ _ _ _ _ hk)

