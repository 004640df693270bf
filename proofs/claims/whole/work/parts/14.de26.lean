def f_X9_blow_10 (fu : Nat) : Nat → Int32 → Nat → Nat → fl_I → fl_L → fl_I × fl_L
  | 0, x3, t, a, s, l => (s, l)
  | n + 1, x3, t, a, s, l =>
    if ((s a 1) ≤ x3) then (s, l) else if ((s (a + 1) x3.toNatClampNeg) < (80 : Int32)) then if ((f_X1_ofPiece fu (0 : Int32) x3 (s 50 (s (a + 1) x3.toNatClampNeg).toNatClampNeg) t a s l).1 ≤ 0) then f_X9_blow_10 fu n (x3 + 1) t a (wi (f_X1_ofPiece fu (0 : Int32) x3 (s 50 (s (a + 1) x3.toNatClampNeg).toNatClampNeg) t a s l).2.1 (a + 2) x3.toNatClampNeg (i_min (999 : Int32) (((f_X1_ofPiece fu (0 : Int32) x3 (s 50 (s (a + 1) x3.toNatClampNeg).toNatClampNeg) t a s l).2.1 (a + 2) x3.toNatClampNeg) + (1 : Int32)))) (f_X1_ofPiece fu (0 : Int32) x3 (s 50 (s (a + 1) x3.toNatClampNeg).toNatClampNeg) t a s l).2.2 else f_X9_blow_10 fu n (x3 + 1) t a (wi (wi (f_X1_ofPiece fu (0 : Int32) x3 (s 50 (s (a + 1) x3.toNatClampNeg).toNatClampNeg) t a s l).2.1 (a + 1) x3.toNatClampNeg (((10 : Int32) * (f_X11_held fu (((s (a + 1) x3.toNatClampNeg) / (10 : Int32)) + ((f_X1_ofPiece fu (0 : Int32) x3 (s 50 (s (a + 1) x3.toNatClampNeg).toNatClampNeg) t a s l).2.1 t 16)) (7 : Int32))) + (f_X11_held fu (((s (a + 1) x3.toNatClampNeg) - (s (a + 1) x3.toNatClampNeg) / (10 : Int32) * (10 : Int32)) + ((f_X1_ofPiece fu (0 : Int32) x3 (s 50 (s (a + 1) x3.toNatClampNeg).toNatClampNeg) t a s l).2.1 t 15)) (9 : Int32)))) (a + 2) x3.toNatClampNeg (0 : Int32)) (f_X1_ofPiece fu (0 : Int32) x3 (s 50 (s (a + 1) x3.toNatClampNeg).toNatClampNeg) t a s l).2.2 else f_X9_blow_10 fu n (x3 + 1) t a s l

def p_X9_blow_10 (fu : Nat) : Nat → Int32 → Nat → Nat → fl_I → fl_L → Prop
  | 0, _, _, _, _, _ => False
  | n + 1, x3, t, a, s, l =>
    ((((s a 1) ≤ x3) → True) ∧ (¬ ((s a 1) ≤ x3) → (vp_in x3 32) ∧ ((((s (a + 1) x3.toNatClampNeg) < (80 : Int32)) → (vp_in (s (a + 1) x3.toNatClampNeg) 80) ∧ (p_X1_ofPiece fu (0 : Int32) x3 (s 50 (s (a + 1) x3.toNatClampNeg).toNatClampNeg) t a s l) ∧ ((((f_X1_ofPiece fu (0 : Int32) x3 (s 50 (s (a + 1) x3.toNatClampNeg).toNatClampNeg) t a s l).1 ≤ 0) → (vp_in x3 32) ∧ (vp_in x3 32) ∧ p_X9_blow_10 fu n (x3 + 1) t a (wi (f_X1_ofPiece fu (0 : Int32) x3 (s 50 (s (a + 1) x3.toNatClampNeg).toNatClampNeg) t a s l).2.1 (a + 2) x3.toNatClampNeg (i_min (999 : Int32) (((f_X1_ofPiece fu (0 : Int32) x3 (s 50 (s (a + 1) x3.toNatClampNeg).toNatClampNeg) t a s l).2.1 (a + 2) x3.toNatClampNeg) + (1 : Int32)))) (f_X1_ofPiece fu (0 : Int32) x3 (s 50 (s (a + 1) x3.toNatClampNeg).toNatClampNeg) t a s l).2.2) ∧ (¬ ((f_X1_ofPiece fu (0 : Int32) x3 (s 50 (s (a + 1) x3.toNatClampNeg).toNatClampNeg) t a s l).1 ≤ 0) → (p_X11_held fu (((s (a + 1) x3.toNatClampNeg) - (s (a + 1) x3.toNatClampNeg) / (10 : Int32) * (10 : Int32)) + ((f_X1_ofPiece fu (0 : Int32) x3 (s 50 (s (a + 1) x3.toNatClampNeg).toNatClampNeg) t a s l).2.1 t 15)) (9 : Int32)) ∧ (p_X11_held fu (((s (a + 1) x3.toNatClampNeg) / (10 : Int32)) + ((f_X1_ofPiece fu (0 : Int32) x3 (s 50 (s (a + 1) x3.toNatClampNeg).toNatClampNeg) t a s l).2.1 t 16)) (7 : Int32)) ∧ (vp_in x3 32) ∧ (vp_in x3 32) ∧ p_X9_blow_10 fu n (x3 + 1) t a (wi (wi (f_X1_ofPiece fu (0 : Int32) x3 (s 50 (s (a + 1) x3.toNatClampNeg).toNatClampNeg) t a s l).2.1 (a + 1) x3.toNatClampNeg (((10 : Int32) * (f_X11_held fu (((s (a + 1) x3.toNatClampNeg) / (10 : Int32)) + ((f_X1_ofPiece fu (0 : Int32) x3 (s 50 (s (a + 1) x3.toNatClampNeg).toNatClampNeg) t a s l).2.1 t 16)) (7 : Int32))) + (f_X11_held fu (((s (a + 1) x3.toNatClampNeg) - (s (a + 1) x3.toNatClampNeg) / (10 : Int32) * (10 : Int32)) + ((f_X1_ofPiece fu (0 : Int32) x3 (s 50 (s (a + 1) x3.toNatClampNeg).toNatClampNeg) t a s l).2.1 t 15)) (9 : Int32)))) (a + 2) x3.toNatClampNeg (0 : Int32)) (f_X1_ofPiece fu (0 : Int32) x3 (s 50 (s (a + 1) x3.toNatClampNeg).toNatClampNeg) t a s l).2.2))) ∧ (¬ ((s (a + 1) x3.toNatClampNeg) < (80 : Int32)) → p_X9_blow_10 fu n (x3 + 1) t a s l))))

set_option maxRecDepth 100000 in
set_option maxHeartbeats 1000000 in
theorem lp_X9_blow_10 {G : ab_G} {fu : Nat} {d : Nat} {D : fl_D} {t : Nat} (htt : isT t) {a : Nat} (hya : isY D a) : ∀ (n : Nat) (x3 : Int32) (s : fl_I) (l : fl_L), p_X9_blow_10 fu n x3 t a s l → ab_C G (d + 3) 0 0 M_X9_blow 10 [some (.ref 46), some (.ref t), some (.ref a), some (.int x3), none, none, none] [] (hp D s l) (rt none (hp D (f_X9_blow_10 fu n x3 t a s l).1 (f_X9_blow_10 fu n x3 t a s l).2)) := by
  intro n
  induction n with
  | zero => intro x3 s l hk; exact hk.elim
  | succ n ih =>
    intro x3 s l hk
    generalize he : f_X9_blow_10 fu (n + 1) x3 t a s l = res
    unfold f_X9_blow_10 at he
    unfold p_X9_blow_10 at hk
    refine r_iload_n rfl rfl ?_
    refine r_aload_n rfl rfl ?_
    refine q_getfield rfl (cY_0 hya) rfl ?_
    refine r_icmp_ge rfl (fun c_15 => ?_) (fun c_15 => ?_)
    · rw [if_pos c_15] at he
      replace hk := hk.1 c_15
      refine r_ret rfl rfl ?_
      first | with_reducible exact fin_v he | exact fin_v he
    · rw [if_neg c_15] at he
      replace hk := hk.2 c_15
      refine r_aload_n rfl rfl ?_
      refine q_getfield rfl (cY_0 hya) rfl ?_
      refine r_iload_n rfl rfl ?_
      obtain ⟨hb1, hk⟩ := hk
      refine q_iald rfl (cY_1 hya) hb1 ?_
      refine r_istore rfl (Nat.le_of_ble_eq_true rfl) rfl ?_
      refine r_iload rfl rfl ?_
      refine r_bipush_ (a := 80) rfl (by decide) ?_
      refine r_icmp_lt rfl (fun c_30 => ?_) (fun c_30 => ?_)
      · rw [if_pos c_30] at he
        replace hk := hk.1 c_30
        refine r_aload_n rfl rfl ?_
        refine q_getfield rfl (cc_46 _) rfl ?_
        refine r_iconst_ (a := 0) rfl (by decide) ?_
        refine r_aload_n rfl rfl ?_
        refine r_aload_n rfl rfl ?_
        refine r_iload_n rfl rfl ?_
        refine r_aload_n rfl rfl ?_
        refine q_getfield rfl (cc_46 _) rfl ?_
        refine r_iload rfl rfl ?_
        obtain ⟨hb2, hk⟩ := hk
        refine q_iald rfl (cc_50 _) hb2 ?_
        obtain ⟨hb3, hk⟩ := hk
        refine q_callV0 [_, _, _, _, _] _ rfl kY_X1_ofPiece kT_X1_ofPiece rfl rfl (Nat.le_of_ble_eq_true rfl) (Nat.le_of_ble_eq_true rfl) (cc_47 _) (s_X1_ofPiece htt hya hb3) (fun r h q => ?_)
        obtain ⟨rfl, rfl⟩ := q
        simp only [Option.toList, List.cons_append, List.nil_append]
        refine r_if_le rfl (fun c_54 => ?_) (fun c_54 => ?_)
        · rw [if_pos c_54] at he
          replace hk := hk.1 c_54
          refine r_aload_n rfl rfl ?_
          refine q_getfield rfl (cY_0 hya) rfl ?_
          refine r_iload_n rfl rfl ?_
          refine r_sipush_ (a := 999) rfl (by decide) ?_
          refine r_aload_n rfl rfl ?_
          refine q_getfield rfl (cY_0 hya) rfl ?_
          refine r_iload_n rfl rfl ?_
          obtain ⟨hb4, hk⟩ := hk
          refine q_iald rfl (cY_2 hya) hb4 ?_
          refine r_iconst_ (a := 1) rfl (by decide) ?_
          refine r_iadd rfl ?_
          refine r_mmin rfl (Nat.le_of_ble_eq_true rfl) ?_
          obtain ⟨hb5, hk⟩ := hk
          refine w_iast rfl (cY_2 hya) hb5 ?_
          refine r_iinc (b := x3 + 1) rfl rfl rfl (Nat.le_of_ble_eq_true rfl) rfl ?_
          refine r_goto rfl ?_
          subst he
          exact r_weak (L1 := [some (.ref 46), some (.ref t), some (.ref a), some (.int (x3 + 1)), none, none, none]) ⟨rfl, rfl, rfl, rfl, trivial⟩ (ih _ _ _ hk)
        · rw [if_neg c_54] at he
          replace hk := hk.2 c_54
          refine r_iload rfl rfl ?_
          refine r_bipush_ (a := 10) rfl (by decide) ?_
          refine r_irem rfl (by decide) ?_
          refine r_aload_n rfl rfl ?_
          refine q_getfield rfl (cT_0 htt) rfl ?_
          refine r_iadd rfl ?_
          refine r_bipush_ (a := 9) rfl (by decide) ?_
          obtain ⟨hb6, hk⟩ := hk
          refine r_callSN0 [_, _] _ rfl kY_X11_held kT_X11_held rfl rfl (Nat.le_of_ble_eq_true rfl) (Nat.le_of_ble_eq_true rfl) (s_X11_held hb6) (fun r h q => ?_)
          obtain ⟨rfl, rfl⟩ := q
          simp only [Option.toList, List.cons_append, List.nil_append]
          refine r_istore rfl (Nat.le_of_ble_eq_true rfl) rfl ?_
          refine r_iload rfl rfl ?_
          refine r_bipush_ (a := 10) rfl (by decide) ?_
          refine r_idiv rfl (by decide) ?_
          refine r_aload_n rfl rfl ?_
          refine q_getfield rfl (cT_0 htt) rfl ?_
          refine r_iadd rfl ?_
          refine r_bipush_ (a := 7) rfl (by decide) ?_
          obtain ⟨hb7, hk⟩ := hk
          refine r_callSN0 [_, _] _ rfl kY_X11_held kT_X11_held rfl rfl (Nat.le_of_ble_eq_true rfl) (Nat.le_of_ble_eq_true rfl) (s_X11_held hb7) (fun r h q => ?_)
          obtain ⟨rfl, rfl⟩ := q
          simp only [Option.toList, List.cons_append, List.nil_append]
          refine r_istore rfl (Nat.le_of_ble_eq_true rfl) rfl ?_
          refine r_aload_n rfl rfl ?_
          refine q_getfield rfl (cY_0 hya) rfl ?_
          refine r_iload_n rfl rfl ?_
          refine r_bipush_ (a := 10) rfl (by decide) ?_
          refine r_iload rfl rfl ?_
          refine r_imul rfl ?_
          refine r_iload rfl rfl ?_
          refine r_iadd rfl ?_
          obtain ⟨hb8, hk⟩ := hk
          refine w_iast rfl (cY_1 hya) hb8 ?_
          refine r_aload_n rfl rfl ?_
          refine q_getfield rfl (cY_0 hya) rfl ?_
          refine r_iload_n rfl rfl ?_
          refine r_iconst_ (a := 0) rfl (by decide) ?_
          obtain ⟨hb9, hk⟩ := hk
          refine w_iast rfl (cY_2 hya) hb9 ?_
          refine r_goto rfl ?_
          refine r_iinc (b := x3 + 1) rfl rfl rfl (Nat.le_of_ble_eq_true rfl) rfl ?_
          refine r_goto rfl ?_
          subst he
          exact r_weak (L1 := [some (.ref 46), some (.ref t), some (.ref a), some (.int (x3 + 1)), none, none, none]) ⟨rfl, rfl, rfl, rfl, trivial⟩ (ih _ _ _ hk)
      · rw [if_neg c_30] at he
        replace hk := hk.2 c_30
        refine r_goto rfl ?_
        refine r_iinc (b := x3 + 1) rfl rfl rfl (Nat.le_of_ble_eq_true rfl) rfl ?_
        refine r_goto rfl ?_
        subst he
        exact r_weak (L1 := [some (.ref 46), some (.ref t), some (.ref a), some (.int (x3 + 1)), none, none, none]) ⟨rfl, rfl, rfl, rfl, trivial⟩ (ih _ _ _ hk)

def f_X9_blow (fu : Nat) (t : Nat) (a : Nat) (s : fl_I) (l : fl_L) : fl_I × fl_L :=
  f_X9_blow_10 fu fu (0 : Int32) t a (f_X10_countAll fu a 50 s l).1 (f_X10_countAll fu a 50 s l).2

def p_X9_blow (fu : Nat) (t : Nat) (a : Nat) (s : fl_I) (l : fl_L) : Prop :=
  (p_X10_countAll fu a 50 s l) ∧ p_X9_blow_10 fu fu (0 : Int32) t a (f_X10_countAll fu a 50 s l).1 (f_X10_countAll fu a 50 s l).2

set_option maxRecDepth 100000 in
set_option maxHeartbeats 1000000 in
theorem s_X9_blow {G : ab_G} {fu : Nat} {d : Nat} {D : fl_D} {s : fl_I} {l : fl_L} {t : Nat} (htt : isT t) {a : Nat} (hya : isY D a)  (hk : p_X9_blow fu t a s l) : ab_C G (d + 3) 0 0 M_X9_blow 0 (ab_ent [.ref 46, .ref t, .ref a]) [] (hp D s l) (rt none (hp D (f_X9_blow fu t a s l).1 (f_X9_blow fu t a s l).2)) := by
  generalize he : (f_X9_blow fu t a s l) = res
  unfold f_X9_blow at he
  unfold p_X9_blow at hk
  refine r_weak (L1 := [some (.ref 46), some (.ref t), some (.ref a), none, none, none, none]) ⟨rfl, rfl, rfl, trivial⟩ ?_
  refine r_aload_n rfl rfl ?_
  refine r_aload_n rfl rfl ?_
  refine q_getfield rfl (cc_46 _) rfl ?_
  obtain ⟨hb0, hk⟩ := hk
  refine q_callV0 [_] _ rfl kY_X10_countAll kT_X10_countAll rfl rfl (Nat.le_of_ble_eq_true rfl) (Nat.le_of_ble_eq_true rfl) (cY_0 hya) (s_X10_countAll hya (cc_50 _) hb0) (fun r h q => ?_)
  obtain ⟨rfl, rfl⟩ := q
  simp only [Option.toList, List.cons_append, List.nil_append]
  refine r_iconst_ (a := 0) rfl (by decide) ?_
  refine r_istore_n rfl (Nat.le_of_ble_eq_true rfl) rfl ?_
  subst he
  exact r_weak (L1 := [some (.ref 46), some (.ref t), some (.ref a), some (.int (0 : Int32)), none, none, none]) ⟨rfl, rfl, rfl, rfl, trivial⟩ (lp_X9_blow_10 htt hya fu _ _ _ hk)

def f_X12_lawTells_137 (fu : Nat) (y0 : Int32) (s : fl_I) (l : fl_L) : Int32 × fl_I × fl_L :=
    if ((s 60 49) = 0) then (y0, s, l) else ((0 : Int32), s, l)

def p_X12_lawTells_137 (fu : Nat) (y0 : Int32) (s : fl_I) (l : fl_L) : Prop :=
    ((((s 60 49) = 0) → True) ∧ (¬ ((s 60 49) = 0) → True))

set_option maxRecDepth 100000 in
set_option maxHeartbeats 1000000 in
theorem lp_X12_lawTells_137 {G : ab_G} {fu : Nat} {d : Nat} {D : fl_D} : ∀ (y0 : Int32) (s : fl_I) (l : fl_L), p_X12_lawTells_137 fu y0 s l → ab_C G (d + 1) 0 0 M_X12_lawTells 137 [some (.ref 60), none, none, none, none, none, none] [.int y0] (hp D s l) (rt (some (.int (f_X12_lawTells_137 fu y0 s l).1)) (hp D (f_X12_lawTells_137 fu y0 s l).2.1 (f_X12_lawTells_137 fu y0 s l).2.2)) := by
  intro y0 s l hk
  generalize he : f_X12_lawTells_137 fu y0 s l = res
  unfold f_X12_lawTells_137 at he
  unfold p_X12_lawTells_137 at hk
  refine r_istore rfl (Nat.le_of_ble_eq_true rfl) rfl ?_
  refine r_aload_n rfl rfl ?_
  refine q_getfield rfl (cc_60 _) rfl ?_
  refine r_if_eq rfl (fun c_143 => ?_) (fun c_143 => ?_)
  · rw [if_pos c_143] at he
    replace hk := hk.1 c_143
    refine r_iload rfl rfl ?_
    refine r_iret rfl rfl rfl ?_
    first | with_reducible exact fin_i he | exact fin_i he
  · rw [if_neg c_143] at he
    replace hk := hk.2 c_143
    refine r_iconst_ (a := 0) rfl (by decide) ?_
    refine r_goto rfl ?_
    refine r_iret rfl rfl rfl ?_
    first | with_reducible exact fin_i he | exact fin_i he

def f_X12_lawTells_119 (fu : Nat) (x4 : Int32) (s : fl_I) (l : fl_L) : Int32 × fl_I × fl_L :=
    f_X12_lawTells_137 fu (f_X12_termOf fu (s 87 x4.toNatClampNeg) (s 88 x4.toNatClampNeg) s l).1 (f_X12_termOf fu (s 87 x4.toNatClampNeg) (s 88 x4.toNatClampNeg) s l).2.1 (f_X12_termOf fu (s 87 x4.toNatClampNeg) (s 88 x4.toNatClampNeg) s l).2.2

def p_X12_lawTells_119 (fu : Nat) (x4 : Int32) (s : fl_I) (l : fl_L) : Prop :=
    (vp_in x4 260) ∧ (vp_in x4 260) ∧ (p_X12_termOf fu (s 87 x4.toNatClampNeg) (s 88 x4.toNatClampNeg) s l) ∧ p_X12_lawTells_137 fu (f_X12_termOf fu (s 87 x4.toNatClampNeg) (s 88 x4.toNatClampNeg) s l).1 (f_X12_termOf fu (s 87 x4.toNatClampNeg) (s 88 x4.toNatClampNeg) s l).2.1 (f_X12_termOf fu (s 87 x4.toNatClampNeg) (s 88 x4.toNatClampNeg) s l).2.2

set_option maxRecDepth 100000 in
set_option maxHeartbeats 1000000 in
theorem lp_X12_lawTells_119 {G : ab_G} {fu : Nat} {d : Nat} {D : fl_D} : ∀ (x4 : Int32) (s : fl_I) (l : fl_L), p_X12_lawTells_119 fu x4 s l → ab_C G (d + 1) 0 0 M_X12_lawTells 119 [some (.ref 60), none, none, none, some (.int x4), none, none] [] (hp D s l) (rt (some (.int (f_X12_lawTells_119 fu x4 s l).1)) (hp D (f_X12_lawTells_119 fu x4 s l).2.1 (f_X12_lawTells_119 fu x4 s l).2.2)) := by
  intro x4 s l hk
  generalize he : f_X12_lawTells_119 fu x4 s l = res
  unfold f_X12_lawTells_119 at he
  unfold p_X12_lawTells_119 at hk
  refine r_aload_n rfl rfl ?_
  refine r_aload_n rfl rfl ?_
  refine q_getfield rfl (cc_60 _) rfl ?_
  refine r_iload rfl rfl ?_
  obtain ⟨hb5, hk⟩ := hk
  refine q_iald rfl (cc_87 _) hb5 ?_
  refine r_aload_n rfl rfl ?_
  refine q_getfield rfl (cc_60 _) rfl ?_
  refine r_iload rfl rfl ?_
  obtain ⟨hb6, hk⟩ := hk
  refine q_iald rfl (cc_88 _) hb6 ?_
  obtain ⟨hb7, hk⟩ := hk
  refine q_callV0 [_, _] _ rfl kY_X12_termOf kT_X12_termOf rfl rfl (Nat.le_of_ble_eq_true rfl) (Nat.le_of_ble_eq_true rfl) (cc_60 _) (s_X12_termOf hb7) (fun r h q => ?_)
  obtain ⟨rfl, rfl⟩ := q
  simp only [Option.toList, List.cons_append, List.nil_append]
  subst he
  exact r_weak (L1 := [some (.ref 60), none, none, none, none, none, none]) ⟨rfl, trivial⟩ (lp_X12_lawTells_137 _ _ _ hk)

def f_X12_lawTells_98 (fu : Nat) (K39 : Int32 → Int32 → fl_I → fl_L → Int32 × fl_I × fl_L) (x3 : Int32) (x4 : Int32) (x5 : Int32) (y0 : Int32) (s : fl_I) (l : fl_L) : Int32 × fl_I × fl_L :=
    if ((s 60 49) = 0) then if (x5 < y0) then f_X12_lawTells_119 fu x4 s l else K39 x3 (x4 + 1) s l else ((0 : Int32), s, l)

def p_X12_lawTells_98 (fu : Nat) (P39 : Int32 → Int32 → fl_I → fl_L → Prop) (x3 : Int32) (x4 : Int32) (x5 : Int32) (y0 : Int32) (s : fl_I) (l : fl_L) : Prop :=
    ((((s 60 49) = 0) → (((x5 < y0) → p_X12_lawTells_119 fu x4 s l) ∧ (¬ (x5 < y0) → P39 x3 (x4 + 1) s l))) ∧ (¬ ((s 60 49) = 0) → True))

set_option maxRecDepth 100000 in
set_option maxHeartbeats 1000000 in
theorem lp_X12_lawTells_98 {G : ab_G} {fu : Nat} {d : Nat} {D : fl_D} (K39 : Int32 → Int32 → fl_I → fl_L → Int32 × fl_I × fl_L) (P39 : Int32 → Int32 → fl_I → fl_L → Prop) (hK39 : ∀ (x3 : Int32) (x4 : Int32) (s : fl_I) (l : fl_L), P39 x3 x4 s l → ab_C G (d + 1) 0 0 M_X12_lawTells 39 [some (.ref 60), none, none, some (.int x3), some (.int x4), none, none] [] (hp D s l) (rt (some (.int (K39 x3 x4 s l).1)) (hp D (K39 x3 x4 s l).2.1 (K39 x3 x4 s l).2.2))) : ∀ (x3 : Int32) (x4 : Int32) (x5 : Int32) (y0 : Int32) (s : fl_I) (l : fl_L), p_X12_lawTells_98 fu P39 x3 x4 x5 y0 s l → ab_C G (d + 1) 0 0 M_X12_lawTells 98 [some (.ref 60), none, none, some (.int x3), some (.int x4), some (.int x5), none] [.int y0] (hp D s l) (rt (some (.int (f_X12_lawTells_98 fu K39 x3 x4 x5 y0 s l).1)) (hp D (f_X12_lawTells_98 fu K39 x3 x4 x5 y0 s l).2.1 (f_X12_lawTells_98 fu K39 x3 x4 x5 y0 s l).2.2)) := by
  intro x3 x4 x5 y0 s l hk
  generalize he : f_X12_lawTells_98 fu K39 x3 x4 x5 y0 s l = res
  unfold f_X12_lawTells_98 at he
  unfold p_X12_lawTells_98 at hk
  refine r_istore rfl (Nat.le_of_ble_eq_true rfl) rfl ?_
  refine r_aload_n rfl rfl ?_
  refine q_getfield rfl (cc_60 _) rfl ?_
  refine r_if_eq rfl (fun c_104 => ?_) (fun c_104 => ?_)
  · rw [if_pos c_104] at he
    replace hk := hk.1 c_104
    refine r_iload rfl rfl ?_
    refine r_iload rfl rfl ?_
    refine r_icmp_lt rfl (fun c_113 => ?_) (fun c_113 => ?_)
    · rw [if_pos c_113] at he
      replace hk := hk.1 c_113
      subst he
      exact r_weak (L1 := [some (.ref 60), none, none, none, some (.int x4), none, none]) ⟨rfl, rfl, trivial⟩ (lp_X12_lawTells_119 _ _ _ hk)
    · rw [if_neg c_113] at he
      replace hk := hk.2 c_113
      refine r_goto rfl ?_
      refine r_iinc (b := x4 + 1) rfl rfl rfl (Nat.le_of_ble_eq_true rfl) rfl ?_
      refine r_goto rfl ?_
      subst he
      exact r_weak (L1 := [some (.ref 60), none, none, some (.int x3), some (.int (x4 + 1)), none, none]) ⟨rfl, rfl, rfl, trivial⟩ (hK39 _ _ _ _ hk)
  · rw [if_neg c_104] at he
    replace hk := hk.2 c_104
    refine r_iconst_ (a := 0) rfl (by decide) ?_
    refine r_iret rfl rfl rfl ?_
    first | with_reducible exact fin_i he | exact fin_i he

def f_X12_lawTells_78 (fu : Nat) (K39 : Int32 → Int32 → fl_I → fl_L → Int32 × fl_I × fl_L) (x3 : Int32) (x4 : Int32) (y0 : Int32) (s : fl_I) (l : fl_L) : Int32 × fl_I × fl_L :=
    f_X12_lawTells_98 fu K39 x3 x4 y0 (f_X12_termOf fu (s 86 x4.toNatClampNeg) (s 87 x4.toNatClampNeg) s l).1 (f_X12_termOf fu (s 86 x4.toNatClampNeg) (s 87 x4.toNatClampNeg) s l).2.1 (f_X12_termOf fu (s 86 x4.toNatClampNeg) (s 87 x4.toNatClampNeg) s l).2.2

def p_X12_lawTells_78 (fu : Nat) (P39 : Int32 → Int32 → fl_I → fl_L → Prop) (x3 : Int32) (x4 : Int32) (y0 : Int32) (s : fl_I) (l : fl_L) : Prop :=
    (vp_in x4 260) ∧ (vp_in x4 260) ∧ (p_X12_termOf fu (s 86 x4.toNatClampNeg) (s 87 x4.toNatClampNeg) s l) ∧ p_X12_lawTells_98 fu P39 x3 x4 y0 (f_X12_termOf fu (s 86 x4.toNatClampNeg) (s 87 x4.toNatClampNeg) s l).1 (f_X12_termOf fu (s 86 x4.toNatClampNeg) (s 87 x4.toNatClampNeg) s l).2.1 (f_X12_termOf fu (s 86 x4.toNatClampNeg) (s 87 x4.toNatClampNeg) s l).2.2

set_option maxRecDepth 100000 in
set_option maxHeartbeats 1000000 in
theorem lp_X12_lawTells_78 {G : ab_G} {fu : Nat} {d : Nat} {D : fl_D} (K39 : Int32 → Int32 → fl_I → fl_L → Int32 × fl_I × fl_L) (P39 : Int32 → Int32 → fl_I → fl_L → Prop) (hK39 : ∀ (x3 : Int32) (x4 : Int32) (s : fl_I) (l : fl_L), P39 x3 x4 s l → ab_C G (d + 1) 0 0 M_X12_lawTells 39 [some (.ref 60), none, none, some (.int x3), some (.int x4), none, none] [] (hp D s l) (rt (some (.int (K39 x3 x4 s l).1)) (hp D (K39 x3 x4 s l).2.1 (K39 x3 x4 s l).2.2))) : ∀ (x3 : Int32) (x4 : Int32) (y0 : Int32) (s : fl_I) (l : fl_L), p_X12_lawTells_78 fu P39 x3 x4 y0 s l → ab_C G (d + 1) 0 0 M_X12_lawTells 78 [some (.ref 60), none, none, some (.int x3), some (.int x4), none, none] [.int y0] (hp D s l) (rt (some (.int (f_X12_lawTells_78 fu K39 x3 x4 y0 s l).1)) (hp D (f_X12_lawTells_78 fu K39 x3 x4 y0 s l).2.1 (f_X12_lawTells_78 fu K39 x3 x4 y0 s l).2.2)) := by
  intro x3 x4 y0 s l hk
  generalize he : f_X12_lawTells_78 fu K39 x3 x4 y0 s l = res
  unfold f_X12_lawTells_78 at he
  unfold p_X12_lawTells_78 at hk
  refine r_istore rfl (Nat.le_of_ble_eq_true rfl) rfl ?_
  refine r_aload_n rfl rfl ?_
  refine r_aload_n rfl rfl ?_
  refine q_getfield rfl (cc_60 _) rfl ?_
  refine r_iload rfl rfl ?_
  obtain ⟨hb11, hk⟩ := hk
  refine q_iald rfl (cc_86 _) hb11 ?_
  refine r_aload_n rfl rfl ?_
  refine q_getfield rfl (cc_60 _) rfl ?_
  refine r_iload rfl rfl ?_
  obtain ⟨hb12, hk⟩ := hk
  refine q_iald rfl (cc_87 _) hb12 ?_
  obtain ⟨hb13, hk⟩ := hk
  refine q_callV0 [_, _] _ rfl kY_X12_termOf kT_X12_termOf rfl rfl (Nat.le_of_ble_eq_true rfl) (Nat.le_of_ble_eq_true rfl) (cc_60 _) (s_X12_termOf hb13) (fun r h q => ?_)
  obtain ⟨rfl, rfl⟩ := q
  simp only [Option.toList, List.cons_append, List.nil_append]
  subst he
  exact r_weak (L1 := [some (.ref 60), none, none, some (.int x3), some (.int x4), some (.int y0), none]) ⟨rfl, rfl, rfl, rfl, trivial⟩ (lp_X12_lawTells_98 _ _ hK39 _ _ _ _ _ _ hk)

def f_X12_lawTells_39 (fu : Nat) : Nat → Int32 → Int32 → fl_I → fl_L → Int32 × fl_I × fl_L
  | 0, x3, x4, s, l => (0, s, l)
  | n + 1, x3, x4, s, l =>
    if ((s 83 x3.toNatClampNeg) ≤ x4) then ((0 : Int32), s, l) else if ((s 84 x4.toNatClampNeg) = 0) then f_X12_lawTells_119 fu x4 s l else f_X12_lawTells_78 fu (fun x3 x4 s l => f_X12_lawTells_39 fu n x3 x4 s l) x3 x4 (f_X12_termOf fu (s 85 x4.toNatClampNeg) (s 86 x4.toNatClampNeg) s l).1 (f_X12_termOf fu (s 85 x4.toNatClampNeg) (s 86 x4.toNatClampNeg) s l).2.1 (f_X12_termOf fu (s 85 x4.toNatClampNeg) (s 86 x4.toNatClampNeg) s l).2.2

def p_X12_lawTells_39 (fu : Nat) : Nat → Int32 → Int32 → fl_I → fl_L → Prop
  | 0, _, _, _, _ => False
  | n + 1, x3, x4, s, l =>
    (vp_in x3 6) ∧ ((((s 83 x3.toNatClampNeg) ≤ x4) → True) ∧ (¬ ((s 83 x3.toNatClampNeg) ≤ x4) → (vp_in x4 260) ∧ ((((s 84 x4.toNatClampNeg) = 0) → p_X12_lawTells_119 fu x4 s l) ∧ (¬ ((s 84 x4.toNatClampNeg) = 0) → (vp_in x4 260) ∧ (vp_in x4 260) ∧ (p_X12_termOf fu (s 85 x4.toNatClampNeg) (s 86 x4.toNatClampNeg) s l) ∧ p_X12_lawTells_78 fu (fun x3 x4 s l => p_X12_lawTells_39 fu n x3 x4 s l) x3 x4 (f_X12_termOf fu (s 85 x4.toNatClampNeg) (s 86 x4.toNatClampNeg) s l).1 (f_X12_termOf fu (s 85 x4.toNatClampNeg) (s 86 x4.toNatClampNeg) s l).2.1 (f_X12_termOf fu (s 85 x4.toNatClampNeg) (s 86 x4.toNatClampNeg) s l).2.2))))

set_option maxRecDepth 100000 in
set_option maxHeartbeats 1000000 in
theorem lp_X12_lawTells_39 {G : ab_G} {fu : Nat} {d : Nat} {D : fl_D} : ∀ (n : Nat) (x3 : Int32) (x4 : Int32) (s : fl_I) (l : fl_L), p_X12_lawTells_39 fu n x3 x4 s l → ab_C G (d + 1) 0 0 M_X12_lawTells 39 [some (.ref 60), none, none, some (.int x3), some (.int x4), none, none] [] (hp D s l) (rt (some (.int (f_X12_lawTells_39 fu n x3 x4 s l).1)) (hp D (f_X12_lawTells_39 fu n x3 x4 s l).2.1 (f_X12_lawTells_39 fu n x3 x4 s l).2.2)) := by
  intro n
  induction n with
  | zero => intro x3 x4 s l hk; exact hk.elim
  | succ n ih =>
    intro x3 x4 s l hk
    generalize he : f_X12_lawTells_39 fu (n + 1) x3 x4 s l = res
    unfold f_X12_lawTells_39 at he
    unfold p_X12_lawTells_39 at hk
    refine r_iload rfl rfl ?_
    refine r_aload_n rfl rfl ?_
    refine q_getfield rfl (cc_60 _) rfl ?_
    refine r_iload_n rfl rfl ?_
    obtain ⟨hb3, hk⟩ := hk
    refine q_iald rfl (cc_83 _) hb3 ?_
    refine r_icmp_ge rfl (fun c_47 => ?_) (fun c_47 => ?_)
    · rw [if_pos c_47] at he
      replace hk := hk.1 c_47
      refine r_iconst_ (a := 0) rfl (by decide) ?_
      refine r_iret rfl rfl rfl ?_
      first | with_reducible exact fin_i he | exact fin_i he
    · rw [if_neg c_47] at he
      replace hk := hk.2 c_47
      refine r_aload_n rfl rfl ?_
      refine q_getfield rfl (cc_60 _) rfl ?_
      refine r_iload rfl rfl ?_
      obtain ⟨hb4, hk⟩ := hk
      refine q_zald rfl (cc_84 _) hb4 ?_
      refine r_if_eq rfl (fun c_57 => ?_) (fun c_57 => ?_)
      · rw [if_pos c_57] at he
        replace hk := hk.1 c_57
        subst he
        exact r_weak (L1 := [some (.ref 60), none, none, none, some (.int x4), none, none]) ⟨rfl, rfl, trivial⟩ (lp_X12_lawTells_119 _ _ _ hk)
      · rw [if_neg c_57] at he
        replace hk := hk.2 c_57
        refine r_aload_n rfl rfl ?_
        refine r_aload_n rfl rfl ?_
        refine q_getfield rfl (cc_60 _) rfl ?_
        refine r_iload rfl rfl ?_
        obtain ⟨hb8, hk⟩ := hk
        refine q_iald rfl (cc_85 _) hb8 ?_
        refine r_aload_n rfl rfl ?_
        refine q_getfield rfl (cc_60 _) rfl ?_
        refine r_iload rfl rfl ?_
        obtain ⟨hb9, hk⟩ := hk
        refine q_iald rfl (cc_86 _) hb9 ?_
        obtain ⟨hb10, hk⟩ := hk
        refine q_callV0 [_, _] _ rfl kY_X12_termOf kT_X12_termOf rfl rfl (Nat.le_of_ble_eq_true rfl) (Nat.le_of_ble_eq_true rfl) (cc_60 _) (s_X12_termOf hb10) (fun r h q => ?_)
        obtain ⟨rfl, rfl⟩ := q
        simp only [Option.toList, List.cons_append, List.nil_append]
        subst he
        exact r_weak (L1 := [some (.ref 60), none, none, some (.int x3), some (.int x4), none, none]) ⟨rfl, rfl, rfl, trivial⟩ (lp_X12_lawTells_78 _ _ (fun _ _ _ _ h9 => ih _ _ _ _ h9) _ _ _ _ _ hk)

def f_X12_lawTells (fu : Nat) (v0 : Int32) (v1 : Int32) (s : fl_I) (l : fl_L) : Int32 × fl_I × fl_L :=
  if ((s 82 (((3 : Int32) * (s 60 18)) + v0).toNatClampNeg) = (s 83 (((3 : Int32) * (s 60 18)) + v0).toNatClampNeg)) then (v1, s, l) else f_X12_lawTells_39 fu fu (((3 : Int32) * (s 60 18)) + v0) ((wi s 60 49 (0 : Int32)) 82 (((3 : Int32) * (s 60 18)) + v0).toNatClampNeg) (wi s 60 49 (0 : Int32)) l

def p_X12_lawTells (fu : Nat) (v0 : Int32) (v1 : Int32) (s : fl_I) (l : fl_L) : Prop :=
  (vp_in (((3 : Int32) * (s 60 18)) + v0) 6) ∧ (vp_in (((3 : Int32) * (s 60 18)) + v0) 6) ∧ ((((s 82 (((3 : Int32) * (s 60 18)) + v0).toNatClampNeg) = (s 83 (((3 : Int32) * (s 60 18)) + v0).toNatClampNeg)) → True) ∧ (¬ ((s 82 (((3 : Int32) * (s 60 18)) + v0).toNatClampNeg) = (s 83 (((3 : Int32) * (s 60 18)) + v0).toNatClampNeg)) → (vp_in (((3 : Int32) * (s 60 18)) + v0) 6) ∧ p_X12_lawTells_39 fu fu (((3 : Int32) * (s 60 18)) + v0) ((wi s 60 49 (0 : Int32)) 82 (((3 : Int32) * (s 60 18)) + v0).toNatClampNeg) (wi s 60 49 (0 : Int32)) l))

set_option maxRecDepth 100000 in
set_option maxHeartbeats 1000000 in
theorem s_X12_lawTells {G : ab_G} {fu : Nat} {d : Nat} {D : fl_D} {s : fl_I} {l : fl_L} {v0 : Int32} {v1 : Int32} (hk : p_X12_lawTells fu v0 v1 s l) : ab_C G (d + 1) 0 0 M_X12_lawTells 0 (ab_ent [.ref 60, .int v0, .int v1]) [] (hp D s l) (rt (some (.int (f_X12_lawTells fu v0 v1 s l).1)) (hp D (f_X12_lawTells fu v0 v1 s l).2.1 (f_X12_lawTells fu v0 v1 s l).2.2)) := by
  generalize he : (f_X12_lawTells fu v0 v1 s l) = res
  unfold f_X12_lawTells at he
  unfold p_X12_lawTells at hk
  refine r_weak (L1 := [some (.ref 60), some (.int v0), some (.int v1), none, none, none, none]) ⟨rfl, rfl, rfl, trivial⟩ ?_
  refine r_iconst_ (a := 3) rfl (by decide) ?_
  refine r_aload_n rfl rfl ?_
  refine q_getfield rfl (cc_60 _) rfl ?_
  refine r_imul rfl ?_
  refine r_iload_n rfl rfl ?_
  refine r_iadd rfl ?_
  refine r_istore_n rfl (Nat.le_of_ble_eq_true rfl) rfl ?_
  refine r_aload_n rfl rfl ?_
  refine q_getfield rfl (cc_60 _) rfl ?_
  refine r_iload_n rfl rfl ?_
  obtain ⟨hb0, hk⟩ := hk
  refine q_iald rfl (cc_82 _) hb0 ?_
  refine r_aload_n rfl rfl ?_
  refine q_getfield rfl (cc_60 _) rfl ?_
  refine r_iload_n rfl rfl ?_
  obtain ⟨hb1, hk⟩ := hk
  refine q_iald rfl (cc_83 _) hb1 ?_
  refine r_icmp_ne rfl (fun c_21 => ?_) (fun c_21 => ?_)
  · rw [if_neg c_21] at he
    replace hk := hk.2 c_21
    refine r_aload_n rfl rfl ?_
    refine r_iconst_ (a := 0) rfl (by decide) ?_
    refine w_putZ rfl (cc_60 _) ff_12_49 ft_12_49 (by decide) (fun _ _ => (Nat.le_of_ble_eq_true rfl)) (fun _ _ => rfl) ?_
    refine r_aload_n rfl rfl ?_
    refine q_getfield rfl (cc_60 _) rfl ?_
    refine r_iload_n rfl rfl ?_
    obtain ⟨hb2, hk⟩ := hk
    refine q_iald rfl (cc_82 _) hb2 ?_
    refine r_istore rfl (Nat.le_of_ble_eq_true rfl) rfl ?_
    subst he
    exact r_weak (L1 := [some (.ref 60), none, none, some (.int (((3 : Int32) * (s 60 18)) + v0)), some (.int ((wi s 60 49 (0 : Int32)) 82 (((3 : Int32) * (s 60 18)) + v0).toNatClampNeg)), none, none]) ⟨rfl, rfl, rfl, trivial⟩ (lp_X12_lawTells_39 fu _ _ _ _ hk)
  · rw [if_pos c_21] at he
    replace hk := hk.1 c_21
    refine r_iload_n rfl rfl ?_
    refine r_iret rfl rfl rfl ?_
    first | with_reducible exact fin_i he | exact fin_i he

