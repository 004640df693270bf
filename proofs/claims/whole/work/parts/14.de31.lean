def f_X9_takesOfAll_13 (fu : Nat) : Nat → Int32 → Int32 → Nat → Nat → fl_I → fl_L → Int32 × fl_I × fl_L
  | 0, x3, x4, t, a, s, l => (0, s, l)
  | n + 1, x3, x4, t, a, s, l =>
    if ((s a 1) ≤ x4) then (x3, s, l) else if ((80 : Int32) ≤ (s (a + 1) x4.toNatClampNeg)) then f_X9_takesOfAll_13 fu n x3 (x4 + 1) t a s l else f_X9_takesOfAll_13 fu n (x3 + (f_X11_money fu (f_X1_ofPiece fu (1 : Int32) x4 (s 50 (s (a + 1) x4.toNatClampNeg).toNatClampNeg) t a s l).1)) (x4 + 1) t a (f_X1_ofPiece fu (1 : Int32) x4 (s 50 (s (a + 1) x4.toNatClampNeg).toNatClampNeg) t a s l).2.1 (f_X1_ofPiece fu (1 : Int32) x4 (s 50 (s (a + 1) x4.toNatClampNeg).toNatClampNeg) t a s l).2.2

def p_X9_takesOfAll_13 (fu : Nat) : Nat → Int32 → Int32 → Nat → Nat → fl_I → fl_L → Prop
  | 0, _, _, _, _, _, _ => False
  | n + 1, x3, x4, t, a, s, l =>
    ((((s a 1) ≤ x4) → True) ∧ (¬ ((s a 1) ≤ x4) → (vp_in x4 32) ∧ ((((80 : Int32) ≤ (s (a + 1) x4.toNatClampNeg)) → p_X9_takesOfAll_13 fu n x3 (x4 + 1) t a s l) ∧ (¬ ((80 : Int32) ≤ (s (a + 1) x4.toNatClampNeg)) → (vp_in (s (a + 1) x4.toNatClampNeg) 80) ∧ (p_X1_ofPiece fu (1 : Int32) x4 (s 50 (s (a + 1) x4.toNatClampNeg).toNatClampNeg) t a s l) ∧ (p_X11_money fu (f_X1_ofPiece fu (1 : Int32) x4 (s 50 (s (a + 1) x4.toNatClampNeg).toNatClampNeg) t a s l).1) ∧ p_X9_takesOfAll_13 fu n (x3 + (f_X11_money fu (f_X1_ofPiece fu (1 : Int32) x4 (s 50 (s (a + 1) x4.toNatClampNeg).toNatClampNeg) t a s l).1)) (x4 + 1) t a (f_X1_ofPiece fu (1 : Int32) x4 (s 50 (s (a + 1) x4.toNatClampNeg).toNatClampNeg) t a s l).2.1 (f_X1_ofPiece fu (1 : Int32) x4 (s 50 (s (a + 1) x4.toNatClampNeg).toNatClampNeg) t a s l).2.2))))

set_option maxRecDepth 100000 in
set_option maxHeartbeats 1000000 in
theorem lp_X9_takesOfAll_13 {G : ab_G} {fu : Nat} {d : Nat} {D : fl_D} {t : Nat} (htt : isT t) {a : Nat} (hya : isY D a) : ∀ (n : Nat) (x3 : Int32) (x4 : Int32) (s : fl_I) (l : fl_L), p_X9_takesOfAll_13 fu n x3 x4 t a s l → ab_C G (d + 3) 0 0 M_X9_takesOfAll 13 [some (.ref 46), some (.ref t), some (.ref a), some (.int x3), some (.int x4), none] [] (hp D s l) (rt (some (.int (f_X9_takesOfAll_13 fu n x3 x4 t a s l).1)) (hp D (f_X9_takesOfAll_13 fu n x3 x4 t a s l).2.1 (f_X9_takesOfAll_13 fu n x3 x4 t a s l).2.2)) := by
  intro n
  induction n with
  | zero => intro x3 x4 s l hk; exact hk.elim
  | succ n ih =>
    intro x3 x4 s l hk
    generalize he : f_X9_takesOfAll_13 fu (n + 1) x3 x4 t a s l = res
    unfold f_X9_takesOfAll_13 at he
    unfold p_X9_takesOfAll_13 at hk
    refine r_iload rfl rfl ?_
    refine r_aload_n rfl rfl ?_
    refine q_getfield rfl (cY_0 hya) rfl ?_
    refine r_icmp_ge rfl (fun c_19 => ?_) (fun c_19 => ?_)
    · rw [if_pos c_19] at he
      replace hk := hk.1 c_19
      refine r_iload_n rfl rfl ?_
      refine r_iret rfl rfl rfl ?_
      first | with_reducible exact fin_i he | exact fin_i he
    · rw [if_neg c_19] at he
      replace hk := hk.2 c_19
      refine r_aload_n rfl rfl ?_
      refine q_getfield rfl (cY_0 hya) rfl ?_
      refine r_iload rfl rfl ?_
      obtain ⟨hb1, hk⟩ := hk
      refine q_iald rfl (cY_1 hya) hb1 ?_
      refine r_istore rfl (Nat.le_of_ble_eq_true rfl) rfl ?_
      refine r_iload rfl rfl ?_
      refine r_bipush_ (a := 80) rfl (by decide) ?_
      refine r_icmp_ge rfl (fun c_35 => ?_) (fun c_35 => ?_)
      · rw [if_pos c_35] at he
        replace hk := hk.1 c_35
        refine r_iinc (b := x4 + 1) rfl rfl rfl (Nat.le_of_ble_eq_true rfl) rfl ?_
        refine r_goto rfl ?_
        subst he
        exact r_weak (L1 := [some (.ref 46), some (.ref t), some (.ref a), some (.int x3), some (.int (x4 + 1)), none]) ⟨rfl, rfl, rfl, rfl, rfl, trivial⟩ (ih _ _ _ _ hk)
      · rw [if_neg c_35] at he
        replace hk := hk.2 c_35
        refine r_iload_n rfl rfl ?_
        refine r_aload_n rfl rfl ?_
        refine q_getfield rfl (cc_46 _) rfl ?_
        refine r_iconst_ (a := 1) rfl (by decide) ?_
        refine r_aload_n rfl rfl ?_
        refine r_aload_n rfl rfl ?_
        refine r_iload rfl rfl ?_
        refine r_aload_n rfl rfl ?_
        refine q_getfield rfl (cc_46 _) rfl ?_
        refine r_iload rfl rfl ?_
        obtain ⟨hb2, hk⟩ := hk
        refine q_iald rfl (cc_50 _) hb2 ?_
        obtain ⟨hb3, hk⟩ := hk
        refine q_callV0 [_, _, _, _, _] _ rfl kY_X1_ofPiece kT_X1_ofPiece rfl rfl (Nat.le_of_ble_eq_true rfl) (Nat.le_of_ble_eq_true rfl) (cc_47 _) (s_X1_ofPiece htt hya hb3) (fun r h q => ?_)
        obtain ⟨rfl, rfl⟩ := q
        simp only [Option.toList, List.cons_append, List.nil_append]
        obtain ⟨hb4, hk⟩ := hk
        refine r_callSN0 [_] _ rfl kY_X11_money kT_X11_money rfl rfl (Nat.le_of_ble_eq_true rfl) (Nat.le_of_ble_eq_true rfl) (s_X11_money hb4) (fun r h q => ?_)
        obtain ⟨rfl, rfl⟩ := q
        simp only [Option.toList, List.cons_append, List.nil_append]
        refine r_iadd rfl ?_
        refine r_istore_n rfl (Nat.le_of_ble_eq_true rfl) rfl ?_
        refine r_iinc (b := x4 + 1) rfl rfl rfl (Nat.le_of_ble_eq_true rfl) rfl ?_
        refine r_goto rfl ?_
        subst he
        exact r_weak (L1 := [some (.ref 46), some (.ref t), some (.ref a), some (.int (x3 + (f_X11_money fu (f_X1_ofPiece fu (1 : Int32) x4 (s 50 (s (a + 1) x4.toNatClampNeg).toNatClampNeg) t a s l).1))), some (.int (x4 + 1)), none]) ⟨rfl, rfl, rfl, rfl, rfl, trivial⟩ (ih _ _ _ _ hk)

def f_X9_takesOfAll (fu : Nat) (t : Nat) (a : Nat) (s : fl_I) (l : fl_L) : Int32 × fl_I × fl_L :=
  f_X9_takesOfAll_13 fu fu (0 : Int32) (0 : Int32) t a (f_X10_countAll fu a 50 s l).1 (f_X10_countAll fu a 50 s l).2

def p_X9_takesOfAll (fu : Nat) (t : Nat) (a : Nat) (s : fl_I) (l : fl_L) : Prop :=
  (p_X10_countAll fu a 50 s l) ∧ p_X9_takesOfAll_13 fu fu (0 : Int32) (0 : Int32) t a (f_X10_countAll fu a 50 s l).1 (f_X10_countAll fu a 50 s l).2

set_option maxRecDepth 100000 in
set_option maxHeartbeats 1000000 in
theorem s_X9_takesOfAll {G : ab_G} {fu : Nat} {d : Nat} {D : fl_D} {s : fl_I} {l : fl_L} {t : Nat} (htt : isT t) {a : Nat} (hya : isY D a)  (hk : p_X9_takesOfAll fu t a s l) : ab_C G (d + 3) 0 0 M_X9_takesOfAll 0 (ab_ent [.ref 46, .ref t, .ref a]) [] (hp D s l) (rt (some (.int (f_X9_takesOfAll fu t a s l).1)) (hp D (f_X9_takesOfAll fu t a s l).2.1 (f_X9_takesOfAll fu t a s l).2.2)) := by
  generalize he : (f_X9_takesOfAll fu t a s l) = res
  unfold f_X9_takesOfAll at he
  unfold p_X9_takesOfAll at hk
  refine r_weak (L1 := [some (.ref 46), some (.ref t), some (.ref a), none, none, none]) ⟨rfl, rfl, rfl, trivial⟩ ?_
  refine r_aload_n rfl rfl ?_
  refine r_aload_n rfl rfl ?_
  refine q_getfield rfl (cc_46 _) rfl ?_
  obtain ⟨hb0, hk⟩ := hk
  refine q_callV0 [_] _ rfl kY_X10_countAll kT_X10_countAll rfl rfl (Nat.le_of_ble_eq_true rfl) (Nat.le_of_ble_eq_true rfl) (cY_0 hya) (s_X10_countAll hya (cc_50 _) hb0) (fun r h q => ?_)
  obtain ⟨rfl, rfl⟩ := q
  simp only [Option.toList, List.cons_append, List.nil_append]
  refine r_iconst_ (a := 0) rfl (by decide) ?_
  refine r_istore_n rfl (Nat.le_of_ble_eq_true rfl) rfl ?_
  refine r_iconst_ (a := 0) rfl (by decide) ?_
  refine r_istore rfl (Nat.le_of_ble_eq_true rfl) rfl ?_
  subst he
  exact r_weak (L1 := [some (.ref 46), some (.ref t), some (.ref a), some (.int (0 : Int32)), some (.int (0 : Int32)), none]) ⟨rfl, rfl, rfl, rfl, rfl, trivial⟩ (lp_X9_takesOfAll_13 htt hya fu _ _ _ _ hk)

def f_X12_paysOf (fu : Nat) (v0 : Int32) (v1 : Int32) (s : fl_I) (l : fl_L) : Int32 × fl_I × fl_L :=
  ((f_X12_within fu (f_X12_lawTells fu (2 : Int32) (1 : Int32) (wi (wi (wi (wi (f_X12_looks fu s l).1 92 (0 : Int32).toNatClampNeg ((f_X12_looks fu s l).1 96 v1.toNatClampNeg)) 92 (5 : Int32).toNatClampNeg ((wi (f_X12_looks fu s l).1 92 (0 : Int32).toNatClampNeg ((f_X12_looks fu s l).1 96 v1.toNatClampNeg)) 78 (((4 : Int32) * ((wi (f_X12_looks fu s l).1 92 (0 : Int32).toNatClampNeg ((f_X12_looks fu s l).1 96 v1.toNatClampNeg)) 60 18)) + v0).toNatClampNeg)) 92 (6 : Int32).toNatClampNeg (f_X12_inHat fu v0 (wi (wi (f_X12_looks fu s l).1 92 (0 : Int32).toNatClampNeg ((f_X12_looks fu s l).1 96 v1.toNatClampNeg)) 92 (5 : Int32).toNatClampNeg ((wi (f_X12_looks fu s l).1 92 (0 : Int32).toNatClampNeg ((f_X12_looks fu s l).1 96 v1.toNatClampNeg)) 78 (((4 : Int32) * ((wi (f_X12_looks fu s l).1 92 (0 : Int32).toNatClampNeg ((f_X12_looks fu s l).1 96 v1.toNatClampNeg)) 60 18)) + v0).toNatClampNeg)) (f_X12_looks fu s l).2)) 92 (8 : Int32).toNatClampNeg v0) (f_X12_looks fu s l).2).1 (0 : Int32) (99 : Int32)), (f_X12_lawTells fu (2 : Int32) (1 : Int32) (wi (wi (wi (wi (f_X12_looks fu s l).1 92 (0 : Int32).toNatClampNeg ((f_X12_looks fu s l).1 96 v1.toNatClampNeg)) 92 (5 : Int32).toNatClampNeg ((wi (f_X12_looks fu s l).1 92 (0 : Int32).toNatClampNeg ((f_X12_looks fu s l).1 96 v1.toNatClampNeg)) 78 (((4 : Int32) * ((wi (f_X12_looks fu s l).1 92 (0 : Int32).toNatClampNeg ((f_X12_looks fu s l).1 96 v1.toNatClampNeg)) 60 18)) + v0).toNatClampNeg)) 92 (6 : Int32).toNatClampNeg (f_X12_inHat fu v0 (wi (wi (f_X12_looks fu s l).1 92 (0 : Int32).toNatClampNeg ((f_X12_looks fu s l).1 96 v1.toNatClampNeg)) 92 (5 : Int32).toNatClampNeg ((wi (f_X12_looks fu s l).1 92 (0 : Int32).toNatClampNeg ((f_X12_looks fu s l).1 96 v1.toNatClampNeg)) 78 (((4 : Int32) * ((wi (f_X12_looks fu s l).1 92 (0 : Int32).toNatClampNeg ((f_X12_looks fu s l).1 96 v1.toNatClampNeg)) 60 18)) + v0).toNatClampNeg)) (f_X12_looks fu s l).2)) 92 (8 : Int32).toNatClampNeg v0) (f_X12_looks fu s l).2).2.1, (f_X12_lawTells fu (2 : Int32) (1 : Int32) (wi (wi (wi (wi (f_X12_looks fu s l).1 92 (0 : Int32).toNatClampNeg ((f_X12_looks fu s l).1 96 v1.toNatClampNeg)) 92 (5 : Int32).toNatClampNeg ((wi (f_X12_looks fu s l).1 92 (0 : Int32).toNatClampNeg ((f_X12_looks fu s l).1 96 v1.toNatClampNeg)) 78 (((4 : Int32) * ((wi (f_X12_looks fu s l).1 92 (0 : Int32).toNatClampNeg ((f_X12_looks fu s l).1 96 v1.toNatClampNeg)) 60 18)) + v0).toNatClampNeg)) 92 (6 : Int32).toNatClampNeg (f_X12_inHat fu v0 (wi (wi (f_X12_looks fu s l).1 92 (0 : Int32).toNatClampNeg ((f_X12_looks fu s l).1 96 v1.toNatClampNeg)) 92 (5 : Int32).toNatClampNeg ((wi (f_X12_looks fu s l).1 92 (0 : Int32).toNatClampNeg ((f_X12_looks fu s l).1 96 v1.toNatClampNeg)) 78 (((4 : Int32) * ((wi (f_X12_looks fu s l).1 92 (0 : Int32).toNatClampNeg ((f_X12_looks fu s l).1 96 v1.toNatClampNeg)) 60 18)) + v0).toNatClampNeg)) (f_X12_looks fu s l).2)) 92 (8 : Int32).toNatClampNeg v0) (f_X12_looks fu s l).2).2.2)

def p_X12_paysOf (fu : Nat) (v0 : Int32) (v1 : Int32) (s : fl_I) (l : fl_L) : Prop :=
  (p_X12_looks fu s l) ∧ (vp_in v1 32) ∧ (vp_in (((4 : Int32) * ((wi (f_X12_looks fu s l).1 92 (0 : Int32).toNatClampNeg ((f_X12_looks fu s l).1 96 v1.toNatClampNeg)) 60 18)) + v0) 8) ∧ (p_X12_inHat fu v0 (wi (wi (f_X12_looks fu s l).1 92 (0 : Int32).toNatClampNeg ((f_X12_looks fu s l).1 96 v1.toNatClampNeg)) 92 (5 : Int32).toNatClampNeg ((wi (f_X12_looks fu s l).1 92 (0 : Int32).toNatClampNeg ((f_X12_looks fu s l).1 96 v1.toNatClampNeg)) 78 (((4 : Int32) * ((wi (f_X12_looks fu s l).1 92 (0 : Int32).toNatClampNeg ((f_X12_looks fu s l).1 96 v1.toNatClampNeg)) 60 18)) + v0).toNatClampNeg)) (f_X12_looks fu s l).2) ∧ (p_X12_lawTells fu (2 : Int32) (1 : Int32) (wi (wi (wi (wi (f_X12_looks fu s l).1 92 (0 : Int32).toNatClampNeg ((f_X12_looks fu s l).1 96 v1.toNatClampNeg)) 92 (5 : Int32).toNatClampNeg ((wi (f_X12_looks fu s l).1 92 (0 : Int32).toNatClampNeg ((f_X12_looks fu s l).1 96 v1.toNatClampNeg)) 78 (((4 : Int32) * ((wi (f_X12_looks fu s l).1 92 (0 : Int32).toNatClampNeg ((f_X12_looks fu s l).1 96 v1.toNatClampNeg)) 60 18)) + v0).toNatClampNeg)) 92 (6 : Int32).toNatClampNeg (f_X12_inHat fu v0 (wi (wi (f_X12_looks fu s l).1 92 (0 : Int32).toNatClampNeg ((f_X12_looks fu s l).1 96 v1.toNatClampNeg)) 92 (5 : Int32).toNatClampNeg ((wi (f_X12_looks fu s l).1 92 (0 : Int32).toNatClampNeg ((f_X12_looks fu s l).1 96 v1.toNatClampNeg)) 78 (((4 : Int32) * ((wi (f_X12_looks fu s l).1 92 (0 : Int32).toNatClampNeg ((f_X12_looks fu s l).1 96 v1.toNatClampNeg)) 60 18)) + v0).toNatClampNeg)) (f_X12_looks fu s l).2)) 92 (8 : Int32).toNatClampNeg v0) (f_X12_looks fu s l).2) ∧ (p_X12_within fu (f_X12_lawTells fu (2 : Int32) (1 : Int32) (wi (wi (wi (wi (f_X12_looks fu s l).1 92 (0 : Int32).toNatClampNeg ((f_X12_looks fu s l).1 96 v1.toNatClampNeg)) 92 (5 : Int32).toNatClampNeg ((wi (f_X12_looks fu s l).1 92 (0 : Int32).toNatClampNeg ((f_X12_looks fu s l).1 96 v1.toNatClampNeg)) 78 (((4 : Int32) * ((wi (f_X12_looks fu s l).1 92 (0 : Int32).toNatClampNeg ((f_X12_looks fu s l).1 96 v1.toNatClampNeg)) 60 18)) + v0).toNatClampNeg)) 92 (6 : Int32).toNatClampNeg (f_X12_inHat fu v0 (wi (wi (f_X12_looks fu s l).1 92 (0 : Int32).toNatClampNeg ((f_X12_looks fu s l).1 96 v1.toNatClampNeg)) 92 (5 : Int32).toNatClampNeg ((wi (f_X12_looks fu s l).1 92 (0 : Int32).toNatClampNeg ((f_X12_looks fu s l).1 96 v1.toNatClampNeg)) 78 (((4 : Int32) * ((wi (f_X12_looks fu s l).1 92 (0 : Int32).toNatClampNeg ((f_X12_looks fu s l).1 96 v1.toNatClampNeg)) 60 18)) + v0).toNatClampNeg)) (f_X12_looks fu s l).2)) 92 (8 : Int32).toNatClampNeg v0) (f_X12_looks fu s l).2).1 (0 : Int32) (99 : Int32)) ∧ True

set_option maxRecDepth 100000 in
set_option maxHeartbeats 1000000 in
theorem s_X12_paysOf {G : ab_G} {fu : Nat} {d : Nat} {D : fl_D} {s : fl_I} {l : fl_L} {v0 : Int32} {v1 : Int32} (hk : p_X12_paysOf fu v0 v1 s l) : ab_C G (d + 2) 0 0 M_X12_paysOf 0 (ab_ent [.ref 60, .int v0, .int v1]) [] (hp D s l) (rt (some (.int (f_X12_paysOf fu v0 v1 s l).1)) (hp D (f_X12_paysOf fu v0 v1 s l).2.1 (f_X12_paysOf fu v0 v1 s l).2.2)) := by
  generalize he : (f_X12_paysOf fu v0 v1 s l) = res
  unfold f_X12_paysOf at he
  unfold p_X12_paysOf at hk
  refine r_weak (L1 := [some (.ref 60), some (.int v0), some (.int v1)]) ⟨rfl, rfl, rfl, trivial⟩ ?_
  refine r_aload_n rfl rfl ?_
  obtain ⟨hb0, hk⟩ := hk
  refine q_callV0 [] _ rfl kY_X12_looks kT_X12_looks rfl rfl (Nat.le_of_ble_eq_true rfl) (Nat.le_of_ble_eq_true rfl) (cc_60 _) (s_X12_looks hb0) (fun r h q => ?_)
  obtain ⟨rfl, rfl⟩ := q
  simp only [Option.toList, List.cons_append, List.nil_append]
  refine r_aload_n rfl rfl ?_
  refine q_getfield rfl (cc_60 _) rfl ?_
  refine r_iconst_ (a := 0) rfl (by decide) ?_
  refine r_aload_n rfl rfl ?_
  refine q_getfield rfl (cc_60 _) rfl ?_
  refine r_iload_n rfl rfl ?_
  obtain ⟨hb1, hk⟩ := hk
  refine q_iald rfl (cc_96 _) hb1 ?_
  refine w_iast rfl (cc_92 _) (by unfold vp_in; decide) ?_
  refine r_aload_n rfl rfl ?_
  refine q_getfield rfl (cc_60 _) rfl ?_
  refine r_iconst_ (a := 5) rfl (by decide) ?_
  refine r_aload_n rfl rfl ?_
  refine q_getfield rfl (cc_60 _) rfl ?_
  refine r_iconst_ (a := 4) rfl (by decide) ?_
  refine r_aload_n rfl rfl ?_
  refine q_getfield rfl (cc_60 _) rfl ?_
  refine r_imul rfl ?_
  refine r_iload_n rfl rfl ?_
  refine r_iadd rfl ?_
  obtain ⟨hb2, hk⟩ := hk
  refine q_iald rfl (cc_78 _) hb2 ?_
  refine w_iast rfl (cc_92 _) (by unfold vp_in; decide) ?_
  refine r_aload_n rfl rfl ?_
  refine q_getfield rfl (cc_60 _) rfl ?_
  refine r_bipush_ (a := 6) rfl (by decide) ?_
  refine r_aload_n rfl rfl ?_
  refine r_iload_n rfl rfl ?_
  obtain ⟨hb3, hk⟩ := hk
  refine q_callV0 [_] _ rfl kY_X12_inHat kT_X12_inHat rfl rfl (Nat.le_of_ble_eq_true rfl) (Nat.le_of_ble_eq_true rfl) (cc_60 _) (s_X12_inHat hb3) (fun r h q => ?_)
  obtain ⟨rfl, rfl⟩ := q
  simp only [Option.toList, List.cons_append, List.nil_append]
  refine w_iast rfl (cc_92 _) (by unfold vp_in; decide) ?_
  refine r_aload_n rfl rfl ?_
  refine q_getfield rfl (cc_60 _) rfl ?_
  refine r_bipush_ (a := 8) rfl (by decide) ?_
  refine r_iload_n rfl rfl ?_
  refine w_iast rfl (cc_92 _) (by unfold vp_in; decide) ?_
  refine r_aload_n rfl rfl ?_
  refine r_iconst_ (a := 2) rfl (by decide) ?_
  refine r_iconst_ (a := 1) rfl (by decide) ?_
  obtain ⟨hb4, hk⟩ := hk
  refine q_callV0 [_, _] _ rfl kY_X12_lawTells kT_X12_lawTells rfl rfl (Nat.le_of_ble_eq_true rfl) (Nat.le_of_ble_eq_true rfl) (cc_60 _) (s_X12_lawTells hb4) (fun r h q => ?_)
  obtain ⟨rfl, rfl⟩ := q
  simp only [Option.toList, List.cons_append, List.nil_append]
  refine r_iconst_ (a := 0) rfl (by decide) ?_
  refine r_bipush_ (a := 99) rfl (by decide) ?_
  obtain ⟨hb5, hk⟩ := hk
  refine r_callS0 [_, _, _] _ rfl kY_X12_within kT_X12_within rfl rfl (Nat.le_of_ble_eq_true rfl) (Nat.le_of_ble_eq_true rfl) (s_X12_within hb5) (fun r h q => ?_)
  obtain ⟨rfl, rfl⟩ := q
  simp only [Option.toList, List.cons_append, List.nil_append]
  refine r_iret rfl rfl rfl ?_
  first | with_reducible exact fin_i he | exact fin_i he

def f_X3_letterTold_49 (fu : Nat) (t : Nat) (s : fl_I) (l : fl_L) : Int32 × fl_I × fl_L :=
    ((0 : Int32), s, l)

def p_X3_letterTold_49 (fu : Nat) (t : Nat) (s : fl_I) (l : fl_L) : Prop :=
    True

set_option maxRecDepth 100000 in
set_option maxHeartbeats 1000000 in
theorem lp_X3_letterTold_49 {G : ab_G} {fu : Nat} {d : Nat} {D : fl_D} {t : Nat} (htt : isT t) : ∀ (s : fl_I) (l : fl_L), p_X3_letterTold_49 fu  t s l → ab_C G (d + 3) 0 0 M_X3_letterTold 49 [none, none, none] [] (hp D s l) (rt (some (.int (f_X3_letterTold_49 fu  t s l).1)) (hp D (f_X3_letterTold_49 fu  t s l).2.1 (f_X3_letterTold_49 fu  t s l).2.2)) := by
  intro  s l hk
  generalize he : f_X3_letterTold_49 fu  t s l = res
  unfold f_X3_letterTold_49 at he
  unfold p_X3_letterTold_49 at hk
  refine r_iconst_ (a := 0) rfl (by decide) ?_
  refine r_iret rfl rfl rfl ?_
  first | with_reducible exact fin_i he | exact fin_i he

def f_X3_letterTold_75 (fu : Nat) (t : Nat) (s : fl_I) (l : fl_L) : Int32 × fl_I × fl_L :=
    ((0 : Int32), s, l)

def p_X3_letterTold_75 (fu : Nat) (t : Nat) (s : fl_I) (l : fl_L) : Prop :=
    True

set_option maxRecDepth 100000 in
set_option maxHeartbeats 1000000 in
theorem lp_X3_letterTold_75 {G : ab_G} {fu : Nat} {d : Nat} {D : fl_D} {t : Nat} (htt : isT t) : ∀ (s : fl_I) (l : fl_L), p_X3_letterTold_75 fu  t s l → ab_C G (d + 3) 0 0 M_X3_letterTold 75 [none, none, none] [] (hp D s l) (rt (some (.int (f_X3_letterTold_75 fu  t s l).1)) (hp D (f_X3_letterTold_75 fu  t s l).2.1 (f_X3_letterTold_75 fu  t s l).2.2)) := by
  intro  s l hk
  generalize he : f_X3_letterTold_75 fu  t s l = res
  unfold f_X3_letterTold_75 at he
  unfold p_X3_letterTold_75 at hk
  refine r_iconst_ (a := 0) rfl (by decide) ?_
  refine r_iret rfl rfl rfl ?_
  first | with_reducible exact fin_i he | exact fin_i he

def f_X3_letterTold_90 (fu : Nat) (t : Nat) (s : fl_I) (l : fl_L) : Int32 × fl_I × fl_L :=
    ((1 : Int32), s, l)

def p_X3_letterTold_90 (fu : Nat) (t : Nat) (s : fl_I) (l : fl_L) : Prop :=
    True

set_option maxRecDepth 100000 in
set_option maxHeartbeats 1000000 in
theorem lp_X3_letterTold_90 {G : ab_G} {fu : Nat} {d : Nat} {D : fl_D} {t : Nat} (htt : isT t) : ∀ (s : fl_I) (l : fl_L), p_X3_letterTold_90 fu  t s l → ab_C G (d + 3) 0 0 M_X3_letterTold 90 [none, none, none] [] (hp D s l) (rt (some (.int (f_X3_letterTold_90 fu  t s l).1)) (hp D (f_X3_letterTold_90 fu  t s l).2.1 (f_X3_letterTold_90 fu  t s l).2.2)) := by
  intro  s l hk
  generalize he : f_X3_letterTold_90 fu  t s l = res
  unfold f_X3_letterTold_90 at he
  unfold p_X3_letterTold_90 at hk
  refine r_iconst_ (a := 1) rfl (by decide) ?_
  refine r_iret rfl rfl rfl ?_
  first | with_reducible exact fin_i he | exact fin_i he

def f_X3_letterTold_72 (fu : Nat) (x2 : Int32) (y0 : Int32) (t : Nat) (s : fl_I) (l : fl_L) : Int32 × fl_I × fl_L :=
    if (y0 = 0) then f_X3_letterTold_75 fu  t s l else f_X3_letterTold_90 fu  t (f_X5_addLetter fu (l 3 7) x2 (s 3 6) t s l).1 (f_X5_addLetter fu (l 3 7) x2 (s 3 6) t s l).2

def p_X3_letterTold_72 (fu : Nat) (x2 : Int32) (y0 : Int32) (t : Nat) (s : fl_I) (l : fl_L) : Prop :=
    (((y0 = 0) → p_X3_letterTold_75 fu  t s l) ∧ (¬ (y0 = 0) → (p_X5_addLetter fu (l 3 7) x2 (s 3 6) t s l) ∧ p_X3_letterTold_90 fu  t (f_X5_addLetter fu (l 3 7) x2 (s 3 6) t s l).1 (f_X5_addLetter fu (l 3 7) x2 (s 3 6) t s l).2))

set_option maxRecDepth 100000 in
set_option maxHeartbeats 1000000 in
theorem lp_X3_letterTold_72 {G : ab_G} {fu : Nat} {d : Nat} {D : fl_D} {t : Nat} (htt : isT t) : ∀ (x2 : Int32) (y0 : Int32) (s : fl_I) (l : fl_L), p_X3_letterTold_72 fu x2 y0 t s l → ab_C G (d + 3) 0 0 M_X3_letterTold 72 [some (.ref 3), some (.ref t), some (.int x2)] [.int y0] (hp D s l) (rt (some (.int (f_X3_letterTold_72 fu x2 y0 t s l).1)) (hp D (f_X3_letterTold_72 fu x2 y0 t s l).2.1 (f_X3_letterTold_72 fu x2 y0 t s l).2.2)) := by
  intro x2 y0 s l hk
  generalize he : f_X3_letterTold_72 fu x2 y0 t s l = res
  unfold f_X3_letterTold_72 at he
  unfold p_X3_letterTold_72 at hk
  refine r_if_ne rfl (fun c_72 => ?_) (fun c_72 => ?_)
  · rw [if_neg c_72] at he
    replace hk := hk.2 c_72
    refine r_aload_n rfl rfl ?_
    refine r_aload_n rfl rfl ?_
    refine q_getfield rfl (cc_3 _) rfl ?_
    refine r_iload_n rfl rfl ?_
    refine r_aload_n rfl rfl ?_
    refine q_getfield rfl (cc_3 _) rfl ?_
    obtain ⟨hb5, hk⟩ := hk
    refine q_callV0 [_, _, _] _ rfl kY_X5_addLetter kT_X5_addLetter rfl rfl (Nat.le_of_ble_eq_true rfl) (Nat.le_of_ble_eq_true rfl) (cT_0 htt) (s_X5_addLetter htt hb5) (fun r h q => ?_)
    obtain ⟨rfl, rfl⟩ := q
    simp only [Option.toList, List.cons_append, List.nil_append]
    subst he
    exact r_weak (L1 := [none, none, none]) trivial (lp_X3_letterTold_90 htt _ _ hk)
  · rw [if_pos c_72] at he
    replace hk := hk.1 c_72
    subst he
    exact r_weak (L1 := [none, none, none]) trivial (lp_X3_letterTold_75 htt _ _ hk)

def f_X3_letterTold_63 (fu : Nat) (x2 : Int32) (y0 : Int32) (t : Nat) (s : fl_I) (l : fl_L) : Int32 × fl_I × fl_L :=
    if (y0 = 0) then f_X3_letterTold_75 fu  t s l else f_X3_letterTold_72 fu x2 (f_X3_take fu (59 : Int32) s l).1 t (f_X3_take fu (59 : Int32) s l).2.1 (f_X3_take fu (59 : Int32) s l).2.2

def p_X3_letterTold_63 (fu : Nat) (x2 : Int32) (y0 : Int32) (t : Nat) (s : fl_I) (l : fl_L) : Prop :=
    (((y0 = 0) → p_X3_letterTold_75 fu  t s l) ∧ (¬ (y0 = 0) → (p_X3_take fu (59 : Int32) s l) ∧ p_X3_letterTold_72 fu x2 (f_X3_take fu (59 : Int32) s l).1 t (f_X3_take fu (59 : Int32) s l).2.1 (f_X3_take fu (59 : Int32) s l).2.2))

set_option maxRecDepth 100000 in
set_option maxHeartbeats 1000000 in
theorem lp_X3_letterTold_63 {G : ab_G} {fu : Nat} {d : Nat} {D : fl_D} {t : Nat} (htt : isT t) : ∀ (x2 : Int32) (y0 : Int32) (s : fl_I) (l : fl_L), p_X3_letterTold_63 fu x2 y0 t s l → ab_C G (d + 3) 0 0 M_X3_letterTold 63 [some (.ref 3), some (.ref t), some (.int x2)] [.int y0] (hp D s l) (rt (some (.int (f_X3_letterTold_63 fu x2 y0 t s l).1)) (hp D (f_X3_letterTold_63 fu x2 y0 t s l).2.1 (f_X3_letterTold_63 fu x2 y0 t s l).2.2)) := by
  intro x2 y0 s l hk
  generalize he : f_X3_letterTold_63 fu x2 y0 t s l = res
  unfold f_X3_letterTold_63 at he
  unfold p_X3_letterTold_63 at hk
  refine r_if_eq rfl (fun c_63 => ?_) (fun c_63 => ?_)
  · rw [if_pos c_63] at he
    replace hk := hk.1 c_63
    subst he
    exact r_weak (L1 := [none, none, none]) trivial (lp_X3_letterTold_75 htt _ _ hk)
  · rw [if_neg c_63] at he
    replace hk := hk.2 c_63
    refine r_aload_n rfl rfl ?_
    refine r_bipush_ (a := 59) rfl (by decide) ?_
    obtain ⟨hb4, hk⟩ := hk
    refine q_callV0 [_] _ rfl kY_X3_take kT_X3_take rfl rfl (Nat.le_of_ble_eq_true rfl) (Nat.le_of_ble_eq_true rfl) (cc_3 _) (s_X3_take hb4) (fun r h q => ?_)
    obtain ⟨rfl, rfl⟩ := q
    simp only [Option.toList, List.cons_append, List.nil_append]
    subst he
    exact r_weak (L1 := [some (.ref 3), some (.ref t), some (.int x2)]) ⟨rfl, rfl, rfl, trivial⟩ (lp_X3_letterTold_72 htt _ _ _ _ hk)

def f_X3_letterTold_46 (fu : Nat) (y0 : Int32) (t : Nat) (s : fl_I) (l : fl_L) : Int32 × fl_I × fl_L :=
    if (y0 = 0) then f_X3_letterTold_49 fu  t s l else f_X3_letterTold_63 fu (s 3 6) (f_X3_takeInt fu (0 : Int32) (7 : Int32) s l).1 t (f_X3_takeInt fu (0 : Int32) (7 : Int32) s l).2.1 (f_X3_takeInt fu (0 : Int32) (7 : Int32) s l).2.2

def p_X3_letterTold_46 (fu : Nat) (y0 : Int32) (t : Nat) (s : fl_I) (l : fl_L) : Prop :=
    (((y0 = 0) → p_X3_letterTold_49 fu  t s l) ∧ (¬ (y0 = 0) → (p_X3_takeInt fu (0 : Int32) (7 : Int32) s l) ∧ p_X3_letterTold_63 fu (s 3 6) (f_X3_takeInt fu (0 : Int32) (7 : Int32) s l).1 t (f_X3_takeInt fu (0 : Int32) (7 : Int32) s l).2.1 (f_X3_takeInt fu (0 : Int32) (7 : Int32) s l).2.2))

set_option maxRecDepth 100000 in
set_option maxHeartbeats 1000000 in
theorem lp_X3_letterTold_46 {G : ab_G} {fu : Nat} {d : Nat} {D : fl_D} {t : Nat} (htt : isT t) : ∀ (y0 : Int32) (s : fl_I) (l : fl_L), p_X3_letterTold_46 fu y0 t s l → ab_C G (d + 3) 0 0 M_X3_letterTold 46 [some (.ref 3), some (.ref t), none] [.int y0] (hp D s l) (rt (some (.int (f_X3_letterTold_46 fu y0 t s l).1)) (hp D (f_X3_letterTold_46 fu y0 t s l).2.1 (f_X3_letterTold_46 fu y0 t s l).2.2)) := by
  intro y0 s l hk
  generalize he : f_X3_letterTold_46 fu y0 t s l = res
  unfold f_X3_letterTold_46 at he
  unfold p_X3_letterTold_46 at hk
  refine r_if_ne rfl (fun c_46 => ?_) (fun c_46 => ?_)
  · rw [if_neg c_46] at he
    replace hk := hk.2 c_46
    refine r_aload_n rfl rfl ?_
    refine q_getfield rfl (cc_3 _) rfl ?_
    refine r_istore_n rfl (Nat.le_of_ble_eq_true rfl) rfl ?_
    refine r_aload_n rfl rfl ?_
    refine r_iconst_ (a := 0) rfl (by decide) ?_
    refine r_bipush_ (a := 7) rfl (by decide) ?_
    obtain ⟨hb3, hk⟩ := hk
    refine q_callV0 [_, _] _ rfl kY_X3_takeInt kT_X3_takeInt rfl rfl (Nat.le_of_ble_eq_true rfl) (Nat.le_of_ble_eq_true rfl) (cc_3 _) (s_X3_takeInt hb3) (fun r h q => ?_)
    obtain ⟨rfl, rfl⟩ := q
    simp only [Option.toList, List.cons_append, List.nil_append]
    subst he
    exact r_weak (L1 := [some (.ref 3), some (.ref t), some (.int (s 3 6))]) ⟨rfl, rfl, rfl, trivial⟩ (lp_X3_letterTold_63 htt _ _ _ _ hk)
  · rw [if_pos c_46] at he
    replace hk := hk.1 c_46
    subst he
    exact r_weak (L1 := [none, none, none]) trivial (lp_X3_letterTold_49 htt _ _ hk)

def f_X3_letterTold_36 (fu : Nat) (y0 : Int32) (t : Nat) (s : fl_I) (l : fl_L) : Int32 × fl_I × fl_L :=
    if (y0 = 0) then f_X3_letterTold_49 fu  t s l else f_X3_letterTold_46 fu (f_X3_takeInt fu (0 : Int32) (9 : Int32) s l).1 t (f_X3_takeInt fu (0 : Int32) (9 : Int32) s l).2.1 (f_X3_takeInt fu (0 : Int32) (9 : Int32) s l).2.2

def p_X3_letterTold_36 (fu : Nat) (y0 : Int32) (t : Nat) (s : fl_I) (l : fl_L) : Prop :=
    (((y0 = 0) → p_X3_letterTold_49 fu  t s l) ∧ (¬ (y0 = 0) → (p_X3_takeInt fu (0 : Int32) (9 : Int32) s l) ∧ p_X3_letterTold_46 fu (f_X3_takeInt fu (0 : Int32) (9 : Int32) s l).1 t (f_X3_takeInt fu (0 : Int32) (9 : Int32) s l).2.1 (f_X3_takeInt fu (0 : Int32) (9 : Int32) s l).2.2))

set_option maxRecDepth 100000 in
set_option maxHeartbeats 1000000 in
theorem lp_X3_letterTold_36 {G : ab_G} {fu : Nat} {d : Nat} {D : fl_D} {t : Nat} (htt : isT t) : ∀ (y0 : Int32) (s : fl_I) (l : fl_L), p_X3_letterTold_36 fu y0 t s l → ab_C G (d + 3) 0 0 M_X3_letterTold 36 [some (.ref 3), some (.ref t), none] [.int y0] (hp D s l) (rt (some (.int (f_X3_letterTold_36 fu y0 t s l).1)) (hp D (f_X3_letterTold_36 fu y0 t s l).2.1 (f_X3_letterTold_36 fu y0 t s l).2.2)) := by
  intro y0 s l hk
  generalize he : f_X3_letterTold_36 fu y0 t s l = res
  unfold f_X3_letterTold_36 at he
  unfold p_X3_letterTold_36 at hk
  refine r_if_eq rfl (fun c_36 => ?_) (fun c_36 => ?_)
  · rw [if_pos c_36] at he
    replace hk := hk.1 c_36
    subst he
    exact r_weak (L1 := [none, none, none]) trivial (lp_X3_letterTold_49 htt _ _ hk)
  · rw [if_neg c_36] at he
    replace hk := hk.2 c_36
    refine r_aload_n rfl rfl ?_
    refine r_iconst_ (a := 0) rfl (by decide) ?_
    refine r_bipush_ (a := 9) rfl (by decide) ?_
    obtain ⟨hb2, hk⟩ := hk
    refine q_callV0 [_, _] _ rfl kY_X3_takeInt kT_X3_takeInt rfl rfl (Nat.le_of_ble_eq_true rfl) (Nat.le_of_ble_eq_true rfl) (cc_3 _) (s_X3_takeInt hb2) (fun r h q => ?_)
    obtain ⟨rfl, rfl⟩ := q
    simp only [Option.toList, List.cons_append, List.nil_append]
    subst he
    exact r_weak (L1 := [some (.ref 3), some (.ref t), none]) ⟨rfl, rfl, trivial⟩ (lp_X3_letterTold_46 htt _ _ _ hk)

def f_X3_letterTold_21 (fu : Nat) (y0 : Int32) (t : Nat) (s : fl_I) (l : fl_L) : Int32 × fl_I × fl_L :=
    if (y0 = 0) then f_X3_letterTold_49 fu  t s l else f_X3_letterTold_36 fu (f_X3_takeName fu (s t 0) (t + 1) 4 s l).1 t (f_X3_takeName fu (s t 0) (t + 1) 4 s l).2.1 (f_X3_takeName fu (s t 0) (t + 1) 4 s l).2.2

def p_X3_letterTold_21 (fu : Nat) (y0 : Int32) (t : Nat) (s : fl_I) (l : fl_L) : Prop :=
    (((y0 = 0) → p_X3_letterTold_49 fu  t s l) ∧ (¬ (y0 = 0) → (p_X3_takeName fu (s t 0) (t + 1) 4 s l) ∧ p_X3_letterTold_36 fu (f_X3_takeName fu (s t 0) (t + 1) 4 s l).1 t (f_X3_takeName fu (s t 0) (t + 1) 4 s l).2.1 (f_X3_takeName fu (s t 0) (t + 1) 4 s l).2.2))

set_option maxRecDepth 100000 in
set_option maxHeartbeats 1000000 in
theorem lp_X3_letterTold_21 {G : ab_G} {fu : Nat} {d : Nat} {D : fl_D} {t : Nat} (htt : isT t) : ∀ (y0 : Int32) (s : fl_I) (l : fl_L), p_X3_letterTold_21 fu y0 t s l → ab_C G (d + 3) 0 0 M_X3_letterTold 21 [some (.ref 3), some (.ref t), none] [.int y0] (hp D s l) (rt (some (.int (f_X3_letterTold_21 fu y0 t s l).1)) (hp D (f_X3_letterTold_21 fu y0 t s l).2.1 (f_X3_letterTold_21 fu y0 t s l).2.2)) := by
  intro y0 s l hk
  generalize he : f_X3_letterTold_21 fu y0 t s l = res
  unfold f_X3_letterTold_21 at he
  unfold p_X3_letterTold_21 at hk
  refine r_if_eq rfl (fun c_21 => ?_) (fun c_21 => ?_)
  · rw [if_pos c_21] at he
    replace hk := hk.1 c_21
    subst he
    exact r_weak (L1 := [none, none, none]) trivial (lp_X3_letterTold_49 htt _ _ hk)
  · rw [if_neg c_21] at he
    replace hk := hk.2 c_21
    refine r_aload_n rfl rfl ?_
    refine r_aload_n rfl rfl ?_
    refine q_getfield rfl (cT_0 htt) rfl ?_
    refine r_aload_n rfl rfl ?_
    refine q_getfield rfl (cT_0 htt) rfl ?_
    obtain ⟨hb1, hk⟩ := hk
    refine q_callV0 [_, _] _ rfl kY_X3_takeName kT_X3_takeName rfl rfl (Nat.le_of_ble_eq_true rfl) (Nat.le_of_ble_eq_true rfl) (cc_3 _) (s_X3_takeName (cT_1 htt) hb1) (fun r h q => ?_)
    obtain ⟨rfl, rfl⟩ := q
    simp only [Option.toList, List.cons_append, List.nil_append]
    subst he
    exact r_weak (L1 := [some (.ref 3), some (.ref t), none]) ⟨rfl, rfl, trivial⟩ (lp_X3_letterTold_36 htt _ _ _ hk)

def f_X3_letterTold_13 (fu : Nat) (y0 : Int32) (t : Nat) (s : fl_I) (l : fl_L) : Int32 × fl_I × fl_L :=
    (y0, s, l)

def p_X3_letterTold_13 (fu : Nat) (y0 : Int32) (t : Nat) (s : fl_I) (l : fl_L) : Prop :=
    (y0 = 0 ∨ y0 = 1) ∧ True

set_option maxRecDepth 100000 in
set_option maxHeartbeats 1000000 in
theorem lp_X3_letterTold_13 {G : ab_G} {fu : Nat} {d : Nat} {D : fl_D} {t : Nat} (htt : isT t) : ∀ (y0 : Int32) (s : fl_I) (l : fl_L), p_X3_letterTold_13 fu y0 t s l → ab_C G (d + 3) 0 0 M_X3_letterTold 13 [none, none, none] [.int y0] (hp D s l) (rt (some (.int (f_X3_letterTold_13 fu y0 t s l).1)) (hp D (f_X3_letterTold_13 fu y0 t s l).2.1 (f_X3_letterTold_13 fu y0 t s l).2.2)) := by
  intro y0 s l hk
  generalize he : f_X3_letterTold_13 fu y0 t s l = res
  unfold f_X3_letterTold_13 at he
  unfold p_X3_letterTold_13 at hk
  obtain ⟨hb7, hk⟩ := hk
  refine r_iret rfl rfl (nar_b hb7) ?_
  first | with_reducible exact fin_i he | exact fin_i he

def f_X3_letterTold (fu : Nat) (t : Nat) (s : fl_I) (l : fl_L) : Int32 × fl_I × fl_L :=
  if ((s t 0) < (4 : Int32)) then f_X3_letterTold_21 fu (f_X3_take fu (256 : Int32) s l).1 t (f_X3_take fu (256 : Int32) s l).2.1 (f_X3_take fu (256 : Int32) s l).2.2 else f_X3_letterTold_13 fu (f_X3_stop fu (2 : Int32) s l).1 t (f_X3_stop fu (2 : Int32) s l).2.1 (f_X3_stop fu (2 : Int32) s l).2.2

def p_X3_letterTold (fu : Nat) (t : Nat) (s : fl_I) (l : fl_L) : Prop :=
  ((((s t 0) < (4 : Int32)) → (p_X3_take fu (256 : Int32) s l) ∧ p_X3_letterTold_21 fu (f_X3_take fu (256 : Int32) s l).1 t (f_X3_take fu (256 : Int32) s l).2.1 (f_X3_take fu (256 : Int32) s l).2.2) ∧ (¬ ((s t 0) < (4 : Int32)) → (p_X3_stop fu (2 : Int32) s l) ∧ p_X3_letterTold_13 fu (f_X3_stop fu (2 : Int32) s l).1 t (f_X3_stop fu (2 : Int32) s l).2.1 (f_X3_stop fu (2 : Int32) s l).2.2))

set_option maxRecDepth 100000 in
set_option maxHeartbeats 1000000 in
theorem s_X3_letterTold {G : ab_G} {fu : Nat} {d : Nat} {D : fl_D} {s : fl_I} {l : fl_L} {t : Nat} (htt : isT t)  (hk : p_X3_letterTold fu t s l) : ab_C G (d + 3) 0 0 M_X3_letterTold 0 (ab_ent [.ref 3, .ref t]) [] (hp D s l) (rt (some (.int (f_X3_letterTold fu t s l).1)) (hp D (f_X3_letterTold fu t s l).2.1 (f_X3_letterTold fu t s l).2.2)) := by
  generalize he : (f_X3_letterTold fu t s l) = res
  unfold f_X3_letterTold at he
  unfold p_X3_letterTold at hk
  refine r_weak (L1 := [some (.ref 3), some (.ref t), none]) ⟨rfl, rfl, trivial⟩ ?_
  refine r_aload_n rfl rfl ?_
  refine q_getfield rfl (cT_0 htt) rfl ?_
  refine r_iconst_ (a := 4) rfl (by decide) ?_
  refine r_icmp_lt rfl (fun c_5 => ?_) (fun c_5 => ?_)
  · rw [if_pos c_5] at he
    replace hk := hk.1 c_5
    refine r_aload_n rfl rfl ?_
    refine r_sipush_ (a := 256) rfl (by decide) ?_
    obtain ⟨hb0, hk⟩ := hk
    refine q_callV0 [_] _ rfl kY_X3_take kT_X3_take rfl rfl (Nat.le_of_ble_eq_true rfl) (Nat.le_of_ble_eq_true rfl) (cc_3 _) (s_X3_take hb0) (fun r h q => ?_)
    obtain ⟨rfl, rfl⟩ := q
    simp only [Option.toList, List.cons_append, List.nil_append]
    subst he
    exact r_weak (L1 := [some (.ref 3), some (.ref t), none]) ⟨rfl, rfl, trivial⟩ (lp_X3_letterTold_21 htt _ _ _ hk)
  · rw [if_neg c_5] at he
    replace hk := hk.2 c_5
    refine r_aload_n rfl rfl ?_
    refine r_iconst_ (a := 2) rfl (by decide) ?_
    obtain ⟨hb6, hk⟩ := hk
    refine q_callV0 [_] _ rfl kY_X3_stop kT_X3_stop rfl rfl (Nat.le_of_ble_eq_true rfl) (Nat.le_of_ble_eq_true rfl) (cc_3 _) (s_X3_stop hb6) (fun r h q => ?_)
    obtain ⟨rfl, rfl⟩ := q
    simp only [Option.toList, List.cons_append, List.nil_append]
    subst he
    exact r_weak (L1 := [none, none, none]) trivial (lp_X3_letterTold_13 htt _ _ _ hk)

def f_X11_pieceIn (fu : Nat) (v0 : Int32) (v1 : Int32) (v2 : Int32) (D : fl_D) (s : fl_I) (l : fl_L) : Int32 × fl_I × fl_L :=
  if ((f_X11_isPiece fu v0 s l) = 0) then ((-1 : Int32), s, l) else if (v1 < 0) then ((-1 : Int32), s, l) else if ((40 : Int32) < v1) then ((-1 : Int32), s, l) else if (v2 < 0) then ((-1 : Int32), s, l) else if (v2 ≤ (2 : Int32)) then if (v2 = (2 : Int32)) then ((f_X10_holder fu v0 37 (f_X9_goOn fu v1 ((f_X10_copy fu 37 31 s l).1 (if D.2.2.1 then 20 else 9) 18) (if D.2.2.1 then 20 else 9) 37 (f_X10_copy fu 37 31 s l).1 (f_X10_copy fu 37 31 s l).2).1 (f_X9_goOn fu v1 ((f_X10_copy fu 37 31 s l).1 (if D.2.2.1 then 20 else 9) 18) (if D.2.2.1 then 20 else 9) 37 (f_X10_copy fu 37 31 s l).1 (f_X10_copy fu 37 31 s l).2).2), (f_X9_goOn fu v1 ((f_X10_copy fu 37 31 s l).1 (if D.2.2.1 then 20 else 9) 18) (if D.2.2.1 then 20 else 9) 37 (f_X10_copy fu 37 31 s l).1 (f_X10_copy fu 37 31 s l).2).1, (f_X9_goOn fu v1 ((f_X10_copy fu 37 31 s l).1 (if D.2.2.1 then 20 else 9) 18) (if D.2.2.1 then 20 else 9) 37 (f_X10_copy fu 37 31 s l).1 (f_X10_copy fu 37 31 s l).2).2) else if (v2 = 0) then (((f_X10_cellOf fu v0 37 (f_X9_goOn fu v1 ((f_X10_copy fu 37 31 s l).1 (if D.2.2.1 then 20 else 9) 18) (if D.2.2.1 then 20 else 9) 37 (f_X10_copy fu 37 31 s l).1 (f_X10_copy fu 37 31 s l).2).1 (f_X9_goOn fu v1 ((f_X10_copy fu 37 31 s l).1 (if D.2.2.1 then 20 else 9) 18) (if D.2.2.1 then 20 else 9) 37 (f_X10_copy fu 37 31 s l).1 (f_X10_copy fu 37 31 s l).2).2) - (f_X10_cellOf fu v0 37 (f_X9_goOn fu v1 ((f_X10_copy fu 37 31 s l).1 (if D.2.2.1 then 20 else 9) 18) (if D.2.2.1 then 20 else 9) 37 (f_X10_copy fu 37 31 s l).1 (f_X10_copy fu 37 31 s l).2).1 (f_X9_goOn fu v1 ((f_X10_copy fu 37 31 s l).1 (if D.2.2.1 then 20 else 9) 18) (if D.2.2.1 then 20 else 9) 37 (f_X10_copy fu 37 31 s l).1 (f_X10_copy fu 37 31 s l).2).2) / (10 : Int32) * (10 : Int32)), (f_X9_goOn fu v1 ((f_X10_copy fu 37 31 s l).1 (if D.2.2.1 then 20 else 9) 18) (if D.2.2.1 then 20 else 9) 37 (f_X10_copy fu 37 31 s l).1 (f_X10_copy fu 37 31 s l).2).1, (f_X9_goOn fu v1 ((f_X10_copy fu 37 31 s l).1 (if D.2.2.1 then 20 else 9) 18) (if D.2.2.1 then 20 else 9) 37 (f_X10_copy fu 37 31 s l).1 (f_X10_copy fu 37 31 s l).2).2) else (((f_X10_cellOf fu v0 37 (f_X9_goOn fu v1 ((f_X10_copy fu 37 31 s l).1 (if D.2.2.1 then 20 else 9) 18) (if D.2.2.1 then 20 else 9) 37 (f_X10_copy fu 37 31 s l).1 (f_X10_copy fu 37 31 s l).2).1 (f_X9_goOn fu v1 ((f_X10_copy fu 37 31 s l).1 (if D.2.2.1 then 20 else 9) 18) (if D.2.2.1 then 20 else 9) 37 (f_X10_copy fu 37 31 s l).1 (f_X10_copy fu 37 31 s l).2).2) / (10 : Int32)), (f_X9_goOn fu v1 ((f_X10_copy fu 37 31 s l).1 (if D.2.2.1 then 20 else 9) 18) (if D.2.2.1 then 20 else 9) 37 (f_X10_copy fu 37 31 s l).1 (f_X10_copy fu 37 31 s l).2).1, (f_X9_goOn fu v1 ((f_X10_copy fu 37 31 s l).1 (if D.2.2.1 then 20 else 9) 18) (if D.2.2.1 then 20 else 9) 37 (f_X10_copy fu 37 31 s l).1 (f_X10_copy fu 37 31 s l).2).2) else ((-1 : Int32), s, l)

def p_X11_pieceIn (fu : Nat) (v0 : Int32) (v1 : Int32) (v2 : Int32) (D : fl_D) (s : fl_I) (l : fl_L) : Prop :=
  (p_X11_isPiece fu v0 s l) ∧ ((((f_X11_isPiece fu v0 s l) = 0) → True) ∧ (¬ ((f_X11_isPiece fu v0 s l) = 0) → (((v1 < 0) → True) ∧ (¬ (v1 < 0) → ((((40 : Int32) < v1) → True) ∧ (¬ ((40 : Int32) < v1) → (((v2 < 0) → True) ∧ (¬ (v2 < 0) → (((v2 ≤ (2 : Int32)) → (p_X10_copy fu 37 31 s l) ∧ (p_X9_goOn fu v1 ((f_X10_copy fu 37 31 s l).1 (if D.2.2.1 then 20 else 9) 18) (if D.2.2.1 then 20 else 9) 37 (f_X10_copy fu 37 31 s l).1 (f_X10_copy fu 37 31 s l).2) ∧ (((v2 = (2 : Int32)) → (p_X10_holder fu v0 37 (f_X9_goOn fu v1 ((f_X10_copy fu 37 31 s l).1 (if D.2.2.1 then 20 else 9) 18) (if D.2.2.1 then 20 else 9) 37 (f_X10_copy fu 37 31 s l).1 (f_X10_copy fu 37 31 s l).2).1 (f_X9_goOn fu v1 ((f_X10_copy fu 37 31 s l).1 (if D.2.2.1 then 20 else 9) 18) (if D.2.2.1 then 20 else 9) 37 (f_X10_copy fu 37 31 s l).1 (f_X10_copy fu 37 31 s l).2).2) ∧ True) ∧ (¬ (v2 = (2 : Int32)) → (p_X10_cellOf fu v0 37 (f_X9_goOn fu v1 ((f_X10_copy fu 37 31 s l).1 (if D.2.2.1 then 20 else 9) 18) (if D.2.2.1 then 20 else 9) 37 (f_X10_copy fu 37 31 s l).1 (f_X10_copy fu 37 31 s l).2).1 (f_X9_goOn fu v1 ((f_X10_copy fu 37 31 s l).1 (if D.2.2.1 then 20 else 9) 18) (if D.2.2.1 then 20 else 9) 37 (f_X10_copy fu 37 31 s l).1 (f_X10_copy fu 37 31 s l).2).2) ∧ (((v2 = 0) → True) ∧ (¬ (v2 = 0) → True))))) ∧ (¬ (v2 ≤ (2 : Int32)) → True))))))))))

set_option maxRecDepth 100000 in
set_option maxHeartbeats 1000000 in
theorem s_X11_pieceIn {G : ab_G} {fu : Nat} {d : Nat} {D : fl_D} {s : fl_I} {l : fl_L} {v0 : Int32} {v1 : Int32} {v2 : Int32} (hk : p_X11_pieceIn fu v0 v1 v2 D s l) : ab_C G (d + 5) 0 0 M_X11_pieceIn 0 (ab_ent [.ref 0, .int v0, .int v1, .int v2]) [] (hp D s l) (rt (some (.int (f_X11_pieceIn fu v0 v1 v2 D s l).1)) (hp D (f_X11_pieceIn fu v0 v1 v2 D s l).2.1 (f_X11_pieceIn fu v0 v1 v2 D s l).2.2)) := by
  generalize he : (f_X11_pieceIn fu v0 v1 v2 D s l) = res
  unfold f_X11_pieceIn at he
  unfold p_X11_pieceIn at hk
  refine r_weak (L1 := [some (.ref 0), some (.int v0), some (.int v1), some (.int v2), none]) ⟨rfl, rfl, rfl, rfl, trivial⟩ ?_
  refine r_aload_n rfl rfl ?_
  refine r_iload_n rfl rfl ?_
  obtain ⟨hb0, hk⟩ := hk
  refine q_callV0 [_] _ rfl kY_X11_isPiece kT_X11_isPiece rfl rfl (Nat.le_of_ble_eq_true rfl) (Nat.le_of_ble_eq_true rfl) (cc_0 _) (s_X11_isPiece hb0) (fun r h q => ?_)
  obtain ⟨rfl, rfl⟩ := q
  simp only [Option.toList, List.cons_append, List.nil_append]
  refine r_if_eq rfl (fun c_5 => ?_) (fun c_5 => ?_)
  · rw [if_pos c_5] at he
    replace hk := hk.1 c_5
    refine r_iconst_ (a := -1) rfl (by decide) ?_
    refine r_iret rfl rfl rfl ?_
    first | with_reducible exact fin_i he | exact fin_i he
  · rw [if_neg c_5] at he
    replace hk := hk.2 c_5
    refine r_iload_n rfl rfl ?_
    refine r_if_lt rfl (fun c_9 => ?_) (fun c_9 => ?_)
    · rw [if_pos c_9] at he
      replace hk := hk.1 c_9
      refine r_iconst_ (a := -1) rfl (by decide) ?_
      refine r_iret rfl rfl rfl ?_
      first | with_reducible exact fin_i he | exact fin_i he
    · rw [if_neg c_9] at he
      replace hk := hk.2 c_9
      refine r_iload_n rfl rfl ?_
      refine r_bipush_ (a := 40) rfl (by decide) ?_
      refine r_icmp_gt rfl (fun c_15 => ?_) (fun c_15 => ?_)
      · rw [if_pos c_15] at he
        replace hk := hk.1 c_15
        refine r_iconst_ (a := -1) rfl (by decide) ?_
        refine r_iret rfl rfl rfl ?_
        first | with_reducible exact fin_i he | exact fin_i he
      · rw [if_neg c_15] at he
        replace hk := hk.2 c_15
        refine r_iload_n rfl rfl ?_
        refine r_if_lt rfl (fun c_19 => ?_) (fun c_19 => ?_)
        · rw [if_pos c_19] at he
          replace hk := hk.1 c_19
          refine r_iconst_ (a := -1) rfl (by decide) ?_
          refine r_iret rfl rfl rfl ?_
          first | with_reducible exact fin_i he | exact fin_i he
        · rw [if_neg c_19] at he
          replace hk := hk.2 c_19
          refine r_iload_n rfl rfl ?_
          refine r_iconst_ (a := 2) rfl (by decide) ?_
          refine r_icmp_le rfl (fun c_24 => ?_) (fun c_24 => ?_)
          · rw [if_pos c_24] at he
            replace hk := hk.1 c_24
            refine r_aload_n rfl rfl ?_
            refine q_getfield rfl (cc_0 _) rfl ?_
            refine r_aload_n rfl rfl ?_
            refine q_getfield rfl (cc_0 _) rfl ?_
            obtain ⟨hb1, hk⟩ := hk
            refine q_callV0 [_] _ rfl kY_X10_copy kT_X10_copy rfl rfl (Nat.le_of_ble_eq_true rfl) (Nat.le_of_ble_eq_true rfl) (cc_37 _) (s_X10_copy (Or.inr (Or.inl rfl)) (Or.inl rfl) hb1) (fun r h q => ?_)
            obtain ⟨rfl, rfl⟩ := q
            simp only [Option.toList, List.cons_append, List.nil_append]
            refine r_aload_n rfl rfl ?_
            refine q_getfield rfl (cc_0 _) rfl ?_
            refine r_aload_n rfl rfl ?_
            refine q_getfield rfl (cc_0 _) rfl ?_
            refine r_aload_n rfl rfl ?_
            refine q_getfield rfl (cc_0 _) rfl ?_
            refine r_iload_n rfl rfl ?_
            refine r_aload_n rfl rfl ?_
            refine q_getfield rfl (cc_0 _) rfl ?_
            refine q_getfield rfl (cT_0 (isT_l _)) rfl ?_
            obtain ⟨hb2, hk⟩ := hk
            refine q_callV0 [_, _, _, _] _ rfl kY_X9_goOn kT_X9_goOn rfl rfl (Nat.le_of_ble_eq_true rfl) (Nat.le_of_ble_eq_true rfl) (cc_46 _) (s_X9_goOn (isT_l _) (Or.inr (Or.inl rfl)) hb2) (fun r h q => ?_)
            obtain ⟨rfl, rfl⟩ := q
            simp only [Option.toList, List.cons_append, List.nil_append]
            refine r_iload_n rfl rfl ?_
            refine r_iconst_ (a := 2) rfl (by decide) ?_
            refine r_icmp_ne rfl (fun c_65 => ?_) (fun c_65 => ?_)
            · rw [if_neg c_65] at he
              replace hk := hk.2 c_65
              refine r_aload_n rfl rfl ?_
              refine q_getfield rfl (cc_0 _) rfl ?_
              refine r_iload_n rfl rfl ?_
              obtain ⟨hb3, hk⟩ := hk
              refine q_callV0 [_] _ rfl kY_X10_cellOf kT_X10_cellOf rfl rfl (Nat.le_of_ble_eq_true rfl) (Nat.le_of_ble_eq_true rfl) (cc_37 _) (s_X10_cellOf (Or.inr (Or.inl rfl)) hb3) (fun r h q => ?_)
              obtain ⟨rfl, rfl⟩ := q
              simp only [Option.toList, List.cons_append, List.nil_append]
              refine r_istore rfl (Nat.le_of_ble_eq_true rfl) rfl ?_
              refine r_iload_n rfl rfl ?_
              refine r_if_ne rfl (fun c_88 => ?_) (fun c_88 => ?_)
              · rw [if_neg c_88] at he
                replace hk := hk.2 c_88
                refine r_iload rfl rfl ?_
                refine r_bipush_ (a := 10) rfl (by decide) ?_
                refine r_idiv rfl (by decide) ?_
                refine r_iret rfl rfl rfl ?_
                first | with_reducible exact fin_i he | exact fin_i he
              · rw [if_pos c_88] at he
                replace hk := hk.1 c_88
                refine r_iload rfl rfl ?_
                refine r_bipush_ (a := 10) rfl (by decide) ?_
                refine r_irem rfl (by decide) ?_
                refine r_goto rfl ?_
                refine r_iret rfl rfl rfl ?_
                first | with_reducible exact fin_i he | exact fin_i he
            · rw [if_pos c_65] at he
              replace hk := hk.1 c_65
              refine r_aload_n rfl rfl ?_
              refine q_getfield rfl (cc_0 _) rfl ?_
              refine r_iload_n rfl rfl ?_
              obtain ⟨hb4, hk⟩ := hk
              refine q_callV0 [_] _ rfl kY_X10_holder kT_X10_holder rfl rfl (Nat.le_of_ble_eq_true rfl) (Nat.le_of_ble_eq_true rfl) (cc_37 _) (s_X10_holder (Or.inr (Or.inl rfl)) hb4) (fun r h q => ?_)
              obtain ⟨rfl, rfl⟩ := q
              simp only [Option.toList, List.cons_append, List.nil_append]
              refine r_iret rfl rfl rfl ?_
              first | with_reducible exact fin_i he | exact fin_i he
          · rw [if_neg c_24] at he
            replace hk := hk.2 c_24
            refine r_iconst_ (a := -1) rfl (by decide) ?_
            refine r_iret rfl rfl rfl ?_
            first | with_reducible exact fin_i he | exact fin_i he

