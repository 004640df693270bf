def f_X0_gather_11 (fu : Nat) : Nat → Int32 → Int32 → Nat → Nat → fl_I → fl_L → fl_I × fl_L
  | 0, x3, x4, t, a, s, l => (s, l)
  | n + 1, x3, x4, t, a, s, l =>
    if ((s a 1) ≤ x4) then (s, l) else if (x3 = (5 : Int32)) then f_X0_gather_11 fu n x3 (x4 + 1) t a (wi s 56 ((s (t + 4) x4.toNatClampNeg) &&& (31 : Int32)).toNatClampNeg ((s 56 ((s (t + 4) x4.toNatClampNeg) &&& (31 : Int32)).toNatClampNeg) + (1 : Int32))) l else if (x3 = (4 : Int32)) then if ((f_X10_isLying fu x4 a s l) = 0) then f_X0_gather_11 fu n x3 (x4 + 1) t a s l else f_X0_gather_11 fu n x3 (x4 + 1) t a (wi s 56 ((s (t + 4) x4.toNatClampNeg) &&& (31 : Int32)).toNatClampNeg ((s 56 ((s (t + 4) x4.toNatClampNeg) &&& (31 : Int32)).toNatClampNeg) + (1 : Int32))) l else if ((f_X10_holder fu x4 a s l) = x3) then f_X0_gather_11 fu n x3 (x4 + 1) t a (wi s 56 ((s (t + 4) x4.toNatClampNeg) &&& (31 : Int32)).toNatClampNeg ((s 56 ((s (t + 4) x4.toNatClampNeg) &&& (31 : Int32)).toNatClampNeg) + (1 : Int32))) l else f_X0_gather_11 fu n x3 (x4 + 1) t a s l

def p_X0_gather_11 (fu : Nat) : Nat → Int32 → Int32 → Nat → Nat → fl_I → fl_L → Prop
  | 0, _, _, _, _, _, _ => False
  | n + 1, x3, x4, t, a, s, l =>
    ((((s a 1) ≤ x4) → True) ∧ (¬ ((s a 1) ≤ x4) → (p_X10_isLying fu x4 a s l) ∧ (((x3 = (5 : Int32)) → (vp_in x4 32) ∧ (vp_in ((s (t + 4) x4.toNatClampNeg) &&& (31 : Int32)) 32) ∧ (vp_in ((s (t + 4) x4.toNatClampNeg) &&& (31 : Int32)) 32) ∧ p_X0_gather_11 fu n x3 (x4 + 1) t a (wi s 56 ((s (t + 4) x4.toNatClampNeg) &&& (31 : Int32)).toNatClampNeg ((s 56 ((s (t + 4) x4.toNatClampNeg) &&& (31 : Int32)).toNatClampNeg) + (1 : Int32))) l) ∧ (¬ (x3 = (5 : Int32)) → (((x3 = (4 : Int32)) → ((((f_X10_isLying fu x4 a s l) = 0) → p_X0_gather_11 fu n x3 (x4 + 1) t a s l) ∧ (¬ ((f_X10_isLying fu x4 a s l) = 0) → (vp_in x4 32) ∧ (vp_in ((s (t + 4) x4.toNatClampNeg) &&& (31 : Int32)) 32) ∧ (vp_in ((s (t + 4) x4.toNatClampNeg) &&& (31 : Int32)) 32) ∧ p_X0_gather_11 fu n x3 (x4 + 1) t a (wi s 56 ((s (t + 4) x4.toNatClampNeg) &&& (31 : Int32)).toNatClampNeg ((s 56 ((s (t + 4) x4.toNatClampNeg) &&& (31 : Int32)).toNatClampNeg) + (1 : Int32))) l))) ∧ (¬ (x3 = (4 : Int32)) → (p_X10_holder fu x4 a s l) ∧ ((((f_X10_holder fu x4 a s l) = x3) → (vp_in x4 32) ∧ (vp_in ((s (t + 4) x4.toNatClampNeg) &&& (31 : Int32)) 32) ∧ (vp_in ((s (t + 4) x4.toNatClampNeg) &&& (31 : Int32)) 32) ∧ p_X0_gather_11 fu n x3 (x4 + 1) t a (wi s 56 ((s (t + 4) x4.toNatClampNeg) &&& (31 : Int32)).toNatClampNeg ((s 56 ((s (t + 4) x4.toNatClampNeg) &&& (31 : Int32)).toNatClampNeg) + (1 : Int32))) l) ∧ (¬ ((f_X10_holder fu x4 a s l) = x3) → p_X0_gather_11 fu n x3 (x4 + 1) t a s l))))))))

set_option maxRecDepth 100000 in
set_option maxHeartbeats 1000000 in
theorem lp_X0_gather_11 {G : ab_G} {fu : Nat} {d : Nat} {D : fl_D} {t : Nat} (htt : isT t) {a : Nat} (hya : isY D a) : ∀ (n : Nat) (x3 : Int32) (x4 : Int32) (s : fl_I) (l : fl_L), p_X0_gather_11 fu n x3 x4 t a s l → ab_C G (d + 1) 0 0 M_X0_gather 11 [some (.ref 55), some (.ref t), some (.ref a), some (.int x3), some (.int x4), none] [] (hp D s l) (rt none (hp D (f_X0_gather_11 fu n x3 x4 t a s l).1 (f_X0_gather_11 fu n x3 x4 t a s l).2)) := by
  intro n
  induction n with
  | zero => intro x3 x4 s l hk; exact hk.elim
  | succ n ih =>
    intro x3 x4 s l hk
    generalize he : f_X0_gather_11 fu (n + 1) x3 x4 t a s l = res
    unfold f_X0_gather_11 at he
    unfold p_X0_gather_11 at hk
    refine r_iload rfl rfl ?_
    refine r_aload_n rfl rfl ?_
    refine q_getfield rfl (cY_0 hya) rfl ?_
    refine r_icmp_ge rfl (fun c_17 => ?_) (fun c_17 => ?_)
    · rw [if_pos c_17] at he
      replace hk := hk.1 c_17
      refine r_ret rfl rfl ?_
      first | with_reducible exact fin_v he | exact fin_v he
    · rw [if_neg c_17] at he
      replace hk := hk.2 c_17
      refine r_aload_n rfl rfl ?_
      refine r_iload rfl rfl ?_
      obtain ⟨hb0, hk⟩ := hk
      refine q_callV0 [_] _ rfl kY_X10_isLying kT_X10_isLying rfl rfl (Nat.le_of_ble_eq_true rfl) (Nat.le_of_ble_eq_true rfl) (cY_0 hya) (s_X10_isLying hya hb0) (fun r h q => ?_)
      obtain ⟨rfl, rfl⟩ := q
      simp only [Option.toList, List.cons_append, List.nil_append]
      refine r_istore rfl (Nat.le_of_ble_eq_true rfl) rfl ?_
      refine r_iload_n rfl rfl ?_
      refine r_iconst_ (a := 5) rfl (by decide) ?_
      refine r_icmp_eq rfl (fun c_30 => ?_) (fun c_30 => ?_)
      · rw [if_pos c_30] at he
        replace hk := hk.1 c_30
        refine r_aload_n rfl rfl ?_
        refine q_getfield rfl (cc_55 _) rfl ?_
        refine r_aload_n rfl rfl ?_
        refine q_getfield rfl (cT_0 htt) rfl ?_
        refine r_iload rfl rfl ?_
        obtain ⟨hb1, hk⟩ := hk
        refine q_iald rfl (cT_4 htt) hb1 ?_
        refine r_bipush_ (a := 31) rfl (by decide) ?_
        refine r_iand rfl ?_
        refine r_dup2 rfl rfl rfl ?_
        obtain ⟨hb2, hk⟩ := hk
        refine q_iald rfl (cc_56 _) hb2 ?_
        refine r_iconst_ (a := 1) rfl (by decide) ?_
        refine r_iadd rfl ?_
        obtain ⟨hb3, hk⟩ := hk
        refine w_iast rfl (cc_56 _) hb3 ?_
        refine r_iinc (b := x4 + 1) rfl rfl rfl (Nat.le_of_ble_eq_true rfl) rfl ?_
        refine r_goto rfl ?_
        subst he
        exact r_weak (L1 := [some (.ref 55), some (.ref t), some (.ref a), some (.int x3), some (.int (x4 + 1)), none]) ⟨rfl, rfl, rfl, rfl, rfl, trivial⟩ (ih _ _ _ _ hk)
      · rw [if_neg c_30] at he
        replace hk := hk.2 c_30
        refine r_iload_n rfl rfl ?_
        refine r_iconst_ (a := 4) rfl (by decide) ?_
        refine r_icmp_ne rfl (fun c_35 => ?_) (fun c_35 => ?_)
        · rw [if_neg c_35] at he
          replace hk := hk.2 c_35
          refine r_aload_n rfl rfl ?_
          refine r_iload rfl rfl ?_
          obtain ⟨hb4, hk⟩ := hk
          refine q_callV0 [_] _ rfl kY_X10_holder kT_X10_holder rfl rfl (Nat.le_of_ble_eq_true rfl) (Nat.le_of_ble_eq_true rfl) (cY_0 hya) (s_X10_holder hya hb4) (fun r h q => ?_)
          obtain ⟨rfl, rfl⟩ := q
          simp only [Option.toList, List.cons_append, List.nil_append]
          refine r_iload_n rfl rfl ?_
          refine r_icmp_ne rfl (fun c_53 => ?_) (fun c_53 => ?_)
          · rw [if_neg c_53] at he
            replace hk := hk.2 c_53
            refine r_iinc (b := x4 + 1) rfl rfl rfl (Nat.le_of_ble_eq_true rfl) rfl ?_
            refine r_goto rfl ?_
            subst he
            exact r_weak (L1 := [some (.ref 55), some (.ref t), some (.ref a), some (.int x3), some (.int (x4 + 1)), none]) ⟨rfl, rfl, rfl, rfl, rfl, trivial⟩ (ih _ _ _ _ hk)
          · rw [if_pos c_53] at he
            replace hk := hk.1 c_53
            refine r_aload_n rfl rfl ?_
            refine q_getfield rfl (cc_55 _) rfl ?_
            refine r_aload_n rfl rfl ?_
            refine q_getfield rfl (cT_0 htt) rfl ?_
            refine r_iload rfl rfl ?_
            obtain ⟨hb5, hk⟩ := hk
            refine q_iald rfl (cT_4 htt) hb5 ?_
            refine r_bipush_ (a := 31) rfl (by decide) ?_
            refine r_iand rfl ?_
            refine r_dup2 rfl rfl rfl ?_
            obtain ⟨hb6, hk⟩ := hk
            refine q_iald rfl (cc_56 _) hb6 ?_
            refine r_iconst_ (a := 1) rfl (by decide) ?_
            refine r_iadd rfl ?_
            obtain ⟨hb7, hk⟩ := hk
            refine w_iast rfl (cc_56 _) hb7 ?_
            refine r_iinc (b := x4 + 1) rfl rfl rfl (Nat.le_of_ble_eq_true rfl) rfl ?_
            refine r_goto rfl ?_
            subst he
            exact r_weak (L1 := [some (.ref 55), some (.ref t), some (.ref a), some (.int x3), some (.int (x4 + 1)), none]) ⟨rfl, rfl, rfl, rfl, rfl, trivial⟩ (ih _ _ _ _ hk)
        · rw [if_pos c_35] at he
          replace hk := hk.1 c_35
          refine r_iload rfl rfl ?_
          refine r_if_eq rfl (fun c_40 => ?_) (fun c_40 => ?_)
          · rw [if_pos c_40] at he
            replace hk := hk.1 c_40
            refine r_iinc (b := x4 + 1) rfl rfl rfl (Nat.le_of_ble_eq_true rfl) rfl ?_
            refine r_goto rfl ?_
            subst he
            exact r_weak (L1 := [some (.ref 55), some (.ref t), some (.ref a), some (.int x3), some (.int (x4 + 1)), none]) ⟨rfl, rfl, rfl, rfl, rfl, trivial⟩ (ih _ _ _ _ hk)
          · rw [if_neg c_40] at he
            replace hk := hk.2 c_40
            refine r_goto rfl ?_
            refine r_aload_n rfl rfl ?_
            refine q_getfield rfl (cc_55 _) rfl ?_
            refine r_aload_n rfl rfl ?_
            refine q_getfield rfl (cT_0 htt) rfl ?_
            refine r_iload rfl rfl ?_
            obtain ⟨hb8, hk⟩ := hk
            refine q_iald rfl (cT_4 htt) hb8 ?_
            refine r_bipush_ (a := 31) rfl (by decide) ?_
            refine r_iand rfl ?_
            refine r_dup2 rfl rfl rfl ?_
            obtain ⟨hb9, hk⟩ := hk
            refine q_iald rfl (cc_56 _) hb9 ?_
            refine r_iconst_ (a := 1) rfl (by decide) ?_
            refine r_iadd rfl ?_
            obtain ⟨hb10, hk⟩ := hk
            refine w_iast rfl (cc_56 _) hb10 ?_
            refine r_iinc (b := x4 + 1) rfl rfl rfl (Nat.le_of_ble_eq_true rfl) rfl ?_
            refine r_goto rfl ?_
            subst he
            exact r_weak (L1 := [some (.ref 55), some (.ref t), some (.ref a), some (.int x3), some (.int (x4 + 1)), none]) ⟨rfl, rfl, rfl, rfl, rfl, trivial⟩ (ih _ _ _ _ hk)

def f_X0_gather (fu : Nat) (v2 : Int32) (t : Nat) (a : Nat) (s : fl_I) (l : fl_L) : fl_I × fl_L :=
  f_X0_gather_11 fu fu v2 (0 : Int32) t a (fl_fill (0 : Int32) 56 32 s l).1 (fl_fill (0 : Int32) 56 32 s l).2

def p_X0_gather (fu : Nat) (v2 : Int32) (t : Nat) (a : Nat) (s : fl_I) (l : fl_L) : Prop :=
  p_X0_gather_11 fu fu v2 (0 : Int32) t a (fl_fill (0 : Int32) 56 32 s l).1 (fl_fill (0 : Int32) 56 32 s l).2

set_option maxRecDepth 100000 in
set_option maxHeartbeats 1000000 in
theorem s_X0_gather {G : ab_G} {fu : Nat} {d : Nat} {D : fl_D} {s : fl_I} {l : fl_L} {t : Nat} (htt : isT t) {a : Nat} (hya : isY D a) {v2 : Int32} (hk : p_X0_gather fu v2 t a s l) : ab_C G (d + 1) 0 0 M_X0_gather 0 (ab_ent [.ref 55, .ref t, .ref a, .int v2]) [] (hp D s l) (rt none (hp D (f_X0_gather fu v2 t a s l).1 (f_X0_gather fu v2 t a s l).2)) := by
  generalize he : (f_X0_gather fu v2 t a s l) = res
  unfold f_X0_gather at he
  unfold p_X0_gather at hk
  refine r_weak (L1 := [some (.ref 55), some (.ref t), some (.ref a), some (.int v2), none, none]) ⟨rfl, rfl, rfl, rfl, trivial⟩ ?_
  refine r_aload_n rfl rfl ?_
  refine q_getfield rfl (cc_55 _) rfl ?_
  refine r_iconst_ (a := 0) rfl (by decide) ?_
  refine r_callS0 [_, _] _ rfl kY_J7_fill_53178 kT_J7_fill_53178 rfl rfl (Nat.le_of_ble_eq_true rfl) (Nat.le_of_ble_eq_true rfl) (s_fill (cc_56 _) (by omega)) (fun r h q => ?_)
  obtain ⟨rfl, rfl⟩ := q
  simp only [Option.toList, List.cons_append, List.nil_append]
  refine r_iconst_ (a := 0) rfl (by decide) ?_
  refine r_istore rfl (Nat.le_of_ble_eq_true rfl) rfl ?_
  subst he
  exact r_weak (L1 := [some (.ref 55), some (.ref t), some (.ref a), some (.int v2), some (.int (0 : Int32)), none]) ⟨rfl, rfl, rfl, rfl, rfl, trivial⟩ (lp_X0_gather_11 htt hya fu _ _ _ _ hk)

def f_X10_begin (fu : Nat) (a : Nat) (t : Nat) (s : fl_I) (l : fl_L) : fl_I × fl_L :=
  ((fl_fill (0 : Int32) (a + 5) 4 (fl_fill (-2 : Int32) (a + 4) 4 (fl_fill (0 : Int32) (a + 2) 32 (wc (wc (wi (wi (wi s a 0 (0 : Int32)) a 1 (i_min (32 : Int32) ((wi s a 0 (0 : Int32)) t 3))) a 2 (i_min (4 : Int32) ((wi (wi s a 0 (0 : Int32)) a 1 (i_min (32 : Int32) ((wi s a 0 (0 : Int32)) t 3))) t 2))) (t + 6) (a + 1) (0 : Int32).toNatClampNeg (0 : Int32).toNatClampNeg (32 : Int32).toNatClampNeg) (t + 7) (a + 3) (0 : Int32).toNatClampNeg (0 : Int32).toNatClampNeg (4 : Int32).toNatClampNeg) l).1 (fl_fill (0 : Int32) (a + 2) 32 (wc (wc (wi (wi (wi s a 0 (0 : Int32)) a 1 (i_min (32 : Int32) ((wi s a 0 (0 : Int32)) t 3))) a 2 (i_min (4 : Int32) ((wi (wi s a 0 (0 : Int32)) a 1 (i_min (32 : Int32) ((wi s a 0 (0 : Int32)) t 3))) t 2))) (t + 6) (a + 1) (0 : Int32).toNatClampNeg (0 : Int32).toNatClampNeg (32 : Int32).toNatClampNeg) (t + 7) (a + 3) (0 : Int32).toNatClampNeg (0 : Int32).toNatClampNeg (4 : Int32).toNatClampNeg) l).2).1 (fl_fill (-2 : Int32) (a + 4) 4 (fl_fill (0 : Int32) (a + 2) 32 (wc (wc (wi (wi (wi s a 0 (0 : Int32)) a 1 (i_min (32 : Int32) ((wi s a 0 (0 : Int32)) t 3))) a 2 (i_min (4 : Int32) ((wi (wi s a 0 (0 : Int32)) a 1 (i_min (32 : Int32) ((wi s a 0 (0 : Int32)) t 3))) t 2))) (t + 6) (a + 1) (0 : Int32).toNatClampNeg (0 : Int32).toNatClampNeg (32 : Int32).toNatClampNeg) (t + 7) (a + 3) (0 : Int32).toNatClampNeg (0 : Int32).toNatClampNeg (4 : Int32).toNatClampNeg) l).1 (fl_fill (0 : Int32) (a + 2) 32 (wc (wc (wi (wi (wi s a 0 (0 : Int32)) a 1 (i_min (32 : Int32) ((wi s a 0 (0 : Int32)) t 3))) a 2 (i_min (4 : Int32) ((wi (wi s a 0 (0 : Int32)) a 1 (i_min (32 : Int32) ((wi s a 0 (0 : Int32)) t 3))) t 2))) (t + 6) (a + 1) (0 : Int32).toNatClampNeg (0 : Int32).toNatClampNeg (32 : Int32).toNatClampNeg) (t + 7) (a + 3) (0 : Int32).toNatClampNeg (0 : Int32).toNatClampNeg (4 : Int32).toNatClampNeg) l).2).2).1, (fl_fill (0 : Int32) (a + 5) 4 (fl_fill (-2 : Int32) (a + 4) 4 (fl_fill (0 : Int32) (a + 2) 32 (wc (wc (wi (wi (wi s a 0 (0 : Int32)) a 1 (i_min (32 : Int32) ((wi s a 0 (0 : Int32)) t 3))) a 2 (i_min (4 : Int32) ((wi (wi s a 0 (0 : Int32)) a 1 (i_min (32 : Int32) ((wi s a 0 (0 : Int32)) t 3))) t 2))) (t + 6) (a + 1) (0 : Int32).toNatClampNeg (0 : Int32).toNatClampNeg (32 : Int32).toNatClampNeg) (t + 7) (a + 3) (0 : Int32).toNatClampNeg (0 : Int32).toNatClampNeg (4 : Int32).toNatClampNeg) l).1 (fl_fill (0 : Int32) (a + 2) 32 (wc (wc (wi (wi (wi s a 0 (0 : Int32)) a 1 (i_min (32 : Int32) ((wi s a 0 (0 : Int32)) t 3))) a 2 (i_min (4 : Int32) ((wi (wi s a 0 (0 : Int32)) a 1 (i_min (32 : Int32) ((wi s a 0 (0 : Int32)) t 3))) t 2))) (t + 6) (a + 1) (0 : Int32).toNatClampNeg (0 : Int32).toNatClampNeg (32 : Int32).toNatClampNeg) (t + 7) (a + 3) (0 : Int32).toNatClampNeg (0 : Int32).toNatClampNeg (4 : Int32).toNatClampNeg) l).2).1 (fl_fill (-2 : Int32) (a + 4) 4 (fl_fill (0 : Int32) (a + 2) 32 (wc (wc (wi (wi (wi s a 0 (0 : Int32)) a 1 (i_min (32 : Int32) ((wi s a 0 (0 : Int32)) t 3))) a 2 (i_min (4 : Int32) ((wi (wi s a 0 (0 : Int32)) a 1 (i_min (32 : Int32) ((wi s a 0 (0 : Int32)) t 3))) t 2))) (t + 6) (a + 1) (0 : Int32).toNatClampNeg (0 : Int32).toNatClampNeg (32 : Int32).toNatClampNeg) (t + 7) (a + 3) (0 : Int32).toNatClampNeg (0 : Int32).toNatClampNeg (4 : Int32).toNatClampNeg) l).1 (fl_fill (0 : Int32) (a + 2) 32 (wc (wc (wi (wi (wi s a 0 (0 : Int32)) a 1 (i_min (32 : Int32) ((wi s a 0 (0 : Int32)) t 3))) a 2 (i_min (4 : Int32) ((wi (wi s a 0 (0 : Int32)) a 1 (i_min (32 : Int32) ((wi s a 0 (0 : Int32)) t 3))) t 2))) (t + 6) (a + 1) (0 : Int32).toNatClampNeg (0 : Int32).toNatClampNeg (32 : Int32).toNatClampNeg) (t + 7) (a + 3) (0 : Int32).toNatClampNeg (0 : Int32).toNatClampNeg (4 : Int32).toNatClampNeg) l).2).2).2)

def p_X10_begin (fu : Nat) (a : Nat) (t : Nat) (s : fl_I) (l : fl_L) : Prop :=
  True

set_option maxRecDepth 100000 in
set_option maxHeartbeats 1000000 in
theorem s_X10_begin {G : ab_G} {fu : Nat} {d : Nat} {D : fl_D} {s : fl_I} {l : fl_L} {a : Nat} (hya : isY D a) {t : Nat} (htt : isT t)  (hk : p_X10_begin fu a t s l) : ab_C G (d + 1) 0 0 M_X10_begin 0 (ab_ent [.ref a, .ref t]) [] (hp D s l) (rt none (hp D (f_X10_begin fu a t s l).1 (f_X10_begin fu a t s l).2)) := by
  generalize he : (f_X10_begin fu a t s l) = res
  unfold f_X10_begin at he
  unfold p_X10_begin at hk
  refine r_weak (L1 := [some (.ref a), some (.ref t)]) ⟨rfl, rfl, trivial⟩ ?_
  refine r_aload_n rfl rfl ?_
  refine r_iconst_ (a := 0) rfl (by decide) ?_
  refine w_put rfl (cY_0 hya) ff_10_0 ft_10_0 (fun _ _ => (Nat.le_of_ble_eq_true rfl)) (fun _ _ => rfl) ?_
  refine r_aload_n rfl rfl ?_
  refine r_bipush_ (a := 32) rfl (by decide) ?_
  refine r_aload_n rfl rfl ?_
  refine q_getfield rfl (cT_0 htt) rfl ?_
  refine r_mmin rfl (Nat.le_of_ble_eq_true rfl) ?_
  refine w_put rfl (cY_0 hya) ff_10_1 ft_10_1 (fun _ _ => (Nat.le_of_ble_eq_true rfl)) (fun _ _ => rfl) ?_
  refine r_aload_n rfl rfl ?_
  refine r_iconst_ (a := 4) rfl (by decide) ?_
  refine r_aload_n rfl rfl ?_
  refine q_getfield rfl (cT_0 htt) rfl ?_
  refine r_mmin rfl (Nat.le_of_ble_eq_true rfl) ?_
  refine w_put rfl (cY_0 hya) ff_10_2 ft_10_2 (fun _ _ => (Nat.le_of_ble_eq_true rfl)) (fun _ _ => rfl) ?_
  refine r_aload_n rfl rfl ?_
  refine q_getfield rfl (cT_0 htt) rfl ?_
  refine r_iconst_ (a := 0) rfl (by decide) ?_
  refine r_aload_n rfl rfl ?_
  refine q_getfield rfl (cY_0 hya) rfl ?_
  refine r_iconst_ (a := 0) rfl (by decide) ?_
  refine r_bipush_ (a := 32) rfl (by decide) ?_
  refine w_copy rfl (cT_6 htt) (cY_1 hya) (by decide) (by decide) (by decide) (Nat.le_of_ble_eq_true rfl) (Nat.le_of_ble_eq_true rfl) (Nat.le_of_ble_eq_true rfl) ?_
  refine r_aload_n rfl rfl ?_
  refine q_getfield rfl (cT_0 htt) rfl ?_
  refine r_iconst_ (a := 0) rfl (by decide) ?_
  refine r_aload_n rfl rfl ?_
  refine q_getfield rfl (cY_0 hya) rfl ?_
  refine r_iconst_ (a := 0) rfl (by decide) ?_
  refine r_iconst_ (a := 4) rfl (by decide) ?_
  refine w_copy rfl (cT_7 htt) (cY_3 hya) (by decide) (by decide) (by decide) (Nat.le_of_ble_eq_true rfl) (Nat.le_of_ble_eq_true rfl) (Nat.le_of_ble_eq_true rfl) ?_
  refine r_aload_n rfl rfl ?_
  refine q_getfield rfl (cY_0 hya) rfl ?_
  refine r_iconst_ (a := 0) rfl (by decide) ?_
  refine r_callS0 [_, _] _ rfl kY_J7_fill_53178 kT_J7_fill_53178 rfl rfl (Nat.le_of_ble_eq_true rfl) (Nat.le_of_ble_eq_true rfl) (s_fill (cY_2 hya) (by omega)) (fun r h q => ?_)
  obtain ⟨rfl, rfl⟩ := q
  simp only [Option.toList, List.cons_append, List.nil_append]
  refine r_aload_n rfl rfl ?_
  refine q_getfield rfl (cY_0 hya) rfl ?_
  refine r_bipush_ (a := -2) rfl (by decide) ?_
  refine r_callS0 [_, _] _ rfl kY_J7_fill_53178 kT_J7_fill_53178 rfl rfl (Nat.le_of_ble_eq_true rfl) (Nat.le_of_ble_eq_true rfl) (s_fill (cY_4 hya) (by omega)) (fun r h q => ?_)
  obtain ⟨rfl, rfl⟩ := q
  simp only [Option.toList, List.cons_append, List.nil_append]
  refine r_aload_n rfl rfl ?_
  refine q_getfield rfl (cY_0 hya) rfl ?_
  refine r_iconst_ (a := 0) rfl (by decide) ?_
  refine r_callS0 [_, _] _ rfl kY_J7_fill_53178 kT_J7_fill_53178 rfl rfl (Nat.le_of_ble_eq_true rfl) (Nat.le_of_ble_eq_true rfl) (s_fill (cY_5 hya) (by omega)) (fun r h q => ?_)
  obtain ⟨rfl, rfl⟩ := q
  simp only [Option.toList, List.cons_append, List.nil_append]
  refine r_ret rfl rfl ?_
  first | with_reducible exact fin_v he | exact fin_v he

def f_X11_richest_30 (fu : Nat) : Nat → Int32 → Int32 → Int32 → Int32 → fl_I → fl_L → Int32 × fl_I × fl_L
  | 0, x1, x2, x3, x4, s, l => (0, s, l)
  | n + 1, x1, x2, x3, x4, s, l =>
    if ((80 : Int32) ≤ x4) then if (x1 = 0) then (x2, s, l) else if (x2 = (-2 : Int32)) then (x2, s, l) else (x3, s, l) else if ((s 59 x4.toNatClampNeg) ≤ x3) then f_X11_richest_30 fu n x1 x2 x3 (x4 + 1) s l else f_X11_richest_30 fu n x1 x4 (s 59 x4.toNatClampNeg) (x4 + 1) s l

def p_X11_richest_30 (fu : Nat) : Nat → Int32 → Int32 → Int32 → Int32 → fl_I → fl_L → Prop
  | 0, _, _, _, _, _, _ => False
  | n + 1, x1, x2, x3, x4, s, l =>
    ((((80 : Int32) ≤ x4) → (((x1 = 0) → True) ∧ (¬ (x1 = 0) → (((x2 = (-2 : Int32)) → True) ∧ (¬ (x2 = (-2 : Int32)) → True))))) ∧ (¬ ((80 : Int32) ≤ x4) → (vp_in x4 80) ∧ ((((s 59 x4.toNatClampNeg) ≤ x3) → p_X11_richest_30 fu n x1 x2 x3 (x4 + 1) s l) ∧ (¬ ((s 59 x4.toNatClampNeg) ≤ x3) → (vp_in x4 80) ∧ p_X11_richest_30 fu n x1 x4 (s 59 x4.toNatClampNeg) (x4 + 1) s l))))

set_option maxRecDepth 100000 in
set_option maxHeartbeats 1000000 in
theorem lp_X11_richest_30 {G : ab_G} {fu : Nat} {d : Nat} {D : fl_D} : ∀ (n : Nat) (x1 : Int32) (x2 : Int32) (x3 : Int32) (x4 : Int32) (s : fl_I) (l : fl_L), p_X11_richest_30 fu n x1 x2 x3 x4 s l → ab_C G (d + 2) 0 0 M_X11_richest 30 [some (.ref 0), some (.int x1), some (.int x2), some (.int x3), some (.int x4)] [] (hp D s l) (rt (some (.int (f_X11_richest_30 fu n x1 x2 x3 x4 s l).1)) (hp D (f_X11_richest_30 fu n x1 x2 x3 x4 s l).2.1 (f_X11_richest_30 fu n x1 x2 x3 x4 s l).2.2)) := by
  intro n
  induction n with
  | zero => intro x1 x2 x3 x4 s l hk; exact hk.elim
  | succ n ih =>
    intro x1 x2 x3 x4 s l hk
    generalize he : f_X11_richest_30 fu (n + 1) x1 x2 x3 x4 s l = res
    unfold f_X11_richest_30 at he
    unfold p_X11_richest_30 at hk
    refine r_iload rfl rfl ?_
    refine r_bipush_ (a := 80) rfl (by decide) ?_
    refine r_icmp_ge rfl (fun c_34 => ?_) (fun c_34 => ?_)
    · rw [if_pos c_34] at he
      replace hk := hk.1 c_34
      refine r_iload_n rfl rfl ?_
      refine r_if_eq rfl (fun c_66 => ?_) (fun c_66 => ?_)
      · rw [if_pos c_66] at he
        replace hk := hk.1 c_66
        refine r_iload_n rfl rfl ?_
        refine r_goto rfl ?_
        refine r_iret rfl rfl rfl ?_
        first | with_reducible exact fin_i he | exact fin_i he
      · rw [if_neg c_66] at he
        replace hk := hk.2 c_66
        refine r_iload_n rfl rfl ?_
        refine r_bipush_ (a := -2) rfl (by decide) ?_
        refine r_icmp_ne rfl (fun c_72 => ?_) (fun c_72 => ?_)
        · rw [if_neg c_72] at he
          replace hk := hk.2 c_72
          refine r_iload_n rfl rfl ?_
          refine r_iret rfl rfl rfl ?_
          first | with_reducible exact fin_i he | exact fin_i he
        · rw [if_pos c_72] at he
          replace hk := hk.1 c_72
          refine r_iload_n rfl rfl ?_
          refine r_goto rfl ?_
          refine r_iret rfl rfl rfl ?_
          first | with_reducible exact fin_i he | exact fin_i he
    · rw [if_neg c_34] at he
      replace hk := hk.2 c_34
      refine r_aload_n rfl rfl ?_
      refine q_getfield rfl (cc_0 _) rfl ?_
      refine r_iload rfl rfl ?_
      obtain ⟨hb1, hk⟩ := hk
      refine q_iald rfl (cc_59 _) hb1 ?_
      refine r_iload_n rfl rfl ?_
      refine r_icmp_le rfl (fun c_45 => ?_) (fun c_45 => ?_)
      · rw [if_pos c_45] at he
        replace hk := hk.1 c_45
        refine r_iinc (b := x4 + 1) rfl rfl rfl (Nat.le_of_ble_eq_true rfl) rfl ?_
        refine r_goto rfl ?_
        subst he
        exact r_weak (L1 := [some (.ref 0), some (.int x1), some (.int x2), some (.int x3), some (.int (x4 + 1))]) ⟨rfl, rfl, rfl, rfl, rfl, trivial⟩ (ih _ _ _ _ _ _ hk)
      · rw [if_neg c_45] at he
        replace hk := hk.2 c_45
        refine r_aload_n rfl rfl ?_
        refine q_getfield rfl (cc_0 _) rfl ?_
        refine r_iload rfl rfl ?_
        obtain ⟨hb2, hk⟩ := hk
        refine q_iald rfl (cc_59 _) hb2 ?_
        refine r_istore_n rfl (Nat.le_of_ble_eq_true rfl) rfl ?_
        refine r_iload rfl rfl ?_
        refine r_istore_n rfl (Nat.le_of_ble_eq_true rfl) rfl ?_
        refine r_iinc (b := x4 + 1) rfl rfl rfl (Nat.le_of_ble_eq_true rfl) rfl ?_
        refine r_goto rfl ?_
        subst he
        exact r_weak (L1 := [some (.ref 0), some (.int x1), some (.int x4), some (.int (s 59 x4.toNatClampNeg)), some (.int (x4 + 1))]) ⟨rfl, rfl, rfl, rfl, rfl, trivial⟩ (ih _ _ _ _ _ _ hk)

def f_X11_richest (fu : Nat) (v0 : Int32) (s : fl_I) (l : fl_L) : Int32 × fl_I × fl_L :=
  if (v0 < 0) then ((-1 : Int32), s, l) else if (v0 ≤ (1 : Int32)) then f_X11_richest_30 fu fu v0 (-2 : Int32) (0 : Int32) (0 : Int32) (f_X10_countAll fu 31 59 s l).1 (f_X10_countAll fu 31 59 s l).2 else ((-1 : Int32), s, l)

def p_X11_richest (fu : Nat) (v0 : Int32) (s : fl_I) (l : fl_L) : Prop :=
  (((v0 < 0) → True) ∧ (¬ (v0 < 0) → (((v0 ≤ (1 : Int32)) → (p_X10_countAll fu 31 59 s l) ∧ p_X11_richest_30 fu fu v0 (-2 : Int32) (0 : Int32) (0 : Int32) (f_X10_countAll fu 31 59 s l).1 (f_X10_countAll fu 31 59 s l).2) ∧ (¬ (v0 ≤ (1 : Int32)) → True))))

set_option maxRecDepth 100000 in
set_option maxHeartbeats 1000000 in
theorem s_X11_richest {G : ab_G} {fu : Nat} {d : Nat} {D : fl_D} {s : fl_I} {l : fl_L} {v0 : Int32} (hk : p_X11_richest fu v0 s l) : ab_C G (d + 2) 0 0 M_X11_richest 0 (ab_ent [.ref 0, .int v0]) [] (hp D s l) (rt (some (.int (f_X11_richest fu v0 s l).1)) (hp D (f_X11_richest fu v0 s l).2.1 (f_X11_richest fu v0 s l).2.2)) := by
  generalize he : (f_X11_richest fu v0 s l) = res
  unfold f_X11_richest at he
  unfold p_X11_richest at hk
  refine r_weak (L1 := [some (.ref 0), some (.int v0), none, none, none]) ⟨rfl, rfl, trivial⟩ ?_
  refine r_iload_n rfl rfl ?_
  refine r_if_lt rfl (fun c_1 => ?_) (fun c_1 => ?_)
  · rw [if_pos c_1] at he
    replace hk := hk.1 c_1
    refine r_iconst_ (a := -1) rfl (by decide) ?_
    refine r_iret rfl rfl rfl ?_
    first | with_reducible exact fin_i he | exact fin_i he
  · rw [if_neg c_1] at he
    replace hk := hk.2 c_1
    refine r_iload_n rfl rfl ?_
    refine r_iconst_ (a := 1) rfl (by decide) ?_
    refine r_icmp_le rfl (fun c_6 => ?_) (fun c_6 => ?_)
    · rw [if_pos c_6] at he
      replace hk := hk.1 c_6
      refine r_aload_n rfl rfl ?_
      refine q_getfield rfl (cc_0 _) rfl ?_
      refine r_aload_n rfl rfl ?_
      refine q_getfield rfl (cc_0 _) rfl ?_
      obtain ⟨hb0, hk⟩ := hk
      refine q_callV0 [_] _ rfl kY_X10_countAll kT_X10_countAll rfl rfl (Nat.le_of_ble_eq_true rfl) (Nat.le_of_ble_eq_true rfl) (cc_31 _) (s_X10_countAll (Or.inl rfl) (cc_59 _) hb0) (fun r h q => ?_)
      obtain ⟨rfl, rfl⟩ := q
      simp only [Option.toList, List.cons_append, List.nil_append]
      refine r_bipush_ (a := -2) rfl (by decide) ?_
      refine r_istore_n rfl (Nat.le_of_ble_eq_true rfl) rfl ?_
      refine r_iconst_ (a := 0) rfl (by decide) ?_
      refine r_istore_n rfl (Nat.le_of_ble_eq_true rfl) rfl ?_
      refine r_iconst_ (a := 0) rfl (by decide) ?_
      refine r_istore rfl (Nat.le_of_ble_eq_true rfl) rfl ?_
      subst he
      exact r_weak (L1 := [some (.ref 0), some (.int v0), some (.int (-2 : Int32)), some (.int (0 : Int32)), some (.int (0 : Int32))]) ⟨rfl, rfl, rfl, rfl, rfl, trivial⟩ (lp_X11_richest_30 fu _ _ _ _ _ _ hk)
    · rw [if_neg c_6] at he
      replace hk := hk.2 c_6
      refine r_iconst_ (a := -1) rfl (by decide) ?_
      refine r_iret rfl rfl rfl ?_
      first | with_reducible exact fin_i he | exact fin_i he

def f_X12_closest_23 (fu : Nat) : Nat → Int32 → Int32 → Int32 → Int32 → Int32 → fl_I → fl_L → Int32 × fl_I × fl_L
  | 0, x1, x2, x3, x4, x5, s, l => (0, s, l)
  | n + 1, x1, x2, x3, x4, x5, s, l =>
    if ((s 74 (s 60 18).toNatClampNeg) ≤ x5) then (x3, s, l) else if (x3 < 0) then f_X12_closest_23 fu n x1 x2 x5 (f_X12_stepsOff fu (f_X12_cellOfPicker fu x5 s l) (((10 : Int32) * x2) + x1)) (x5 + 1) s l else if ((f_X12_stepsOff fu (f_X12_cellOfPicker fu x5 s l) (((10 : Int32) * x2) + x1)) < x4) then f_X12_closest_23 fu n x1 x2 x5 (f_X12_stepsOff fu (f_X12_cellOfPicker fu x5 s l) (((10 : Int32) * x2) + x1)) (x5 + 1) s l else f_X12_closest_23 fu n x1 x2 x3 x4 (x5 + 1) s l

def p_X12_closest_23 (fu : Nat) : Nat → Int32 → Int32 → Int32 → Int32 → Int32 → fl_I → fl_L → Prop
  | 0, _, _, _, _, _, _, _ => False
  | n + 1, x1, x2, x3, x4, x5, s, l =>
    (vp_in (s 60 18) 2) ∧ ((((s 74 (s 60 18).toNatClampNeg) ≤ x5) → True) ∧ (¬ ((s 74 (s 60 18).toNatClampNeg) ≤ x5) → (p_X12_cellOfPicker fu x5 s l) ∧ (p_X12_stepsOff fu (f_X12_cellOfPicker fu x5 s l) (((10 : Int32) * x2) + x1)) ∧ (((x3 < 0) → p_X12_closest_23 fu n x1 x2 x5 (f_X12_stepsOff fu (f_X12_cellOfPicker fu x5 s l) (((10 : Int32) * x2) + x1)) (x5 + 1) s l) ∧ (¬ (x3 < 0) → ((((f_X12_stepsOff fu (f_X12_cellOfPicker fu x5 s l) (((10 : Int32) * x2) + x1)) < x4) → p_X12_closest_23 fu n x1 x2 x5 (f_X12_stepsOff fu (f_X12_cellOfPicker fu x5 s l) (((10 : Int32) * x2) + x1)) (x5 + 1) s l) ∧ (¬ ((f_X12_stepsOff fu (f_X12_cellOfPicker fu x5 s l) (((10 : Int32) * x2) + x1)) < x4) → p_X12_closest_23 fu n x1 x2 x3 x4 (x5 + 1) s l))))))

set_option maxRecDepth 100000 in
set_option maxHeartbeats 1000000 in
theorem lp_X12_closest_23 {G : ab_G} {fu : Nat} {d : Nat} {D : fl_D} : ∀ (n : Nat) (x1 : Int32) (x2 : Int32) (x3 : Int32) (x4 : Int32) (x5 : Int32) (s : fl_I) (l : fl_L), p_X12_closest_23 fu n x1 x2 x3 x4 x5 s l → ab_C G (d + 2) 0 0 M_X12_closest 23 [some (.ref 60), some (.int x1), some (.int x2), some (.int x3), some (.int x4), some (.int x5), none] [] (hp D s l) (rt (some (.int (f_X12_closest_23 fu n x1 x2 x3 x4 x5 s l).1)) (hp D (f_X12_closest_23 fu n x1 x2 x3 x4 x5 s l).2.1 (f_X12_closest_23 fu n x1 x2 x3 x4 x5 s l).2.2)) := by
  intro n
  induction n with
  | zero => intro x1 x2 x3 x4 x5 s l hk; exact hk.elim
  | succ n ih =>
    intro x1 x2 x3 x4 x5 s l hk
    generalize he : f_X12_closest_23 fu (n + 1) x1 x2 x3 x4 x5 s l = res
    unfold f_X12_closest_23 at he
    unfold p_X12_closest_23 at hk
    refine r_iload rfl rfl ?_
    refine r_aload_n rfl rfl ?_
    refine q_getfield rfl (cc_60 _) rfl ?_
    refine r_aload_n rfl rfl ?_
    refine q_getfield rfl (cc_60 _) rfl ?_
    obtain ⟨hb2, hk⟩ := hk
    refine q_iald rfl (cc_74 _) hb2 ?_
    refine r_icmp_ge rfl (fun c_34 => ?_) (fun c_34 => ?_)
    · rw [if_pos c_34] at he
      replace hk := hk.1 c_34
      refine r_iload_n rfl rfl ?_
      refine r_iret rfl rfl rfl ?_
      first | with_reducible exact fin_i he | exact fin_i he
    · rw [if_neg c_34] at he
      replace hk := hk.2 c_34
      refine r_aload_n rfl rfl ?_
      refine r_iload rfl rfl ?_
      obtain ⟨hb3, hk⟩ := hk
      refine q_callV0 [_] _ rfl kY_X12_cellOfPicker kT_X12_cellOfPicker rfl rfl (Nat.le_of_ble_eq_true rfl) (Nat.le_of_ble_eq_true rfl) (cc_60 _) (s_X12_cellOfPicker hb3) (fun r h q => ?_)
      obtain ⟨rfl, rfl⟩ := q
      simp only [Option.toList, List.cons_append, List.nil_append]
      refine r_bipush_ (a := 10) rfl (by decide) ?_
      refine r_iload_n rfl rfl ?_
      refine r_imul rfl ?_
      refine r_iload_n rfl rfl ?_
      refine r_iadd rfl ?_
      obtain ⟨hb4, hk⟩ := hk
      refine r_callS0 [_, _] _ rfl kY_X12_stepsOff kT_X12_stepsOff rfl rfl (Nat.le_of_ble_eq_true rfl) (Nat.le_of_ble_eq_true rfl) (s_X12_stepsOff hb4) (fun r h q => ?_)
      obtain ⟨rfl, rfl⟩ := q
      simp only [Option.toList, List.cons_append, List.nil_append]
      refine r_istore rfl (Nat.le_of_ble_eq_true rfl) rfl ?_
      refine r_iload_n rfl rfl ?_
      refine r_if_lt rfl (fun c_55 => ?_) (fun c_55 => ?_)
      · rw [if_pos c_55] at he
        replace hk := hk.1 c_55
        refine r_iload rfl rfl ?_
        refine r_istore_n rfl (Nat.le_of_ble_eq_true rfl) rfl ?_
        refine r_iload rfl rfl ?_
        refine r_istore rfl (Nat.le_of_ble_eq_true rfl) rfl ?_
        refine r_iinc (b := x5 + 1) rfl rfl rfl (Nat.le_of_ble_eq_true rfl) rfl ?_
        refine r_goto rfl ?_
        subst he
        exact r_weak (L1 := [some (.ref 60), some (.int x1), some (.int x2), some (.int x5), some (.int (f_X12_stepsOff fu (f_X12_cellOfPicker fu x5 s l) (((10 : Int32) * x2) + x1))), some (.int (x5 + 1)), none]) ⟨rfl, rfl, rfl, rfl, rfl, rfl, trivial⟩ (ih _ _ _ _ _ _ _ hk)
      · rw [if_neg c_55] at he
        replace hk := hk.2 c_55
        refine r_iload rfl rfl ?_
        refine r_iload rfl rfl ?_
        refine r_icmp_lt rfl (fun c_62 => ?_) (fun c_62 => ?_)
        · rw [if_pos c_62] at he
          replace hk := hk.1 c_62
          refine r_iload rfl rfl ?_
          refine r_istore_n rfl (Nat.le_of_ble_eq_true rfl) rfl ?_
          refine r_iload rfl rfl ?_
          refine r_istore rfl (Nat.le_of_ble_eq_true rfl) rfl ?_
          refine r_iinc (b := x5 + 1) rfl rfl rfl (Nat.le_of_ble_eq_true rfl) rfl ?_
          refine r_goto rfl ?_
          subst he
          exact r_weak (L1 := [some (.ref 60), some (.int x1), some (.int x2), some (.int x5), some (.int (f_X12_stepsOff fu (f_X12_cellOfPicker fu x5 s l) (((10 : Int32) * x2) + x1))), some (.int (x5 + 1)), none]) ⟨rfl, rfl, rfl, rfl, rfl, rfl, trivial⟩ (ih _ _ _ _ _ _ _ hk)
        · rw [if_neg c_62] at he
          replace hk := hk.2 c_62
          refine r_goto rfl ?_
          refine r_iinc (b := x5 + 1) rfl rfl rfl (Nat.le_of_ble_eq_true rfl) rfl ?_
          refine r_goto rfl ?_
          subst he
          exact r_weak (L1 := [some (.ref 60), some (.int x1), some (.int x2), some (.int x3), some (.int x4), some (.int (x5 + 1)), none]) ⟨rfl, rfl, rfl, rfl, rfl, rfl, trivial⟩ (ih _ _ _ _ _ _ _ hk)

def f_X12_closest (fu : Nat) (v0 : Int32) (v1 : Int32) (s : fl_I) (l : fl_L) : Int32 × fl_I × fl_L :=
  if ((f_X12_isCell fu v0 v1) = 0) then ((-1 : Int32), s, l) else f_X12_closest_23 fu fu v0 v1 (-2 : Int32) (0 : Int32) (0 : Int32) (f_X12_copies fu s l).1 (f_X12_copies fu s l).2

def p_X12_closest (fu : Nat) (v0 : Int32) (v1 : Int32) (s : fl_I) (l : fl_L) : Prop :=
  (p_X12_isCell fu v0 v1) ∧ ((((f_X12_isCell fu v0 v1) = 0) → True) ∧ (¬ ((f_X12_isCell fu v0 v1) = 0) → (p_X12_copies fu s l) ∧ p_X12_closest_23 fu fu v0 v1 (-2 : Int32) (0 : Int32) (0 : Int32) (f_X12_copies fu s l).1 (f_X12_copies fu s l).2))

set_option maxRecDepth 100000 in
set_option maxHeartbeats 1000000 in
theorem s_X12_closest {G : ab_G} {fu : Nat} {d : Nat} {D : fl_D} {s : fl_I} {l : fl_L} {v0 : Int32} {v1 : Int32} (hk : p_X12_closest fu v0 v1 s l) : ab_C G (d + 2) 0 0 M_X12_closest 0 (ab_ent [.ref 60, .int v0, .int v1]) [] (hp D s l) (rt (some (.int (f_X12_closest fu v0 v1 s l).1)) (hp D (f_X12_closest fu v0 v1 s l).2.1 (f_X12_closest fu v0 v1 s l).2.2)) := by
  generalize he : (f_X12_closest fu v0 v1 s l) = res
  unfold f_X12_closest at he
  unfold p_X12_closest at hk
  refine r_weak (L1 := [some (.ref 60), some (.int v0), some (.int v1), none, none, none, none]) ⟨rfl, rfl, rfl, trivial⟩ ?_
  refine r_iload_n rfl rfl ?_
  refine r_iload_n rfl rfl ?_
  obtain ⟨hb0, hk⟩ := hk
  refine r_callS0 [_, _] _ rfl kY_X12_isCell kT_X12_isCell rfl rfl (Nat.le_of_ble_eq_true rfl) (Nat.le_of_ble_eq_true rfl) (s_X12_isCell hb0) (fun r h q => ?_)
  obtain ⟨rfl, rfl⟩ := q
  simp only [Option.toList, List.cons_append, List.nil_append]
  refine r_if_ne rfl (fun c_5 => ?_) (fun c_5 => ?_)
  · rw [if_neg c_5] at he
    replace hk := hk.2 c_5
    refine r_aload_n rfl rfl ?_
    obtain ⟨hb1, hk⟩ := hk
    refine q_callV0 [] _ rfl kY_X12_copies kT_X12_copies rfl rfl (Nat.le_of_ble_eq_true rfl) (Nat.le_of_ble_eq_true rfl) (cc_60 _) (s_X12_copies hb1) (fun r h q => ?_)
    obtain ⟨rfl, rfl⟩ := q
    simp only [Option.toList, List.cons_append, List.nil_append]
    refine r_bipush_ (a := -2) rfl (by decide) ?_
    refine r_istore_n rfl (Nat.le_of_ble_eq_true rfl) rfl ?_
    refine r_iconst_ (a := 0) rfl (by decide) ?_
    refine r_istore rfl (Nat.le_of_ble_eq_true rfl) rfl ?_
    refine r_iconst_ (a := 0) rfl (by decide) ?_
    refine r_istore rfl (Nat.le_of_ble_eq_true rfl) rfl ?_
    subst he
    exact r_weak (L1 := [some (.ref 60), some (.int v0), some (.int v1), some (.int (-2 : Int32)), some (.int (0 : Int32)), some (.int (0 : Int32)), none]) ⟨rfl, rfl, rfl, rfl, rfl, rfl, trivial⟩ (lp_X12_closest_23 fu _ _ _ _ _ _ _ hk)
  · rw [if_pos c_5] at he
    replace hk := hk.1 c_5
    refine r_iconst_ (a := -1) rfl (by decide) ?_
    refine r_iret rfl rfl rfl ?_
    first | with_reducible exact fin_i he | exact fin_i he

def f_X12_areMade_13 (fu : Nat) (K2 : Int32 → Int32 → Int32) : Nat → Int32 → Int32 → Int32 → Int32 → fl_I → fl_L → Int32
  | 0, _, _, _, _, _, _ => 0
  | n + 1, x1, x2, x3, x4, s, l =>
    if ((s 72 (s 60 18).toNatClampNeg) ≤ x4) then if (x3 ≤ (s 102 x2.toNatClampNeg)) then K2 x1 (x2 + 1) else (0 : Int32) else if (((x1 >>> (x4 &&& 31)) &&& (1 : Int32)) = (1 : Int32)) then f_X12_areMade_13 fu K2 n x1 x2 (x3 + (f_X12_timesIn fu (f_X12_wordAt fu x4 s l) x2)) (x4 + 1) s l else f_X12_areMade_13 fu K2 n x1 x2 x3 (x4 + 1) s l

def p_X12_areMade_13 (fu : Nat) (P2 : Int32 → Int32 → Prop) : Nat → Int32 → Int32 → Int32 → Int32 → fl_I → fl_L → Prop
  | 0, _, _, _, _, _, _ => False
  | n + 1, x1, x2, x3, x4, s, l =>
    (vp_in (s 60 18) 2) ∧ ((((s 72 (s 60 18).toNatClampNeg) ≤ x4) → (vp_in x2 27) ∧ (((x3 ≤ (s 102 x2.toNatClampNeg)) → P2 x1 (x2 + 1)) ∧ (¬ (x3 ≤ (s 102 x2.toNatClampNeg)) → True))) ∧ (¬ ((s 72 (s 60 18).toNatClampNeg) ≤ x4) → (((((x1 >>> (x4 &&& 31)) &&& (1 : Int32)) = (1 : Int32)) → (p_X12_wordAt fu x4 s l) ∧ (p_X12_timesIn fu (f_X12_wordAt fu x4 s l) x2) ∧ p_X12_areMade_13 fu P2 n x1 x2 (x3 + (f_X12_timesIn fu (f_X12_wordAt fu x4 s l) x2)) (x4 + 1) s l) ∧ (¬ (((x1 >>> (x4 &&& 31)) &&& (1 : Int32)) = (1 : Int32)) → p_X12_areMade_13 fu P2 n x1 x2 x3 (x4 + 1) s l))))

set_option maxRecDepth 100000 in
set_option maxHeartbeats 1000000 in
theorem lp_X12_areMade_13 {G : ab_G} {fu : Nat} {d : Nat} {D : fl_D} {s : fl_I} {l : fl_L} (K2 : Int32 → Int32 → Int32) (P2 : Int32 → Int32 → Prop) (hK2 : ∀ (x1 : Int32) (x2 : Int32), P2 x1 x2 → ab_C G (d + 1) 0 0 M_X12_areMade 2 [some (.ref 60), some (.int x1), some (.int x2), none, none] [] (hp D s l) (rt (some (.int (K2 x1 x2))) (hp D s l))) : ∀ (n : Nat) (x1 : Int32) (x2 : Int32) (x3 : Int32) (x4 : Int32), p_X12_areMade_13 fu P2 n x1 x2 x3 x4 s l → ab_C G (d + 1) 0 0 M_X12_areMade 13 [some (.ref 60), some (.int x1), some (.int x2), some (.int x3), some (.int x4)] [] (hp D s l) (rt (some (.int (f_X12_areMade_13 fu K2 n x1 x2 x3 x4 s l))) (hp D s l)) := by
  intro n
  induction n with
  | zero => intro x1 x2 x3 x4 hk; exact hk.elim
  | succ n ih =>
    intro x1 x2 x3 x4 hk
    generalize he : f_X12_areMade_13 fu K2 (n + 1) x1 x2 x3 x4 s l = res
    unfold f_X12_areMade_13 at he
    unfold p_X12_areMade_13 at hk
    refine r_iload rfl rfl ?_
    refine r_aload_n rfl rfl ?_
    refine q_getfield rfl (cc_60 _) rfl ?_
    refine r_aload_n rfl rfl ?_
    refine q_getfield rfl (cc_60 _) rfl ?_
    obtain ⟨hb0, hk⟩ := hk
    refine q_iald rfl (cc_72 _) hb0 ?_
    refine r_icmp_ge rfl (fun c_24 => ?_) (fun c_24 => ?_)
    · rw [if_pos c_24] at he
      replace hk := hk.1 c_24
      refine r_iload_n rfl rfl ?_
      refine r_aload_n rfl rfl ?_
      refine q_getfield rfl (cc_60 _) rfl ?_
      refine r_iload_n rfl rfl ?_
      obtain ⟨hb1, hk⟩ := hk
      refine q_iald rfl (cc_102 _) hb1 ?_
      refine r_icmp_le rfl (fun c_63 => ?_) (fun c_63 => ?_)
      · rw [if_pos c_63] at he
        replace hk := hk.1 c_63
        refine r_iinc (b := x2 + 1) rfl rfl rfl (Nat.le_of_ble_eq_true rfl) rfl ?_
        refine r_goto rfl ?_
        subst he
        exact r_weak (L1 := [some (.ref 60), some (.int x1), some (.int (x2 + 1)), none, none]) ⟨rfl, rfl, rfl, trivial⟩ (hK2 _ _ hk)
      · rw [if_neg c_63] at he
        replace hk := hk.2 c_63
        refine r_iconst_ (a := 0) rfl (by decide) ?_
        refine r_iret rfl rfl rfl ?_
        first | with_reducible exact fin_ri he | exact fin_ri he
    · rw [if_neg c_24] at he
      replace hk := hk.2 c_24
      refine r_iload_n rfl rfl ?_
      refine r_iload rfl rfl ?_
      refine r_ishr rfl ?_
      refine r_iconst_ (a := 1) rfl (by decide) ?_
      refine r_iand rfl ?_
      refine r_iconst_ (a := 1) rfl (by decide) ?_
      refine r_icmp_ne rfl (fun c_34 => ?_) (fun c_34 => ?_)
      · rw [if_neg c_34] at he
        replace hk := hk.2 c_34
        refine r_iinc (b := x4 + 1) rfl rfl rfl (Nat.le_of_ble_eq_true rfl) rfl ?_
        refine r_goto rfl ?_
        subst he
        exact r_weak (L1 := [some (.ref 60), some (.int x1), some (.int x2), some (.int x3), some (.int (x4 + 1))]) ⟨rfl, rfl, rfl, rfl, rfl, trivial⟩ (ih _ _ _ _ hk)
      · rw [if_pos c_34] at he
        replace hk := hk.1 c_34
        refine r_iload_n rfl rfl ?_
        refine r_aload_n rfl rfl ?_
        refine r_iload rfl rfl ?_
        obtain ⟨hb2, hk⟩ := hk
        refine q_callV0 [_] _ rfl kY_X12_wordAt kT_X12_wordAt rfl rfl (Nat.le_of_ble_eq_true rfl) (Nat.le_of_ble_eq_true rfl) (cc_60 _) (s_X12_wordAt hb2) (fun r h q => ?_)
        obtain ⟨rfl, rfl⟩ := q
        simp only [Option.toList, List.cons_append, List.nil_append]
        refine r_iload_n rfl rfl ?_
        obtain ⟨hb3, hk⟩ := hk
        refine r_callS0 [_, _] _ rfl kY_X12_timesIn kT_X12_timesIn rfl rfl (Nat.le_of_ble_eq_true rfl) (Nat.le_of_ble_eq_true rfl) (s_X12_timesIn hb3) (fun r h q => ?_)
        obtain ⟨rfl, rfl⟩ := q
        simp only [Option.toList, List.cons_append, List.nil_append]
        refine r_iadd rfl ?_
        refine r_istore_n rfl (Nat.le_of_ble_eq_true rfl) rfl ?_
        refine r_iinc (b := x4 + 1) rfl rfl rfl (Nat.le_of_ble_eq_true rfl) rfl ?_
        refine r_goto rfl ?_
        subst he
        exact r_weak (L1 := [some (.ref 60), some (.int x1), some (.int x2), some (.int (x3 + (f_X12_timesIn fu (f_X12_wordAt fu x4 s l) x2))), some (.int (x4 + 1))]) ⟨rfl, rfl, rfl, rfl, rfl, trivial⟩ (ih _ _ _ _ hk)

def f_X12_areMade_2 (fu : Nat) : Nat → Int32 → Int32 → fl_I → fl_L → Int32
  | 0, _, _, _, _ => 0
  | n + 1, x1, x2, s, l =>
    if ((27 : Int32) ≤ x2) then (1 : Int32) else f_X12_areMade_13 fu (fun x1 x2 => f_X12_areMade_2 fu n x1 x2 s l) fu x1 x2 (0 : Int32) (0 : Int32) s l

def p_X12_areMade_2 (fu : Nat) : Nat → Int32 → Int32 → fl_I → fl_L → Prop
  | 0, _, _, _, _ => False
  | n + 1, x1, x2, s, l =>
    ((((27 : Int32) ≤ x2) → True) ∧ (¬ ((27 : Int32) ≤ x2) → p_X12_areMade_13 fu (fun x1 x2 => p_X12_areMade_2 fu n x1 x2 s l) fu x1 x2 (0 : Int32) (0 : Int32) s l))

set_option maxRecDepth 100000 in
set_option maxHeartbeats 1000000 in
theorem lp_X12_areMade_2 {G : ab_G} {fu : Nat} {d : Nat} {D : fl_D} {s : fl_I} {l : fl_L} : ∀ (n : Nat) (x1 : Int32) (x2 : Int32), p_X12_areMade_2 fu n x1 x2 s l → ab_C G (d + 1) 0 0 M_X12_areMade 2 [some (.ref 60), some (.int x1), some (.int x2), none, none] [] (hp D s l) (rt (some (.int (f_X12_areMade_2 fu n x1 x2 s l))) (hp D s l)) := by
  intro n
  induction n with
  | zero => intro x1 x2 hk; exact hk.elim
  | succ n ih =>
    intro x1 x2 hk
    generalize he : f_X12_areMade_2 fu (n + 1) x1 x2 s l = res
    unfold f_X12_areMade_2 at he
    unfold p_X12_areMade_2 at hk
    refine r_iload_n rfl rfl ?_
    refine r_bipush_ (a := 27) rfl (by decide) ?_
    refine r_icmp_ge rfl (fun c_5 => ?_) (fun c_5 => ?_)
    · rw [if_pos c_5] at he
      replace hk := hk.1 c_5
      refine r_iconst_ (a := 1) rfl (by decide) ?_
      refine r_iret rfl rfl rfl ?_
      first | with_reducible exact fin_ri he | exact fin_ri he
    · rw [if_neg c_5] at he
      replace hk := hk.2 c_5
      refine r_iconst_ (a := 0) rfl (by decide) ?_
      refine r_istore_n rfl (Nat.le_of_ble_eq_true rfl) rfl ?_
      refine r_iconst_ (a := 0) rfl (by decide) ?_
      refine r_istore rfl (Nat.le_of_ble_eq_true rfl) rfl ?_
      subst he
      exact r_weak (L1 := [some (.ref 60), some (.int x1), some (.int x2), some (.int (0 : Int32)), some (.int (0 : Int32))]) ⟨rfl, rfl, rfl, rfl, rfl, trivial⟩ (lp_X12_areMade_13 _ _ (fun _ _ h9 => ih _ _ h9) fu _ _ _ _ hk)

def f_X12_areMade (fu : Nat) (v0 : Int32) (s : fl_I) (l : fl_L) : Int32 :=
  f_X12_areMade_2 fu fu v0 (1 : Int32) s l

def p_X12_areMade (fu : Nat) (v0 : Int32) (s : fl_I) (l : fl_L) : Prop :=
  p_X12_areMade_2 fu fu v0 (1 : Int32) s l

set_option maxRecDepth 100000 in
set_option maxHeartbeats 1000000 in
theorem s_X12_areMade {G : ab_G} {fu : Nat} {d : Nat} {D : fl_D} {s : fl_I} {l : fl_L} {v0 : Int32} (hk : p_X12_areMade fu v0 s l) : ab_C G (d + 1) 0 0 M_X12_areMade 0 (ab_ent [.ref 60, .int v0]) [] (hp D s l) (rt (some (.int (f_X12_areMade fu v0 s l))) (hp D s l)) := by
  generalize he : (f_X12_areMade fu v0 s l) = res
  unfold f_X12_areMade at he
  unfold p_X12_areMade at hk
  refine r_weak (L1 := [some (.ref 60), some (.int v0), none, none, none]) ⟨rfl, rfl, trivial⟩ ?_
  refine r_iconst_ (a := 1) rfl (by decide) ?_
  refine r_istore_n rfl (Nat.le_of_ble_eq_true rfl) rfl ?_
  subst he
  exact r_weak (L1 := [some (.ref 60), some (.int v0), some (.int (1 : Int32)), none, none]) ⟨rfl, rfl, rfl, trivial⟩ (lp_X12_areMade_2 fu _ _ hk)

