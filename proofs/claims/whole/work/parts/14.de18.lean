def f_X7_agrees_3 (fu : Nat) : Nat → Int64 → Int32 → Int32 → fl_I → fl_L → Int32
  | 0, _, _, _, _, _ => 0
  | n + 1, x1, x3, x4, s, l =>
    if (x3 ≤ x4) then (1 : Int32) else if ((20 : Int32) ≤ x4) then (1 : Int32) else if ((s 58 x4.toNatClampNeg) ≤ 0) then if ((f_X7_hasSign fu x1 (i_abs (s 58 x4.toNatClampNeg))) = (0 : Int32)) then f_X7_agrees_3 fu n x1 x3 (x4 + 1) s l else (0 : Int32) else if ((f_X7_hasSign fu x1 (i_abs (s 58 x4.toNatClampNeg))) = (1 : Int32)) then f_X7_agrees_3 fu n x1 x3 (x4 + 1) s l else (0 : Int32)

def p_X7_agrees_3 (fu : Nat) : Nat → Int64 → Int32 → Int32 → fl_I → fl_L → Prop
  | 0, _, _, _, _, _ => False
  | n + 1, x1, x3, x4, s, l =>
    (((x3 ≤ x4) → True) ∧ (¬ (x3 ≤ x4) → ((((20 : Int32) ≤ x4) → True) ∧ (¬ ((20 : Int32) ≤ x4) → (vp_in x4 20) ∧ (p_X7_hasSign fu x1 (i_abs (s 58 x4.toNatClampNeg))) ∧ (vp_in x4 20) ∧ ((((s 58 x4.toNatClampNeg) ≤ 0) → ((((f_X7_hasSign fu x1 (i_abs (s 58 x4.toNatClampNeg))) = (0 : Int32)) → p_X7_agrees_3 fu n x1 x3 (x4 + 1) s l) ∧ (¬ ((f_X7_hasSign fu x1 (i_abs (s 58 x4.toNatClampNeg))) = (0 : Int32)) → True))) ∧ (¬ ((s 58 x4.toNatClampNeg) ≤ 0) → ((((f_X7_hasSign fu x1 (i_abs (s 58 x4.toNatClampNeg))) = (1 : Int32)) → p_X7_agrees_3 fu n x1 x3 (x4 + 1) s l) ∧ (¬ ((f_X7_hasSign fu x1 (i_abs (s 58 x4.toNatClampNeg))) = (1 : Int32)) → True))))))))

set_option maxRecDepth 100000 in
set_option maxHeartbeats 1000000 in
theorem lp_X7_agrees_3 {G : ab_G} {fu : Nat} {d : Nat} {D : fl_D} {s : fl_I} {l : fl_L} : ∀ (n : Nat) (x1 : Int64) (x3 : Int32) (x4 : Int32), p_X7_agrees_3 fu n x1 x3 x4 s l → ab_C G (d + 2) 0 0 M_X7_agrees 3 [some (.ref 57), some (.long x1), none, some (.int x3), some (.int x4)] [] (hp D s l) (rt (some (.int (f_X7_agrees_3 fu n x1 x3 x4 s l))) (hp D s l)) := by
  intro n
  induction n with
  | zero => intro x1 x3 x4 hk; exact hk.elim
  | succ n ih =>
    intro x1 x3 x4 hk
    generalize he : f_X7_agrees_3 fu (n + 1) x1 x3 x4 s l = res
    unfold f_X7_agrees_3 at he
    unfold p_X7_agrees_3 at hk
    refine r_iload rfl rfl ?_
    refine r_iload_n rfl rfl ?_
    refine r_icmp_ge rfl (fun c_6 => ?_) (fun c_6 => ?_)
    · rw [if_pos c_6] at he
      replace hk := hk.1 c_6
      refine r_iconst_ (a := 1) rfl (by decide) ?_
      refine r_iret rfl rfl rfl ?_
      first | with_reducible exact fin_ri he | exact fin_ri he
    · rw [if_neg c_6] at he
      replace hk := hk.2 c_6
      refine r_iload rfl rfl ?_
      refine r_bipush_ (a := 20) rfl (by decide) ?_
      refine r_icmp_ge rfl (fun c_13 => ?_) (fun c_13 => ?_)
      · rw [if_pos c_13] at he
        replace hk := hk.1 c_13
        refine r_iconst_ (a := 1) rfl (by decide) ?_
        refine r_iret rfl rfl rfl ?_
        first | with_reducible exact fin_ri he | exact fin_ri he
      · rw [if_neg c_13] at he
        replace hk := hk.2 c_13
        refine r_lload_n rfl rfl ?_
        refine r_aload_n rfl rfl ?_
        refine q_getfield rfl (cc_57 _) rfl ?_
        refine r_iload rfl rfl ?_
        obtain ⟨hb0, hk⟩ := hk
        refine q_iald rfl (cc_58 _) hb0 ?_
        refine r_mabs rfl (Nat.le_of_ble_eq_true rfl) ?_
        obtain ⟨hb1, hk⟩ := hk
        refine r_callS0 [_, _] _ rfl kY_X7_hasSign kT_X7_hasSign rfl rfl (Nat.le_of_ble_eq_true rfl) (Nat.le_of_ble_eq_true rfl) (s_X7_hasSign hb1) (fun r h q => ?_)
        obtain ⟨rfl, rfl⟩ := q
        simp only [Option.toList, List.cons_append, List.nil_append]
        refine r_aload_n rfl rfl ?_
        refine q_getfield rfl (cc_57 _) rfl ?_
        refine r_iload rfl rfl ?_
        obtain ⟨hb2, hk⟩ := hk
        refine q_iald rfl (cc_58 _) hb2 ?_
        refine r_if_le rfl (fun c_37 => ?_) (fun c_37 => ?_)
        · rw [if_pos c_37] at he
          replace hk := hk.1 c_37
          refine r_iconst_ (a := 0) rfl (by decide) ?_
          refine r_icmp_eq rfl (fun c_45 => ?_) (fun c_45 => ?_)
          · rw [if_pos c_45] at he
            replace hk := hk.1 c_45
            refine r_iinc (b := x4 + 1) rfl rfl rfl (Nat.le_of_ble_eq_true rfl) rfl ?_
            refine r_goto rfl ?_
            subst he
            exact r_weak (L1 := [some (.ref 57), some (.long x1), none, some (.int x3), some (.int (x4 + 1))]) ⟨rfl, rfl, rfl, rfl, trivial⟩ (ih _ _ _ hk)
          · rw [if_neg c_45] at he
            replace hk := hk.2 c_45
            refine r_iconst_ (a := 0) rfl (by decide) ?_
            refine r_iret rfl rfl rfl ?_
            first | with_reducible exact fin_ri he | exact fin_ri he
        · rw [if_neg c_37] at he
          replace hk := hk.2 c_37
          refine r_iconst_ (a := 1) rfl (by decide) ?_
          refine r_goto rfl ?_
          refine r_icmp_eq rfl (fun c_45 => ?_) (fun c_45 => ?_)
          · rw [if_pos c_45] at he
            replace hk := hk.1 c_45
            refine r_iinc (b := x4 + 1) rfl rfl rfl (Nat.le_of_ble_eq_true rfl) rfl ?_
            refine r_goto rfl ?_
            subst he
            exact r_weak (L1 := [some (.ref 57), some (.long x1), none, some (.int x3), some (.int (x4 + 1))]) ⟨rfl, rfl, rfl, rfl, trivial⟩ (ih _ _ _ hk)
          · rw [if_neg c_45] at he
            replace hk := hk.2 c_45
            refine r_iconst_ (a := 0) rfl (by decide) ?_
            refine r_iret rfl rfl rfl ?_
            first | with_reducible exact fin_ri he | exact fin_ri he

def f_X7_agrees (fu : Nat) (v0 : Int64) (v1 : Int32) (s : fl_I) (l : fl_L) : Int32 :=
  f_X7_agrees_3 fu fu v0 v1 (0 : Int32) s l

def p_X7_agrees (fu : Nat) (v0 : Int64) (v1 : Int32) (s : fl_I) (l : fl_L) : Prop :=
  p_X7_agrees_3 fu fu v0 v1 (0 : Int32) s l

set_option maxRecDepth 100000 in
set_option maxHeartbeats 1000000 in
theorem s_X7_agrees {G : ab_G} {fu : Nat} {d : Nat} {D : fl_D} {s : fl_I} {l : fl_L} {v0 : Int64} {v1 : Int32} (hk : p_X7_agrees fu v0 v1 s l) : ab_C G (d + 2) 0 0 M_X7_agrees 0 (ab_ent [.ref 57, .long v0, .int v1]) [] (hp D s l) (rt (some (.int (f_X7_agrees fu v0 v1 s l))) (hp D s l)) := by
  generalize he : (f_X7_agrees fu v0 v1 s l) = res
  unfold f_X7_agrees at he
  unfold p_X7_agrees at hk
  refine r_weak (L1 := [some (.ref 57), some (.long v0), none, some (.int v1), none]) ⟨rfl, rfl, rfl, trivial⟩ ?_
  refine r_iconst_ (a := 0) rfl (by decide) ?_
  refine r_istore rfl (Nat.le_of_ble_eq_true rfl) rfl ?_
  subst he
  exact r_weak (L1 := [some (.ref 57), some (.long v0), none, some (.int v1), some (.int (0 : Int32))]) ⟨rfl, rfl, rfl, rfl, trivial⟩ (lp_X7_agrees_3 fu _ _ _ hk)

def f_X8_shared_6 (fu : Nat) : Nat → Int32 → Int32 → Int32 → Int32 → fl_D → fl_I → fl_L → Int32
  | 0, _, _, _, _, _, _, _ => 0
  | n + 1, x1, x2, x3, x4, D, s, l =>
    if ((f_X8_all fu s l) < x4) then x3 else f_X8_shared_6 fu n x1 x2 (i_min x3 (i_max (f_X8_fewest fu x1 x4 D s l) (f_X8_fewest fu x2 ((f_X8_all fu s l) &&& (x4 ^^^ (-1 : Int32))) D s l))) (x4 + 1) D s l

def p_X8_shared_6 (fu : Nat) : Nat → Int32 → Int32 → Int32 → Int32 → fl_D → fl_I → fl_L → Prop
  | 0, _, _, _, _, _, _, _ => False
  | n + 1, x1, x2, x3, x4, D, s, l =>
    (p_X8_all fu s l) ∧ ((((f_X8_all fu s l) < x4) → True) ∧ (¬ ((f_X8_all fu s l) < x4) → (p_X8_fewest fu x1 x4 D s l) ∧ (p_X8_all fu s l) ∧ (p_X8_fewest fu x2 ((f_X8_all fu s l) &&& (x4 ^^^ (-1 : Int32))) D s l) ∧ p_X8_shared_6 fu n x1 x2 (i_min x3 (i_max (f_X8_fewest fu x1 x4 D s l) (f_X8_fewest fu x2 ((f_X8_all fu s l) &&& (x4 ^^^ (-1 : Int32))) D s l))) (x4 + 1) D s l))

set_option maxRecDepth 100000 in
set_option maxHeartbeats 1000000 in
theorem lp_X8_shared_6 {G : ab_G} {fu : Nat} {d : Nat} {D : fl_D} {s : fl_I} {l : fl_L} (hfr : ∀ f g, cl D D.2.2.2.1 f g = some (.inl (0, 10240, .inl f))) : ∀ (n : Nat) (x1 : Int32) (x2 : Int32) (x3 : Int32) (x4 : Int32), p_X8_shared_6 fu n x1 x2 x3 x4 D s l → ab_C G (d + 2) 0 0 M_X8_shared 6 [some (.ref 51), some (.int x1), some (.int x2), some (.int x3), some (.int x4), none] [] (hp D s l) (rt (some (.int (f_X8_shared_6 fu n x1 x2 x3 x4 D s l))) (hp D s l)) := by
  intro n
  induction n with
  | zero => intro x1 x2 x3 x4 hk; exact hk.elim
  | succ n ih =>
    intro x1 x2 x3 x4 hk
    generalize he : f_X8_shared_6 fu (n + 1) x1 x2 x3 x4 D s l = res
    unfold f_X8_shared_6 at he
    unfold p_X8_shared_6 at hk
    refine r_iload rfl rfl ?_
    refine r_aload_n rfl rfl ?_
    obtain ⟨hb0, hk⟩ := hk
    refine q_callV0 [] _ rfl kY_X8_all kT_X8_all rfl rfl (Nat.le_of_ble_eq_true rfl) (Nat.le_of_ble_eq_true rfl) (cc_51 _) (s_X8_all hb0) (fun r h q => ?_)
    obtain ⟨rfl, rfl⟩ := q
    simp only [Option.toList, List.cons_append, List.nil_append]
    refine r_icmp_gt rfl (fun c_12 => ?_) (fun c_12 => ?_)
    · rw [if_pos c_12] at he
      replace hk := hk.1 c_12
      refine r_iload_n rfl rfl ?_
      refine r_iret rfl rfl rfl ?_
      first | with_reducible exact fin_ri he | exact fin_ri he
    · rw [if_neg c_12] at he
      replace hk := hk.2 c_12
      refine r_aload_n rfl rfl ?_
      refine r_iload_n rfl rfl ?_
      refine r_iload rfl rfl ?_
      obtain ⟨hb1, hk⟩ := hk
      refine q_callV0 [_, _] _ rfl kY_X8_fewest kT_X8_fewest rfl rfl (Nat.le_of_ble_eq_true rfl) (Nat.le_of_ble_eq_true rfl) (cc_51 _) (s_X8_fewest hfr hb1) (fun r h q => ?_)
      obtain ⟨rfl, rfl⟩ := q
      simp only [Option.toList, List.cons_append, List.nil_append]
      refine r_aload_n rfl rfl ?_
      refine r_iload_n rfl rfl ?_
      refine r_aload_n rfl rfl ?_
      obtain ⟨hb2, hk⟩ := hk
      refine q_callV0 [] _ rfl kY_X8_all kT_X8_all rfl rfl (Nat.le_of_ble_eq_true rfl) (Nat.le_of_ble_eq_true rfl) (cc_51 _) (s_X8_all hb2) (fun r h q => ?_)
      obtain ⟨rfl, rfl⟩ := q
      simp only [Option.toList, List.cons_append, List.nil_append]
      refine r_iload rfl rfl ?_
      refine r_iconst_ (a := -1) rfl (by decide) ?_
      refine r_ixor rfl ?_
      refine r_iand rfl ?_
      obtain ⟨hb3, hk⟩ := hk
      refine q_callV0 [_, _] _ rfl kY_X8_fewest kT_X8_fewest rfl rfl (Nat.le_of_ble_eq_true rfl) (Nat.le_of_ble_eq_true rfl) (cc_51 _) (s_X8_fewest hfr hb3) (fun r h q => ?_)
      obtain ⟨rfl, rfl⟩ := q
      simp only [Option.toList, List.cons_append, List.nil_append]
      refine r_mmax rfl (Nat.le_of_ble_eq_true rfl) ?_
      refine r_istore rfl (Nat.le_of_ble_eq_true rfl) rfl ?_
      refine r_iload_n rfl rfl ?_
      refine r_iload rfl rfl ?_
      refine r_mmin rfl (Nat.le_of_ble_eq_true rfl) ?_
      refine r_istore_n rfl (Nat.le_of_ble_eq_true rfl) rfl ?_
      refine r_iinc (b := x4 + 1) rfl rfl rfl (Nat.le_of_ble_eq_true rfl) rfl ?_
      refine r_goto rfl ?_
      subst he
      exact r_weak (L1 := [some (.ref 51), some (.int x1), some (.int x2), some (.int (i_min x3 (i_max (f_X8_fewest fu x1 x4 D s l) (f_X8_fewest fu x2 ((f_X8_all fu s l) &&& (x4 ^^^ (-1 : Int32))) D s l)))), some (.int (x4 + 1)), none]) ⟨rfl, rfl, rfl, rfl, rfl, trivial⟩ (ih _ _ _ _ hk)

def f_X8_shared (fu : Nat) (v0 : Int32) (v1 : Int32) (D : fl_D) (s : fl_I) (l : fl_L) : Int32 :=
  f_X8_shared_6 fu fu v0 v1 (1000000 : Int32) (0 : Int32) D s l

def p_X8_shared (fu : Nat) (v0 : Int32) (v1 : Int32) (D : fl_D) (s : fl_I) (l : fl_L) : Prop :=
  p_X8_shared_6 fu fu v0 v1 (1000000 : Int32) (0 : Int32) D s l

set_option maxRecDepth 100000 in
set_option maxHeartbeats 1000000 in
theorem s_X8_shared {G : ab_G} {fu : Nat} {d : Nat} {D : fl_D} {s : fl_I} {l : fl_L} (hfr : ∀ f g, cl D D.2.2.2.1 f g = some (.inl (0, 10240, .inl f))) {v0 : Int32} {v1 : Int32} (hk : p_X8_shared fu v0 v1 D s l) : ab_C G (d + 2) 0 0 M_X8_shared 0 (ab_ent [.ref 51, .int v0, .int v1]) [] (hp D s l) (rt (some (.int (f_X8_shared fu v0 v1 D s l))) (hp D s l)) := by
  generalize he : (f_X8_shared fu v0 v1 D s l) = res
  unfold f_X8_shared at he
  unfold p_X8_shared at hk
  refine r_weak (L1 := [some (.ref 51), some (.int v0), some (.int v1), none, none, none]) ⟨rfl, rfl, rfl, trivial⟩ ?_
  refine r_ldc rfl ?_
  refine r_istore_n rfl (Nat.le_of_ble_eq_true rfl) rfl ?_
  refine r_iconst_ (a := 0) rfl (by decide) ?_
  refine r_istore rfl (Nat.le_of_ble_eq_true rfl) rfl ?_
  subst he
  exact r_weak (L1 := [some (.ref 51), some (.int v0), some (.int v1), some (.int (1000000 : Int32)), some (.int (0 : Int32)), none]) ⟨rfl, rfl, rfl, rfl, rfl, trivial⟩ (lp_X8_shared_6 hfr fu _ _ _ _ hk)

def f_X0_takeOut_11 (fu : Nat) : Nat → Int64 → Int32 → Int32 → Int32 → fl_I → fl_L → Int32 × fl_I × fl_L
  | 0, x1, x3, x4, x5, s, l => (0, s, l)
  | n + 1, x1, x3, x4, x5, s, l =>
    if (x4 ≤ x5) then (x3, s, l) else if (0 ≤ ((wi s 56 (f_X11_signAt fu x1 x5).toNatClampNeg ((s 56 (f_X11_signAt fu x1 x5).toNatClampNeg) - (1 : Int32))) 56 (f_X11_signAt fu x1 x5).toNatClampNeg)) then f_X0_takeOut_11 fu n x1 x3 x4 (x5 + 1) (wi s 56 (f_X11_signAt fu x1 x5).toNatClampNeg ((s 56 (f_X11_signAt fu x1 x5).toNatClampNeg) - (1 : Int32))) l else f_X0_takeOut_11 fu n x1 (x3 + 1) x4 (x5 + 1) (wi s 56 (f_X11_signAt fu x1 x5).toNatClampNeg ((s 56 (f_X11_signAt fu x1 x5).toNatClampNeg) - (1 : Int32))) l

def p_X0_takeOut_11 (fu : Nat) : Nat → Int64 → Int32 → Int32 → Int32 → fl_I → fl_L → Prop
  | 0, _, _, _, _, _, _ => False
  | n + 1, x1, x3, x4, x5, s, l =>
    (((x4 ≤ x5) → True) ∧ (¬ (x4 ≤ x5) → (p_X11_signAt fu x1 x5) ∧ (vp_in (f_X11_signAt fu x1 x5) 32) ∧ (vp_in (f_X11_signAt fu x1 x5) 32) ∧ (vp_in (f_X11_signAt fu x1 x5) 32) ∧ (((0 ≤ ((wi s 56 (f_X11_signAt fu x1 x5).toNatClampNeg ((s 56 (f_X11_signAt fu x1 x5).toNatClampNeg) - (1 : Int32))) 56 (f_X11_signAt fu x1 x5).toNatClampNeg)) → p_X0_takeOut_11 fu n x1 x3 x4 (x5 + 1) (wi s 56 (f_X11_signAt fu x1 x5).toNatClampNeg ((s 56 (f_X11_signAt fu x1 x5).toNatClampNeg) - (1 : Int32))) l) ∧ (¬ (0 ≤ ((wi s 56 (f_X11_signAt fu x1 x5).toNatClampNeg ((s 56 (f_X11_signAt fu x1 x5).toNatClampNeg) - (1 : Int32))) 56 (f_X11_signAt fu x1 x5).toNatClampNeg)) → p_X0_takeOut_11 fu n x1 (x3 + 1) x4 (x5 + 1) (wi s 56 (f_X11_signAt fu x1 x5).toNatClampNeg ((s 56 (f_X11_signAt fu x1 x5).toNatClampNeg) - (1 : Int32))) l))))

set_option maxRecDepth 100000 in
set_option maxHeartbeats 1000000 in
theorem lp_X0_takeOut_11 {G : ab_G} {fu : Nat} {d : Nat} {D : fl_D} : ∀ (n : Nat) (x1 : Int64) (x3 : Int32) (x4 : Int32) (x5 : Int32) (s : fl_I) (l : fl_L), p_X0_takeOut_11 fu n x1 x3 x4 x5 s l → ab_C G (d + 2) 0 0 M_X0_takeOut 11 [some (.ref 55), some (.long x1), none, some (.int x3), some (.int x4), some (.int x5), none] [] (hp D s l) (rt (some (.int (f_X0_takeOut_11 fu n x1 x3 x4 x5 s l).1)) (hp D (f_X0_takeOut_11 fu n x1 x3 x4 x5 s l).2.1 (f_X0_takeOut_11 fu n x1 x3 x4 x5 s l).2.2)) := by
  intro n
  induction n with
  | zero => intro x1 x3 x4 x5 s l hk; exact hk.elim
  | succ n ih =>
    intro x1 x3 x4 x5 s l hk
    generalize he : f_X0_takeOut_11 fu (n + 1) x1 x3 x4 x5 s l = res
    unfold f_X0_takeOut_11 at he
    unfold p_X0_takeOut_11 at hk
    refine r_iload rfl rfl ?_
    refine r_iload rfl rfl ?_
    refine r_icmp_ge rfl (fun c_15 => ?_) (fun c_15 => ?_)
    · rw [if_pos c_15] at he
      replace hk := hk.1 c_15
      refine r_iload_n rfl rfl ?_
      refine r_iret rfl rfl rfl ?_
      first | with_reducible exact fin_i he | exact fin_i he
    · rw [if_neg c_15] at he
      replace hk := hk.2 c_15
      refine r_lload_n rfl rfl ?_
      refine r_iload rfl rfl ?_
      obtain ⟨hb1, hk⟩ := hk
      refine r_callSN0 [_, _] _ rfl kY_X11_signAt kT_X11_signAt rfl rfl (Nat.le_of_ble_eq_true rfl) (Nat.le_of_ble_eq_true rfl) (s_X11_signAt hb1) (fun r h q => ?_)
      obtain ⟨rfl, rfl⟩ := q
      simp only [Option.toList, List.cons_append, List.nil_append]
      refine r_istore rfl (Nat.le_of_ble_eq_true rfl) rfl ?_
      refine r_aload_n rfl rfl ?_
      refine q_getfield rfl (cc_55 _) rfl ?_
      refine r_iload rfl rfl ?_
      refine r_dup2 rfl rfl rfl ?_
      obtain ⟨hb2, hk⟩ := hk
      refine q_iald rfl (cc_56 _) hb2 ?_
      refine r_iconst_ (a := 1) rfl (by decide) ?_
      refine r_isub rfl ?_
      obtain ⟨hb3, hk⟩ := hk
      refine w_iast rfl (cc_56 _) hb3 ?_
      refine r_aload_n rfl rfl ?_
      refine q_getfield rfl (cc_55 _) rfl ?_
      refine r_iload rfl rfl ?_
      obtain ⟨hb4, hk⟩ := hk
      refine q_iald rfl (cc_56 _) hb4 ?_
      refine r_if_ge rfl (fun c_44 => ?_) (fun c_44 => ?_)
      · rw [if_pos c_44] at he
        replace hk := hk.1 c_44
        refine r_iinc (b := x5 + 1) rfl rfl rfl (Nat.le_of_ble_eq_true rfl) rfl ?_
        refine r_goto rfl ?_
        subst he
        exact r_weak (L1 := [some (.ref 55), some (.long x1), none, some (.int x3), some (.int x4), some (.int (x5 + 1)), none]) ⟨rfl, rfl, rfl, rfl, rfl, trivial⟩ (ih _ _ _ _ _ _ hk)
      · rw [if_neg c_44] at he
        replace hk := hk.2 c_44
        refine r_iinc (b := x3 + 1) rfl rfl rfl (Nat.le_of_ble_eq_true rfl) rfl ?_
        refine r_iinc (b := x5 + 1) rfl rfl rfl (Nat.le_of_ble_eq_true rfl) rfl ?_
        refine r_goto rfl ?_
        subst he
        exact r_weak (L1 := [some (.ref 55), some (.long x1), none, some (.int (x3 + 1)), some (.int x4), some (.int (x5 + 1)), none]) ⟨rfl, rfl, rfl, rfl, rfl, trivial⟩ (ih _ _ _ _ _ _ hk)

def f_X0_takeOut (fu : Nat) (v0 : Int64) (s : fl_I) (l : fl_L) : Int32 × fl_I × fl_L :=
  f_X0_takeOut_11 fu fu v0 (0 : Int32) (f_X11_nameLength fu v0) (0 : Int32) s l

def p_X0_takeOut (fu : Nat) (v0 : Int64) (s : fl_I) (l : fl_L) : Prop :=
  (p_X11_nameLength fu v0) ∧ p_X0_takeOut_11 fu fu v0 (0 : Int32) (f_X11_nameLength fu v0) (0 : Int32) s l

set_option maxRecDepth 100000 in
set_option maxHeartbeats 1000000 in
theorem s_X0_takeOut {G : ab_G} {fu : Nat} {d : Nat} {D : fl_D} {s : fl_I} {l : fl_L} {v0 : Int64} (hk : p_X0_takeOut fu v0 s l) : ab_C G (d + 2) 0 0 M_X0_takeOut 0 (ab_ent [.ref 55, .long v0]) [] (hp D s l) (rt (some (.int (f_X0_takeOut fu v0 s l).1)) (hp D (f_X0_takeOut fu v0 s l).2.1 (f_X0_takeOut fu v0 s l).2.2)) := by
  generalize he : (f_X0_takeOut fu v0 s l) = res
  unfold f_X0_takeOut at he
  unfold p_X0_takeOut at hk
  refine r_weak (L1 := [some (.ref 55), some (.long v0), none, none, none, none, none]) ⟨rfl, rfl, trivial⟩ ?_
  refine r_iconst_ (a := 0) rfl (by decide) ?_
  refine r_istore_n rfl (Nat.le_of_ble_eq_true rfl) rfl ?_
  refine r_lload_n rfl rfl ?_
  obtain ⟨hb0, hk⟩ := hk
  refine r_callSN0 [_] _ rfl kY_X11_nameLength kT_X11_nameLength rfl rfl (Nat.le_of_ble_eq_true rfl) (Nat.le_of_ble_eq_true rfl) (s_X11_nameLength hb0) (fun r h q => ?_)
  obtain ⟨rfl, rfl⟩ := q
  simp only [Option.toList, List.cons_append, List.nil_append]
  refine r_istore rfl (Nat.le_of_ble_eq_true rfl) rfl ?_
  refine r_iconst_ (a := 0) rfl (by decide) ?_
  refine r_istore rfl (Nat.le_of_ble_eq_true rfl) rfl ?_
  subst he
  exact r_weak (L1 := [some (.ref 55), some (.long v0), none, some (.int (0 : Int32)), some (.int (f_X11_nameLength fu v0)), some (.int (0 : Int32)), none]) ⟨rfl, rfl, rfl, rfl, rfl, trivial⟩ (lp_X0_takeOut_11 fu _ _ _ _ _ _ hk)

def f_X3_takeStep_37 (fu : Nat) (s : fl_I) (l : fl_L) : Int32 × fl_I × fl_L :=
    ((0 : Int32), s, l)

def p_X3_takeStep_37 (fu : Nat) (s : fl_I) (l : fl_L) : Prop :=
    True

set_option maxRecDepth 100000 in
set_option maxHeartbeats 1000000 in
theorem lp_X3_takeStep_37 {G : ab_G} {fu : Nat} {d : Nat} {D : fl_D} : ∀ (s : fl_I) (l : fl_L), p_X3_takeStep_37 fu  s l → ab_C G (d + 3) 0 0 M_X3_takeStep 37 [none, none] [] (hp D s l) (rt (some (.int (f_X3_takeStep_37 fu  s l).1)) (hp D (f_X3_takeStep_37 fu  s l).2.1 (f_X3_takeStep_37 fu  s l).2.2)) := by
  intro  s l hk
  generalize he : f_X3_takeStep_37 fu  s l = res
  unfold f_X3_takeStep_37 at he
  unfold p_X3_takeStep_37 at hk
  refine r_iconst_ (a := 0) rfl (by decide) ?_
  refine r_iret rfl rfl rfl ?_
  first | with_reducible exact fin_i he | exact fin_i he

def f_X3_takeStep_34 (fu : Nat) (x1 : Int32) (y0 : Int32) (s : fl_I) (l : fl_L) : Int32 × fl_I × fl_L :=
    if (y0 = 0) then f_X3_takeStep_37 fu  s l else if (x1 = 0) then ((1 : Int32), (wi s 3 6 (s 3 6)), l) else ((1 : Int32), (wi s 3 6 (-(s 3 6))), l)

def p_X3_takeStep_34 (fu : Nat) (x1 : Int32) (y0 : Int32) (s : fl_I) (l : fl_L) : Prop :=
    (((y0 = 0) → p_X3_takeStep_37 fu  s l) ∧ (¬ (y0 = 0) → (((x1 = 0) → True) ∧ (¬ (x1 = 0) → True))))

set_option maxRecDepth 100000 in
set_option maxHeartbeats 1000000 in
theorem lp_X3_takeStep_34 {G : ab_G} {fu : Nat} {d : Nat} {D : fl_D} : ∀ (x1 : Int32) (y0 : Int32) (s : fl_I) (l : fl_L), p_X3_takeStep_34 fu x1 y0 s l → ab_C G (d + 3) 0 0 M_X3_takeStep 34 [some (.ref 3), some (.int x1)] [.int y0] (hp D s l) (rt (some (.int (f_X3_takeStep_34 fu x1 y0 s l).1)) (hp D (f_X3_takeStep_34 fu x1 y0 s l).2.1 (f_X3_takeStep_34 fu x1 y0 s l).2.2)) := by
  intro x1 y0 s l hk
  generalize he : f_X3_takeStep_34 fu x1 y0 s l = res
  unfold f_X3_takeStep_34 at he
  unfold p_X3_takeStep_34 at hk
  refine r_if_ne rfl (fun c_34 => ?_) (fun c_34 => ?_)
  · rw [if_neg c_34] at he
    replace hk := hk.2 c_34
    refine r_aload_n rfl rfl ?_
    refine r_iload_n rfl rfl ?_
    refine r_if_eq rfl (fun c_41 => ?_) (fun c_41 => ?_)
    · rw [if_pos c_41] at he
      replace hk := hk.1 c_41
      refine r_aload_n rfl rfl ?_
      refine q_getfield rfl (cc_3 _) rfl ?_
      refine w_put rfl (cc_3 _) ff_3_6 ft_3_6 (fun _ _ => (Nat.le_of_ble_eq_true rfl)) (fun _ _ => rfl) ?_
      refine r_iconst_ (a := 1) rfl (by decide) ?_
      refine r_iret rfl rfl rfl ?_
      first | with_reducible exact fin_i he | exact fin_i he
    · rw [if_neg c_41] at he
      replace hk := hk.2 c_41
      refine r_aload_n rfl rfl ?_
      refine q_getfield rfl (cc_3 _) rfl ?_
      refine r_ineg rfl ?_
      refine r_goto rfl ?_
      refine w_put rfl (cc_3 _) ff_3_6 ft_3_6 (fun _ _ => (Nat.le_of_ble_eq_true rfl)) (fun _ _ => rfl) ?_
      refine r_iconst_ (a := 1) rfl (by decide) ?_
      refine r_iret rfl rfl rfl ?_
      first | with_reducible exact fin_i he | exact fin_i he
  · rw [if_pos c_34] at he
    replace hk := hk.1 c_34
    subst he
    exact r_weak (L1 := [none, none]) trivial (lp_X3_takeStep_37 _ _ hk)

def f_X3_takeStep_28 (fu : Nat) (x1 : Int32) (s : fl_I) (l : fl_L) : Int32 × fl_I × fl_L :=
    f_X3_takeStep_34 fu x1 (f_X3_takeInt fu (0 : Int32) (2 : Int32) s l).1 (f_X3_takeInt fu (0 : Int32) (2 : Int32) s l).2.1 (f_X3_takeInt fu (0 : Int32) (2 : Int32) s l).2.2

def p_X3_takeStep_28 (fu : Nat) (x1 : Int32) (s : fl_I) (l : fl_L) : Prop :=
    (p_X3_takeInt fu (0 : Int32) (2 : Int32) s l) ∧ p_X3_takeStep_34 fu x1 (f_X3_takeInt fu (0 : Int32) (2 : Int32) s l).1 (f_X3_takeInt fu (0 : Int32) (2 : Int32) s l).2.1 (f_X3_takeInt fu (0 : Int32) (2 : Int32) s l).2.2

set_option maxRecDepth 100000 in
set_option maxHeartbeats 1000000 in
theorem lp_X3_takeStep_28 {G : ab_G} {fu : Nat} {d : Nat} {D : fl_D} : ∀ (x1 : Int32) (s : fl_I) (l : fl_L), p_X3_takeStep_28 fu x1 s l → ab_C G (d + 3) 0 0 M_X3_takeStep 28 [some (.ref 3), some (.int x1)] [] (hp D s l) (rt (some (.int (f_X3_takeStep_28 fu x1 s l).1)) (hp D (f_X3_takeStep_28 fu x1 s l).2.1 (f_X3_takeStep_28 fu x1 s l).2.2)) := by
  intro x1 s l hk
  generalize he : f_X3_takeStep_28 fu x1 s l = res
  unfold f_X3_takeStep_28 at he
  unfold p_X3_takeStep_28 at hk
  refine r_aload_n rfl rfl ?_
  refine r_iconst_ (a := 0) rfl (by decide) ?_
  refine r_iconst_ (a := 2) rfl (by decide) ?_
  obtain ⟨hb1, hk⟩ := hk
  refine q_callV0 [_, _] _ rfl kY_X3_takeInt kT_X3_takeInt rfl rfl (Nat.le_of_ble_eq_true rfl) (Nat.le_of_ble_eq_true rfl) (cc_3 _) (s_X3_takeInt hb1) (fun r h q => ?_)
  obtain ⟨rfl, rfl⟩ := q
  simp only [Option.toList, List.cons_append, List.nil_append]
  subst he
  exact r_weak (L1 := [some (.ref 3), some (.int x1)]) ⟨rfl, rfl, trivial⟩ (lp_X3_takeStep_34 _ _ _ _ hk)

def f_X3_takeStep_25 (fu : Nat) (x1 : Int32) (y0 : Int32) (s : fl_I) (l : fl_L) : Int32 × fl_I × fl_L :=
    if (y0 = 0) then f_X3_takeStep_37 fu  s l else f_X3_takeStep_28 fu x1 s l

def p_X3_takeStep_25 (fu : Nat) (x1 : Int32) (y0 : Int32) (s : fl_I) (l : fl_L) : Prop :=
    (((y0 = 0) → p_X3_takeStep_37 fu  s l) ∧ (¬ (y0 = 0) → p_X3_takeStep_28 fu x1 s l))

set_option maxRecDepth 100000 in
set_option maxHeartbeats 1000000 in
theorem lp_X3_takeStep_25 {G : ab_G} {fu : Nat} {d : Nat} {D : fl_D} : ∀ (x1 : Int32) (y0 : Int32) (s : fl_I) (l : fl_L), p_X3_takeStep_25 fu x1 y0 s l → ab_C G (d + 3) 0 0 M_X3_takeStep 25 [some (.ref 3), some (.int x1)] [.int y0] (hp D s l) (rt (some (.int (f_X3_takeStep_25 fu x1 y0 s l).1)) (hp D (f_X3_takeStep_25 fu x1 y0 s l).2.1 (f_X3_takeStep_25 fu x1 y0 s l).2.2)) := by
  intro x1 y0 s l hk
  generalize he : f_X3_takeStep_25 fu x1 y0 s l = res
  unfold f_X3_takeStep_25 at he
  unfold p_X3_takeStep_25 at hk
  refine r_if_eq rfl (fun c_25 => ?_) (fun c_25 => ?_)
  · rw [if_pos c_25] at he
    replace hk := hk.1 c_25
    subst he
    exact r_weak (L1 := [none, none]) trivial (lp_X3_takeStep_37 _ _ hk)
  · rw [if_neg c_25] at he
    replace hk := hk.2 c_25
    subst he
    exact r_weak (L1 := [some (.ref 3), some (.int x1)]) ⟨rfl, rfl, trivial⟩ (lp_X3_takeStep_28 _ _ _ hk)

def f_X3_takeStep (fu : Nat) (s : fl_I) (l : fl_L) : Int32 × fl_I × fl_L :=
  if ((f_X3_kindNow fu s l) = (45 : Int32)) then if ((1 : Int32) = 0) then f_X3_takeStep_28 fu (1 : Int32) s l else f_X3_takeStep_25 fu (1 : Int32) (f_X3_take fu (45 : Int32) s l).1 (f_X3_take fu (45 : Int32) s l).2.1 (f_X3_take fu (45 : Int32) s l).2.2 else if ((0 : Int32) = 0) then f_X3_takeStep_28 fu (0 : Int32) s l else f_X3_takeStep_25 fu (0 : Int32) (f_X3_take fu (45 : Int32) s l).1 (f_X3_take fu (45 : Int32) s l).2.1 (f_X3_take fu (45 : Int32) s l).2.2

def p_X3_takeStep (fu : Nat) (s : fl_I) (l : fl_L) : Prop :=
  (p_X3_kindNow fu s l) ∧ ((((f_X3_kindNow fu s l) = (45 : Int32)) → ((((1 : Int32) = 0) → p_X3_takeStep_28 fu (1 : Int32) s l) ∧ (¬ ((1 : Int32) = 0) → (p_X3_take fu (45 : Int32) s l) ∧ p_X3_takeStep_25 fu (1 : Int32) (f_X3_take fu (45 : Int32) s l).1 (f_X3_take fu (45 : Int32) s l).2.1 (f_X3_take fu (45 : Int32) s l).2.2))) ∧ (¬ ((f_X3_kindNow fu s l) = (45 : Int32)) → ((((0 : Int32) = 0) → p_X3_takeStep_28 fu (0 : Int32) s l) ∧ (¬ ((0 : Int32) = 0) → (p_X3_take fu (45 : Int32) s l) ∧ p_X3_takeStep_25 fu (0 : Int32) (f_X3_take fu (45 : Int32) s l).1 (f_X3_take fu (45 : Int32) s l).2.1 (f_X3_take fu (45 : Int32) s l).2.2))))

set_option maxRecDepth 100000 in
set_option maxHeartbeats 1000000 in
theorem s_X3_takeStep {G : ab_G} {fu : Nat} {d : Nat} {D : fl_D} {s : fl_I} {l : fl_L}  (hk : p_X3_takeStep fu s l) : ab_C G (d + 3) 0 0 M_X3_takeStep 0 (ab_ent [.ref 3]) [] (hp D s l) (rt (some (.int (f_X3_takeStep fu s l).1)) (hp D (f_X3_takeStep fu s l).2.1 (f_X3_takeStep fu s l).2.2)) := by
  generalize he : (f_X3_takeStep fu s l) = res
  unfold f_X3_takeStep at he
  unfold p_X3_takeStep at hk
  refine r_weak (L1 := [some (.ref 3), none]) ⟨rfl, trivial⟩ ?_
  refine r_aload_n rfl rfl ?_
  obtain ⟨hb0, hk⟩ := hk
  refine q_callV0 [] _ rfl kY_X3_kindNow kT_X3_kindNow rfl rfl (Nat.le_of_ble_eq_true rfl) (Nat.le_of_ble_eq_true rfl) (cc_3 _) (s_X3_kindNow hb0) (fun r h q => ?_)
  obtain ⟨rfl, rfl⟩ := q
  simp only [Option.toList, List.cons_append, List.nil_append]
  refine r_bipush_ (a := 45) rfl (by decide) ?_
  refine r_icmp_ne rfl (fun c_6 => ?_) (fun c_6 => ?_)
  · rw [if_neg c_6] at he
    replace hk := hk.2 c_6
    refine r_iconst_ (a := 0) rfl (by decide) ?_
    refine r_istore_n rfl (Nat.le_of_ble_eq_true rfl) rfl ?_
    refine r_iload_n rfl rfl ?_
    refine r_if_eq rfl (fun c_16 => ?_) (fun c_16 => ?_)
    · rw [if_pos c_16] at he
      replace hk := hk.1 c_16
      subst he
      exact r_weak (L1 := [some (.ref 3), some (.int (0 : Int32))]) ⟨rfl, rfl, trivial⟩ (lp_X3_takeStep_28 _ _ _ hk)
    · rw [if_neg c_16] at he
      replace hk := hk.2 c_16
      refine r_aload_n rfl rfl ?_
      refine r_bipush_ (a := 45) rfl (by decide) ?_
      obtain ⟨hb2, hk⟩ := hk
      refine q_callV0 [_] _ rfl kY_X3_take kT_X3_take rfl rfl (Nat.le_of_ble_eq_true rfl) (Nat.le_of_ble_eq_true rfl) (cc_3 _) (s_X3_take hb2) (fun r h q => ?_)
      obtain ⟨rfl, rfl⟩ := q
      simp only [Option.toList, List.cons_append, List.nil_append]
      subst he
      exact r_weak (L1 := [some (.ref 3), some (.int (0 : Int32))]) ⟨rfl, rfl, trivial⟩ (lp_X3_takeStep_25 _ _ _ _ hk)
  · rw [if_pos c_6] at he
    replace hk := hk.1 c_6
    refine r_iconst_ (a := 1) rfl (by decide) ?_
    refine r_goto rfl ?_
    refine r_istore_n rfl (Nat.le_of_ble_eq_true rfl) rfl ?_
    refine r_iload_n rfl rfl ?_
    refine r_if_eq rfl (fun c_16 => ?_) (fun c_16 => ?_)
    · rw [if_pos c_16] at he
      replace hk := hk.1 c_16
      subst he
      exact r_weak (L1 := [some (.ref 3), some (.int (1 : Int32))]) ⟨rfl, rfl, trivial⟩ (lp_X3_takeStep_28 _ _ _ hk)
    · rw [if_neg c_16] at he
      replace hk := hk.2 c_16
      refine r_aload_n rfl rfl ?_
      refine r_bipush_ (a := 45) rfl (by decide) ?_
      obtain ⟨hb3, hk⟩ := hk
      refine q_callV0 [_] _ rfl kY_X3_take kT_X3_take rfl rfl (Nat.le_of_ble_eq_true rfl) (Nat.le_of_ble_eq_true rfl) (cc_3 _) (s_X3_take hb3) (fun r h q => ?_)
      obtain ⟨rfl, rfl⟩ := q
      simp only [Option.toList, List.cons_append, List.nil_append]
      subst he
      exact r_weak (L1 := [some (.ref 3), some (.int (1 : Int32))]) ⟨rfl, rfl, trivial⟩ (lp_X3_takeStep_25 _ _ _ _ hk)

def f_X6_kindFrom (fu : Nat) (v1 : Int32) (s : fl_I) (l : fl_L) : Int32 × fl_I × fl_L :=
  if ((f_X6_isLetter fu (f_X4_byteAt fu (s 4 4) s l)) = 0) then if ((f_X6_isDigit fu (f_X4_byteAt fu (s 4 4) s l)) = 0) then if ((f_X6_isSign fu (f_X4_byteAt fu (s 4 4) s l)) = 0) then ((1 : Int32), (wi s 4 4 ((s 4 4) + (1 : Int32))), l) else ((f_X4_byteAt fu (s 4 4) s l), (wi s 4 4 ((s 4 4) + (1 : Int32))), l) else ((f_X6_intKind fu v1 s l).1, (f_X6_intKind fu v1 s l).2.1, (f_X6_intKind fu v1 s l).2.2) else ((f_X6_nameKind fu v1 s l).1, (f_X6_nameKind fu v1 s l).2.1, (f_X6_nameKind fu v1 s l).2.2)

def p_X6_kindFrom (fu : Nat) (v1 : Int32) (s : fl_I) (l : fl_L) : Prop :=
  (p_X4_byteAt fu (s 4 4) s l) ∧ (p_X6_isLetter fu (f_X4_byteAt fu (s 4 4) s l)) ∧ ((((f_X6_isLetter fu (f_X4_byteAt fu (s 4 4) s l)) = 0) → (p_X6_isDigit fu (f_X4_byteAt fu (s 4 4) s l)) ∧ ((((f_X6_isDigit fu (f_X4_byteAt fu (s 4 4) s l)) = 0) → (p_X6_isSign fu (f_X4_byteAt fu (s 4 4) s l)) ∧ ((((f_X6_isSign fu (f_X4_byteAt fu (s 4 4) s l)) = 0) → True) ∧ (¬ ((f_X6_isSign fu (f_X4_byteAt fu (s 4 4) s l)) = 0) → True))) ∧ (¬ ((f_X6_isDigit fu (f_X4_byteAt fu (s 4 4) s l)) = 0) → (p_X6_intKind fu v1 s l) ∧ True))) ∧ (¬ ((f_X6_isLetter fu (f_X4_byteAt fu (s 4 4) s l)) = 0) → (p_X6_nameKind fu v1 s l) ∧ True))

set_option maxRecDepth 100000 in
set_option maxHeartbeats 1000000 in
theorem s_X6_kindFrom {G : ab_G} {fu : Nat} {d : Nat} {D : fl_D} {s : fl_I} {l : fl_L} {v1 : Int32} (hk : p_X6_kindFrom fu v1 s l) : ab_C G (d + 2) 0 0 M_X6_kindFrom 0 (ab_ent [.ref 4, .ref 1, .int v1]) [] (hp D s l) (rt (some (.int (f_X6_kindFrom fu v1 s l).1)) (hp D (f_X6_kindFrom fu v1 s l).2.1 (f_X6_kindFrom fu v1 s l).2.2)) := by
  generalize he : (f_X6_kindFrom fu v1 s l) = res
  unfold f_X6_kindFrom at he
  unfold p_X6_kindFrom at hk
  refine r_weak (L1 := [some (.ref 4), some (.ref 1), some (.int v1), none]) ⟨rfl, rfl, rfl, trivial⟩ ?_
  refine r_aload_n rfl rfl ?_
  refine r_aload_n rfl rfl ?_
  refine q_getfield rfl (cc_4 _) rfl ?_
  obtain ⟨hb0, hk⟩ := hk
  refine q_callV0 [_] _ rfl kY_X4_byteAt kT_X4_byteAt rfl rfl (Nat.le_of_ble_eq_true rfl) (Nat.le_of_ble_eq_true rfl) (cc_1 _) (s_X4_byteAt hb0) (fun r h q => ?_)
  obtain ⟨rfl, rfl⟩ := q
  simp only [Option.toList, List.cons_append, List.nil_append]
  refine r_istore_n rfl (Nat.le_of_ble_eq_true rfl) rfl ?_
  refine r_iload_n rfl rfl ?_
  obtain ⟨hb1, hk⟩ := hk
  refine r_callS0 [_] _ rfl kY_X6_isLetter kT_X6_isLetter rfl rfl (Nat.le_of_ble_eq_true rfl) (Nat.le_of_ble_eq_true rfl) (s_X6_isLetter hb1) (fun r h q => ?_)
  obtain ⟨rfl, rfl⟩ := q
  simp only [Option.toList, List.cons_append, List.nil_append]
  refine r_if_eq rfl (fun c_13 => ?_) (fun c_13 => ?_)
  · rw [if_pos c_13] at he
    replace hk := hk.1 c_13
    refine r_iload_n rfl rfl ?_
    obtain ⟨hb2, hk⟩ := hk
    refine r_callS0 [_] _ rfl kY_X6_isDigit kT_X6_isDigit rfl rfl (Nat.le_of_ble_eq_true rfl) (Nat.le_of_ble_eq_true rfl) (s_X6_isDigit hb2) (fun r h q => ?_)
    obtain ⟨rfl, rfl⟩ := q
    simp only [Option.toList, List.cons_append, List.nil_append]
    refine r_if_eq rfl (fun c_27 => ?_) (fun c_27 => ?_)
    · rw [if_pos c_27] at he
      replace hk := hk.1 c_27
      refine r_aload_n rfl rfl ?_
      refine r_dup rfl rfl ?_
      refine q_getfield rfl (cc_4 _) rfl ?_
      refine r_iconst_ (a := 1) rfl (by decide) ?_
      refine r_iadd rfl ?_
      refine w_put rfl (cc_4 _) ff_6_4 ft_6_4 (fun _ _ => (Nat.le_of_ble_eq_true rfl)) (fun _ _ => rfl) ?_
      refine r_iload_n rfl rfl ?_
      obtain ⟨hb3, hk⟩ := hk
      refine r_callS0 [_] _ rfl kY_X6_isSign kT_X6_isSign rfl rfl (Nat.le_of_ble_eq_true rfl) (Nat.le_of_ble_eq_true rfl) (s_X6_isSign hb3) (fun r h q => ?_)
      obtain ⟨rfl, rfl⟩ := q
      simp only [Option.toList, List.cons_append, List.nil_append]
      refine r_if_eq rfl (fun c_51 => ?_) (fun c_51 => ?_)
      · rw [if_pos c_51] at he
        replace hk := hk.1 c_51
        refine r_iconst_ (a := 1) rfl (by decide) ?_
        refine r_iret rfl rfl rfl ?_
        first | with_reducible exact fin_i he | exact fin_i he
      · rw [if_neg c_51] at he
        replace hk := hk.2 c_51
        refine r_iload_n rfl rfl ?_
        refine r_goto rfl ?_
        refine r_iret rfl rfl rfl ?_
        first | with_reducible exact fin_i he | exact fin_i he
    · rw [if_neg c_27] at he
      replace hk := hk.2 c_27
      refine r_aload_n rfl rfl ?_
      refine r_aload_n rfl rfl ?_
      refine r_iload_n rfl rfl ?_
      obtain ⟨hb4, hk⟩ := hk
      refine q_callV0 [_, _] _ rfl kY_X6_intKind kT_X6_intKind rfl rfl (Nat.le_of_ble_eq_true rfl) (Nat.le_of_ble_eq_true rfl) (cc_4 _) (s_X6_intKind hb4) (fun r h q => ?_)
      obtain ⟨rfl, rfl⟩ := q
      simp only [Option.toList, List.cons_append, List.nil_append]
      refine r_iret rfl rfl rfl ?_
      first | with_reducible exact fin_i he | exact fin_i he
  · rw [if_neg c_13] at he
    replace hk := hk.2 c_13
    refine r_aload_n rfl rfl ?_
    refine r_aload_n rfl rfl ?_
    refine r_iload_n rfl rfl ?_
    obtain ⟨hb5, hk⟩ := hk
    refine q_callV0 [_, _] _ rfl kY_X6_nameKind kT_X6_nameKind rfl rfl (Nat.le_of_ble_eq_true rfl) (Nat.le_of_ble_eq_true rfl) (cc_4 _) (s_X6_nameKind hb5) (fun r h q => ?_)
    obtain ⟨rfl, rfl⟩ := q
    simp only [Option.toList, List.cons_append, List.nil_append]
    refine r_iret rfl rfl rfl ?_
    first | with_reducible exact fin_i he | exact fin_i he

def f_X12_made_19 (fu : Nat) : Nat → Int32 → Int32 → fl_I → fl_L → Int32 × fl_I × fl_L
  | 0, x2, x3, s, l => (0, s, l)
  | n + 1, x2, x3, s, l =>
    if ((s 72 (s 60 18).toNatClampNeg) ≤ x3) then (x2, s, l) else if ((f_X12_missingOf fu x3 s l) = 0) then f_X12_made_19 fu n (x2 ||| ((1 : Int32) <<< (x3 &&& 31))) (x3 + 1) s l else f_X12_made_19 fu n x2 (x3 + 1) s l

def p_X12_made_19 (fu : Nat) : Nat → Int32 → Int32 → fl_I → fl_L → Prop
  | 0, _, _, _, _ => False
  | n + 1, x2, x3, s, l =>
    (vp_in (s 60 18) 2) ∧ ((((s 72 (s 60 18).toNatClampNeg) ≤ x3) → True) ∧ (¬ ((s 72 (s 60 18).toNatClampNeg) ≤ x3) → (p_X12_missingOf fu x3 s l) ∧ ((((f_X12_missingOf fu x3 s l) = 0) → p_X12_made_19 fu n (x2 ||| ((1 : Int32) <<< (x3 &&& 31))) (x3 + 1) s l) ∧ (¬ ((f_X12_missingOf fu x3 s l) = 0) → p_X12_made_19 fu n x2 (x3 + 1) s l))))

set_option maxRecDepth 100000 in
set_option maxHeartbeats 1000000 in
theorem lp_X12_made_19 {G : ab_G} {fu : Nat} {d : Nat} {D : fl_D} : ∀ (n : Nat) (x2 : Int32) (x3 : Int32) (s : fl_I) (l : fl_L), p_X12_made_19 fu n x2 x3 s l → ab_C G (d + 3) 0 0 M_X12_made 19 [some (.ref 60), none, some (.int x2), some (.int x3)] [] (hp D s l) (rt (some (.int (f_X12_made_19 fu n x2 x3 s l).1)) (hp D (f_X12_made_19 fu n x2 x3 s l).2.1 (f_X12_made_19 fu n x2 x3 s l).2.2)) := by
  intro n
  induction n with
  | zero => intro x2 x3 s l hk; exact hk.elim
  | succ n ih =>
    intro x2 x3 s l hk
    generalize he : f_X12_made_19 fu (n + 1) x2 x3 s l = res
    unfold f_X12_made_19 at he
    unfold p_X12_made_19 at hk
    refine r_iload_n rfl rfl ?_
    refine r_aload_n rfl rfl ?_
    refine q_getfield rfl (cc_60 _) rfl ?_
    refine r_aload_n rfl rfl ?_
    refine q_getfield rfl (cc_60 _) rfl ?_
    obtain ⟨hb2, hk⟩ := hk
    refine q_iald rfl (cc_72 _) hb2 ?_
    refine r_icmp_ge rfl (fun c_29 => ?_) (fun c_29 => ?_)
    · rw [if_pos c_29] at he
      replace hk := hk.1 c_29
      refine r_iload_n rfl rfl ?_
      refine r_iret rfl rfl rfl ?_
      first | with_reducible exact fin_i he | exact fin_i he
    · rw [if_neg c_29] at he
      replace hk := hk.2 c_29
      refine r_aload_n rfl rfl ?_
      refine r_iload_n rfl rfl ?_
      obtain ⟨hb3, hk⟩ := hk
      refine q_callV0 [_] _ rfl kY_X12_missingOf kT_X12_missingOf rfl rfl (Nat.le_of_ble_eq_true rfl) (Nat.le_of_ble_eq_true rfl) (cc_60 _) (s_X12_missingOf hb3) (fun r h q => ?_)
      obtain ⟨rfl, rfl⟩ := q
      simp only [Option.toList, List.cons_append, List.nil_append]
      refine r_if_ne rfl (fun c_37 => ?_) (fun c_37 => ?_)
      · rw [if_neg c_37] at he
        replace hk := hk.2 c_37
        refine r_iinc (b := x3 + 1) rfl rfl rfl (Nat.le_of_ble_eq_true rfl) rfl ?_
        refine r_goto rfl ?_
        subst he
        exact r_weak (L1 := [some (.ref 60), none, some (.int x2), some (.int (x3 + 1))]) ⟨rfl, rfl, rfl, trivial⟩ (ih _ _ _ _ hk)
      · rw [if_pos c_37] at he
        replace hk := hk.1 c_37
        refine r_iload_n rfl rfl ?_
        refine r_iconst_ (a := 1) rfl (by decide) ?_
        refine r_iload_n rfl rfl ?_
        refine r_ishl rfl ?_
        refine r_ior rfl ?_
        refine r_istore_n rfl (Nat.le_of_ble_eq_true rfl) rfl ?_
        refine r_iinc (b := x3 + 1) rfl rfl rfl (Nat.le_of_ble_eq_true rfl) rfl ?_
        refine r_goto rfl ?_
        subst he
        exact r_weak (L1 := [some (.ref 60), none, some (.int (x2 ||| ((1 : Int32) <<< (x3 &&& 31)))), some (.int (x3 + 1))]) ⟨rfl, rfl, rfl, trivial⟩ (ih _ _ _ _ hk)

def f_X12_made (fu : Nat) (v0 : Int32) (s : fl_I) (l : fl_L) : Int32 × fl_I × fl_L :=
  if ((f_X12_isHeap fu v0 s l) = 0) then ((-1 : Int32), s, l) else f_X12_made_19 fu fu (0 : Int32) (0 : Int32) (f_X12_fillsHeap fu v0 s l).1 (f_X12_fillsHeap fu v0 s l).2

def p_X12_made (fu : Nat) (v0 : Int32) (s : fl_I) (l : fl_L) : Prop :=
  (p_X12_isHeap fu v0 s l) ∧ ((((f_X12_isHeap fu v0 s l) = 0) → True) ∧ (¬ ((f_X12_isHeap fu v0 s l) = 0) → (p_X12_fillsHeap fu v0 s l) ∧ p_X12_made_19 fu fu (0 : Int32) (0 : Int32) (f_X12_fillsHeap fu v0 s l).1 (f_X12_fillsHeap fu v0 s l).2))

set_option maxRecDepth 100000 in
set_option maxHeartbeats 1000000 in
theorem s_X12_made {G : ab_G} {fu : Nat} {d : Nat} {D : fl_D} {s : fl_I} {l : fl_L} {v0 : Int32} (hk : p_X12_made fu v0 s l) : ab_C G (d + 3) 0 0 M_X12_made 0 (ab_ent [.ref 60, .int v0]) [] (hp D s l) (rt (some (.int (f_X12_made fu v0 s l).1)) (hp D (f_X12_made fu v0 s l).2.1 (f_X12_made fu v0 s l).2.2)) := by
  generalize he : (f_X12_made fu v0 s l) = res
  unfold f_X12_made at he
  unfold p_X12_made at hk
  refine r_weak (L1 := [some (.ref 60), some (.int v0), none, none]) ⟨rfl, rfl, trivial⟩ ?_
  refine r_aload_n rfl rfl ?_
  refine r_iload_n rfl rfl ?_
  obtain ⟨hb0, hk⟩ := hk
  refine q_callV0 [_] _ rfl kY_X12_isHeap kT_X12_isHeap rfl rfl (Nat.le_of_ble_eq_true rfl) (Nat.le_of_ble_eq_true rfl) (cc_60 _) (s_X12_isHeap hb0) (fun r h q => ?_)
  obtain ⟨rfl, rfl⟩ := q
  simp only [Option.toList, List.cons_append, List.nil_append]
  refine r_if_ne rfl (fun c_5 => ?_) (fun c_5 => ?_)
  · rw [if_neg c_5] at he
    replace hk := hk.2 c_5
    refine r_aload_n rfl rfl ?_
    refine r_iload_n rfl rfl ?_
    obtain ⟨hb1, hk⟩ := hk
    refine q_callV0 [_] _ rfl kY_X12_fillsHeap kT_X12_fillsHeap rfl rfl (Nat.le_of_ble_eq_true rfl) (Nat.le_of_ble_eq_true rfl) (cc_60 _) (s_X12_fillsHeap hb1) (fun r h q => ?_)
    obtain ⟨rfl, rfl⟩ := q
    simp only [Option.toList, List.cons_append, List.nil_append]
    refine r_iconst_ (a := 0) rfl (by decide) ?_
    refine r_istore_n rfl (Nat.le_of_ble_eq_true rfl) rfl ?_
    refine r_iconst_ (a := 0) rfl (by decide) ?_
    refine r_istore_n rfl (Nat.le_of_ble_eq_true rfl) rfl ?_
    subst he
    exact r_weak (L1 := [some (.ref 60), none, some (.int (0 : Int32)), some (.int (0 : Int32))]) ⟨rfl, rfl, rfl, trivial⟩ (lp_X12_made_19 fu _ _ _ _ hk)
  · rw [if_pos c_5] at he
    replace hk := hk.1 c_5
    refine r_iconst_ (a := -1) rfl (by decide) ?_
    refine r_iret rfl rfl rfl ?_
    first | with_reducible exact fin_i he | exact fin_i he

