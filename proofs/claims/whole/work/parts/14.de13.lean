def f_X12_begins_171 (fu : Nat) : Nat → Int32 → fl_I → fl_L → fl_I × fl_L
  | 0, x1, s, l => (s, l)
  | n + 1, x1, s, l =>
    if ((s 74 (s 60 18).toNatClampNeg) ≤ x1) then ((wi (wi s 60 52 (s 81 (s 60 18).toNatClampNeg)) 60 53 (0 : Int32)), l) else f_X12_begins_171 fu n (x1 + 1) (wi (wi (wi s 95 ((128 : Int32) + x1).toNatClampNeg (s 76 (((4 : Int32) * (s 60 18)) + x1).toNatClampNeg)) 95 ((132 : Int32) + x1).toNatClampNeg ((wi s 95 ((128 : Int32) + x1).toNatClampNeg (s 76 (((4 : Int32) * (s 60 18)) + x1).toNatClampNeg)) 77 (((4 : Int32) * ((wi s 95 ((128 : Int32) + x1).toNatClampNeg (s 76 (((4 : Int32) * (s 60 18)) + x1).toNatClampNeg)) 60 18)) + x1).toNatClampNeg)) 95 ((136 : Int32) + x1).toNatClampNeg (-2 : Int32)) l

def p_X12_begins_171 (fu : Nat) : Nat → Int32 → fl_I → fl_L → Prop
  | 0, _, _, _ => False
  | n + 1, x1, s, l =>
    (vp_in (s 60 18) 2) ∧ ((((s 74 (s 60 18).toNatClampNeg) ≤ x1) → (vp_in (s 60 18) 2) ∧ True) ∧ (¬ ((s 74 (s 60 18).toNatClampNeg) ≤ x1) → (vp_in (((4 : Int32) * (s 60 18)) + x1) 8) ∧ (vp_in ((128 : Int32) + x1) 141) ∧ (vp_in (((4 : Int32) * ((wi s 95 ((128 : Int32) + x1).toNatClampNeg (s 76 (((4 : Int32) * (s 60 18)) + x1).toNatClampNeg)) 60 18)) + x1) 8) ∧ (vp_in ((132 : Int32) + x1) 141) ∧ (vp_in ((136 : Int32) + x1) 141) ∧ p_X12_begins_171 fu n (x1 + 1) (wi (wi (wi s 95 ((128 : Int32) + x1).toNatClampNeg (s 76 (((4 : Int32) * (s 60 18)) + x1).toNatClampNeg)) 95 ((132 : Int32) + x1).toNatClampNeg ((wi s 95 ((128 : Int32) + x1).toNatClampNeg (s 76 (((4 : Int32) * (s 60 18)) + x1).toNatClampNeg)) 77 (((4 : Int32) * ((wi s 95 ((128 : Int32) + x1).toNatClampNeg (s 76 (((4 : Int32) * (s 60 18)) + x1).toNatClampNeg)) 60 18)) + x1).toNatClampNeg)) 95 ((136 : Int32) + x1).toNatClampNeg (-2 : Int32)) l))

set_option maxRecDepth 100000 in
set_option maxHeartbeats 1000000 in
theorem lp_X12_begins_171 {G : ab_G} {fu : Nat} {d : Nat} {D : fl_D} : ∀ (n : Nat) (x1 : Int32) (s : fl_I) (l : fl_L), p_X12_begins_171 fu n x1 s l → ab_C G (d + 2) 0 0 M_X12_begins 171 [some (.ref 60), some (.int x1), none, none] [] (hp D s l) (rt none (hp D (f_X12_begins_171 fu n x1 s l).1 (f_X12_begins_171 fu n x1 s l).2)) := by
  intro n
  induction n with
  | zero => intro x1 s l hk; exact hk.elim
  | succ n ih =>
    intro x1 s l hk
    generalize he : f_X12_begins_171 fu (n + 1) x1 s l = res
    unfold f_X12_begins_171 at he
    unfold p_X12_begins_171 at hk
    refine r_iload_n rfl rfl ?_
    refine r_aload_n rfl rfl ?_
    refine q_getfield rfl (cc_60 _) rfl ?_
    refine r_aload_n rfl rfl ?_
    refine q_getfield rfl (cc_60 _) rfl ?_
    obtain ⟨hb1, hk⟩ := hk
    refine q_iald rfl (cc_74 _) hb1 ?_
    refine r_icmp_ge rfl (fun c_181 => ?_) (fun c_181 => ?_)
    · rw [if_pos c_181] at he
      replace hk := hk.1 c_181
      refine r_aload_n rfl rfl ?_
      refine r_aload_n rfl rfl ?_
      refine q_getfield rfl (cc_60 _) rfl ?_
      refine r_aload_n rfl rfl ?_
      refine q_getfield rfl (cc_60 _) rfl ?_
      obtain ⟨hb2, hk⟩ := hk
      refine q_iald rfl (cc_81 _) hb2 ?_
      refine w_put rfl (cc_60 _) ff_12_52 ft_12_52 (fun _ _ => (Nat.le_of_ble_eq_true rfl)) (fun _ _ => rfl) ?_
      refine r_aload_n rfl rfl ?_
      refine r_iconst_ (a := 0) rfl (by decide) ?_
      refine w_putZ rfl (cc_60 _) ff_12_53 ft_12_53 (by decide) (fun _ _ => (Nat.le_of_ble_eq_true rfl)) (fun _ _ => rfl) ?_
      refine r_ret rfl rfl ?_
      first | with_reducible exact fin_v he | exact fin_v he
    · rw [if_neg c_181] at he
      replace hk := hk.2 c_181
      refine r_aload_n rfl rfl ?_
      refine q_getfield rfl (cc_60 _) rfl ?_
      refine r_sipush_ (a := 128) rfl (by decide) ?_
      refine r_iload_n rfl rfl ?_
      refine r_iadd rfl ?_
      refine r_aload_n rfl rfl ?_
      refine q_getfield rfl (cc_60 _) rfl ?_
      refine r_iconst_ (a := 4) rfl (by decide) ?_
      refine r_aload_n rfl rfl ?_
      refine q_getfield rfl (cc_60 _) rfl ?_
      refine r_imul rfl ?_
      refine r_iload_n rfl rfl ?_
      refine r_iadd rfl ?_
      obtain ⟨hb3, hk⟩ := hk
      refine q_iald rfl (cc_76 _) hb3 ?_
      obtain ⟨hb4, hk⟩ := hk
      refine w_iast rfl (cc_95 _) hb4 ?_
      refine r_aload_n rfl rfl ?_
      refine q_getfield rfl (cc_60 _) rfl ?_
      refine r_sipush_ (a := 132) rfl (by decide) ?_
      refine r_iload_n rfl rfl ?_
      refine r_iadd rfl ?_
      refine r_aload_n rfl rfl ?_
      refine q_getfield rfl (cc_60 _) rfl ?_
      refine r_iconst_ (a := 4) rfl (by decide) ?_
      refine r_aload_n rfl rfl ?_
      refine q_getfield rfl (cc_60 _) rfl ?_
      refine r_imul rfl ?_
      refine r_iload_n rfl rfl ?_
      refine r_iadd rfl ?_
      obtain ⟨hb5, hk⟩ := hk
      refine q_iald rfl (cc_77 _) hb5 ?_
      obtain ⟨hb6, hk⟩ := hk
      refine w_iast rfl (cc_95 _) hb6 ?_
      refine r_aload_n rfl rfl ?_
      refine q_getfield rfl (cc_60 _) rfl ?_
      refine r_sipush_ (a := 136) rfl (by decide) ?_
      refine r_iload_n rfl rfl ?_
      refine r_iadd rfl ?_
      refine r_bipush_ (a := -2) rfl (by decide) ?_
      obtain ⟨hb7, hk⟩ := hk
      refine w_iast rfl (cc_95 _) hb7 ?_
      refine r_iinc (b := x1 + 1) rfl rfl rfl (Nat.le_of_ble_eq_true rfl) rfl ?_
      refine r_goto rfl ?_
      subst he
      exact r_weak (L1 := [some (.ref 60), some (.int (x1 + 1)), none, none]) ⟨rfl, rfl, trivial⟩ (ih _ _ _ hk)

def f_X12_begins_53 (fu : Nat) (K29 : Int32 → fl_I → fl_L → fl_I × fl_L) : Nat → Int32 → Int32 → Int32 → fl_I → fl_L → fl_I × fl_L
  | 0, x1, x2, x3, s, l => (s, l)
  | n + 1, x1, x2, x3, s, l =>
    if ((f_X12_lengthOf fu (l 69 x2.toNatClampNeg)) ≤ x3) then K29 (x1 + 1) s l else f_X12_begins_53 fu K29 n x1 x2 (x3 + 1) (wi (wi (wi (wi (wi (wi s 96 (s 60 54).toNatClampNeg (f_X12_signAt fu (l 69 x2.toNatClampNeg) x3)) 97 ((wi s 96 (s 60 54).toNatClampNeg (f_X12_signAt fu (l 69 x2.toNatClampNeg) x3)) 60 54).toNatClampNeg x1) 95 ((wi (wi s 96 (s 60 54).toNatClampNeg (f_X12_signAt fu (l 69 x2.toNatClampNeg) x3)) 97 ((wi s 96 (s 60 54).toNatClampNeg (f_X12_signAt fu (l 69 x2.toNatClampNeg) x3)) 60 54).toNatClampNeg x1) 60 54).toNatClampNeg ((((wi (wi s 96 (s 60 54).toNatClampNeg (f_X12_signAt fu (l 69 x2.toNatClampNeg) x3)) 97 ((wi s 96 (s 60 54).toNatClampNeg (f_X12_signAt fu (l 69 x2.toNatClampNeg) x3)) 60 54).toNatClampNeg x1) 70 x2.toNatClampNeg) + x3) - (((wi (wi s 96 (s 60 54).toNatClampNeg (f_X12_signAt fu (l 69 x2.toNatClampNeg) x3)) 97 ((wi s 96 (s 60 54).toNatClampNeg (f_X12_signAt fu (l 69 x2.toNatClampNeg) x3)) 60 54).toNatClampNeg x1) 70 x2.toNatClampNeg) + x3) / (10 : Int32) * (10 : Int32))) 95 ((32 : Int32) + ((wi (wi (wi s 96 (s 60 54).toNatClampNeg (f_X12_signAt fu (l 69 x2.toNatClampNeg) x3)) 97 ((wi s 96 (s 60 54).toNatClampNeg (f_X12_signAt fu (l 69 x2.toNatClampNeg) x3)) 60 54).toNatClampNeg x1) 95 ((wi (wi s 96 (s 60 54).toNatClampNeg (f_X12_signAt fu (l 69 x2.toNatClampNeg) x3)) 97 ((wi s 96 (s 60 54).toNatClampNeg (f_X12_signAt fu (l 69 x2.toNatClampNeg) x3)) 60 54).toNatClampNeg x1) 60 54).toNatClampNeg ((((wi (wi s 96 (s 60 54).toNatClampNeg (f_X12_signAt fu (l 69 x2.toNatClampNeg) x3)) 97 ((wi s 96 (s 60 54).toNatClampNeg (f_X12_signAt fu (l 69 x2.toNatClampNeg) x3)) 60 54).toNatClampNeg x1) 70 x2.toNatClampNeg) + x3) - (((wi (wi s 96 (s 60 54).toNatClampNeg (f_X12_signAt fu (l 69 x2.toNatClampNeg) x3)) 97 ((wi s 96 (s 60 54).toNatClampNeg (f_X12_signAt fu (l 69 x2.toNatClampNeg) x3)) 60 54).toNatClampNeg x1) 70 x2.toNatClampNeg) + x3) / (10 : Int32) * (10 : Int32))) 60 54)).toNatClampNeg ((wi (wi (wi s 96 (s 60 54).toNatClampNeg (f_X12_signAt fu (l 69 x2.toNatClampNeg) x3)) 97 ((wi s 96 (s 60 54).toNatClampNeg (f_X12_signAt fu (l 69 x2.toNatClampNeg) x3)) 60 54).toNatClampNeg x1) 95 ((wi (wi s 96 (s 60 54).toNatClampNeg (f_X12_signAt fu (l 69 x2.toNatClampNeg) x3)) 97 ((wi s 96 (s 60 54).toNatClampNeg (f_X12_signAt fu (l 69 x2.toNatClampNeg) x3)) 60 54).toNatClampNeg x1) 60 54).toNatClampNeg ((((wi (wi s 96 (s 60 54).toNatClampNeg (f_X12_signAt fu (l 69 x2.toNatClampNeg) x3)) 97 ((wi s 96 (s 60 54).toNatClampNeg (f_X12_signAt fu (l 69 x2.toNatClampNeg) x3)) 60 54).toNatClampNeg x1) 70 x2.toNatClampNeg) + x3) - (((wi (wi s 96 (s 60 54).toNatClampNeg (f_X12_signAt fu (l 69 x2.toNatClampNeg) x3)) 97 ((wi s 96 (s 60 54).toNatClampNeg (f_X12_signAt fu (l 69 x2.toNatClampNeg) x3)) 60 54).toNatClampNeg x1) 70 x2.toNatClampNeg) + x3) / (10 : Int32) * (10 : Int32))) 71 x2.toNatClampNeg)) 95 ((64 : Int32) + ((wi (wi (wi (wi s 96 (s 60 54).toNatClampNeg (f_X12_signAt fu (l 69 x2.toNatClampNeg) x3)) 97 ((wi s 96 (s 60 54).toNatClampNeg (f_X12_signAt fu (l 69 x2.toNatClampNeg) x3)) 60 54).toNatClampNeg x1) 95 ((wi (wi s 96 (s 60 54).toNatClampNeg (f_X12_signAt fu (l 69 x2.toNatClampNeg) x3)) 97 ((wi s 96 (s 60 54).toNatClampNeg (f_X12_signAt fu (l 69 x2.toNatClampNeg) x3)) 60 54).toNatClampNeg x1) 60 54).toNatClampNeg ((((wi (wi s 96 (s 60 54).toNatClampNeg (f_X12_signAt fu (l 69 x2.toNatClampNeg) x3)) 97 ((wi s 96 (s 60 54).toNatClampNeg (f_X12_signAt fu (l 69 x2.toNatClampNeg) x3)) 60 54).toNatClampNeg x1) 70 x2.toNatClampNeg) + x3) - (((wi (wi s 96 (s 60 54).toNatClampNeg (f_X12_signAt fu (l 69 x2.toNatClampNeg) x3)) 97 ((wi s 96 (s 60 54).toNatClampNeg (f_X12_signAt fu (l 69 x2.toNatClampNeg) x3)) 60 54).toNatClampNeg x1) 70 x2.toNatClampNeg) + x3) / (10 : Int32) * (10 : Int32))) 95 ((32 : Int32) + ((wi (wi (wi s 96 (s 60 54).toNatClampNeg (f_X12_signAt fu (l 69 x2.toNatClampNeg) x3)) 97 ((wi s 96 (s 60 54).toNatClampNeg (f_X12_signAt fu (l 69 x2.toNatClampNeg) x3)) 60 54).toNatClampNeg x1) 95 ((wi (wi s 96 (s 60 54).toNatClampNeg (f_X12_signAt fu (l 69 x2.toNatClampNeg) x3)) 97 ((wi s 96 (s 60 54).toNatClampNeg (f_X12_signAt fu (l 69 x2.toNatClampNeg) x3)) 60 54).toNatClampNeg x1) 60 54).toNatClampNeg ((((wi (wi s 96 (s 60 54).toNatClampNeg (f_X12_signAt fu (l 69 x2.toNatClampNeg) x3)) 97 ((wi s 96 (s 60 54).toNatClampNeg (f_X12_signAt fu (l 69 x2.toNatClampNeg) x3)) 60 54).toNatClampNeg x1) 70 x2.toNatClampNeg) + x3) - (((wi (wi s 96 (s 60 54).toNatClampNeg (f_X12_signAt fu (l 69 x2.toNatClampNeg) x3)) 97 ((wi s 96 (s 60 54).toNatClampNeg (f_X12_signAt fu (l 69 x2.toNatClampNeg) x3)) 60 54).toNatClampNeg x1) 70 x2.toNatClampNeg) + x3) / (10 : Int32) * (10 : Int32))) 60 54)).toNatClampNeg ((wi (wi (wi s 96 (s 60 54).toNatClampNeg (f_X12_signAt fu (l 69 x2.toNatClampNeg) x3)) 97 ((wi s 96 (s 60 54).toNatClampNeg (f_X12_signAt fu (l 69 x2.toNatClampNeg) x3)) 60 54).toNatClampNeg x1) 95 ((wi (wi s 96 (s 60 54).toNatClampNeg (f_X12_signAt fu (l 69 x2.toNatClampNeg) x3)) 97 ((wi s 96 (s 60 54).toNatClampNeg (f_X12_signAt fu (l 69 x2.toNatClampNeg) x3)) 60 54).toNatClampNeg x1) 60 54).toNatClampNeg ((((wi (wi s 96 (s 60 54).toNatClampNeg (f_X12_signAt fu (l 69 x2.toNatClampNeg) x3)) 97 ((wi s 96 (s 60 54).toNatClampNeg (f_X12_signAt fu (l 69 x2.toNatClampNeg) x3)) 60 54).toNatClampNeg x1) 70 x2.toNatClampNeg) + x3) - (((wi (wi s 96 (s 60 54).toNatClampNeg (f_X12_signAt fu (l 69 x2.toNatClampNeg) x3)) 97 ((wi s 96 (s 60 54).toNatClampNeg (f_X12_signAt fu (l 69 x2.toNatClampNeg) x3)) 60 54).toNatClampNeg x1) 70 x2.toNatClampNeg) + x3) / (10 : Int32) * (10 : Int32))) 71 x2.toNatClampNeg)) 60 54)).toNatClampNeg (-2 : Int32)) 60 54 (((wi (wi (wi (wi (wi s 96 (s 60 54).toNatClampNeg (f_X12_signAt fu (l 69 x2.toNatClampNeg) x3)) 97 ((wi s 96 (s 60 54).toNatClampNeg (f_X12_signAt fu (l 69 x2.toNatClampNeg) x3)) 60 54).toNatClampNeg x1) 95 ((wi (wi s 96 (s 60 54).toNatClampNeg (f_X12_signAt fu (l 69 x2.toNatClampNeg) x3)) 97 ((wi s 96 (s 60 54).toNatClampNeg (f_X12_signAt fu (l 69 x2.toNatClampNeg) x3)) 60 54).toNatClampNeg x1) 60 54).toNatClampNeg ((((wi (wi s 96 (s 60 54).toNatClampNeg (f_X12_signAt fu (l 69 x2.toNatClampNeg) x3)) 97 ((wi s 96 (s 60 54).toNatClampNeg (f_X12_signAt fu (l 69 x2.toNatClampNeg) x3)) 60 54).toNatClampNeg x1) 70 x2.toNatClampNeg) + x3) - (((wi (wi s 96 (s 60 54).toNatClampNeg (f_X12_signAt fu (l 69 x2.toNatClampNeg) x3)) 97 ((wi s 96 (s 60 54).toNatClampNeg (f_X12_signAt fu (l 69 x2.toNatClampNeg) x3)) 60 54).toNatClampNeg x1) 70 x2.toNatClampNeg) + x3) / (10 : Int32) * (10 : Int32))) 95 ((32 : Int32) + ((wi (wi (wi s 96 (s 60 54).toNatClampNeg (f_X12_signAt fu (l 69 x2.toNatClampNeg) x3)) 97 ((wi s 96 (s 60 54).toNatClampNeg (f_X12_signAt fu (l 69 x2.toNatClampNeg) x3)) 60 54).toNatClampNeg x1) 95 ((wi (wi s 96 (s 60 54).toNatClampNeg (f_X12_signAt fu (l 69 x2.toNatClampNeg) x3)) 97 ((wi s 96 (s 60 54).toNatClampNeg (f_X12_signAt fu (l 69 x2.toNatClampNeg) x3)) 60 54).toNatClampNeg x1) 60 54).toNatClampNeg ((((wi (wi s 96 (s 60 54).toNatClampNeg (f_X12_signAt fu (l 69 x2.toNatClampNeg) x3)) 97 ((wi s 96 (s 60 54).toNatClampNeg (f_X12_signAt fu (l 69 x2.toNatClampNeg) x3)) 60 54).toNatClampNeg x1) 70 x2.toNatClampNeg) + x3) - (((wi (wi s 96 (s 60 54).toNatClampNeg (f_X12_signAt fu (l 69 x2.toNatClampNeg) x3)) 97 ((wi s 96 (s 60 54).toNatClampNeg (f_X12_signAt fu (l 69 x2.toNatClampNeg) x3)) 60 54).toNatClampNeg x1) 70 x2.toNatClampNeg) + x3) / (10 : Int32) * (10 : Int32))) 60 54)).toNatClampNeg ((wi (wi (wi s 96 (s 60 54).toNatClampNeg (f_X12_signAt fu (l 69 x2.toNatClampNeg) x3)) 97 ((wi s 96 (s 60 54).toNatClampNeg (f_X12_signAt fu (l 69 x2.toNatClampNeg) x3)) 60 54).toNatClampNeg x1) 95 ((wi (wi s 96 (s 60 54).toNatClampNeg (f_X12_signAt fu (l 69 x2.toNatClampNeg) x3)) 97 ((wi s 96 (s 60 54).toNatClampNeg (f_X12_signAt fu (l 69 x2.toNatClampNeg) x3)) 60 54).toNatClampNeg x1) 60 54).toNatClampNeg ((((wi (wi s 96 (s 60 54).toNatClampNeg (f_X12_signAt fu (l 69 x2.toNatClampNeg) x3)) 97 ((wi s 96 (s 60 54).toNatClampNeg (f_X12_signAt fu (l 69 x2.toNatClampNeg) x3)) 60 54).toNatClampNeg x1) 70 x2.toNatClampNeg) + x3) - (((wi (wi s 96 (s 60 54).toNatClampNeg (f_X12_signAt fu (l 69 x2.toNatClampNeg) x3)) 97 ((wi s 96 (s 60 54).toNatClampNeg (f_X12_signAt fu (l 69 x2.toNatClampNeg) x3)) 60 54).toNatClampNeg x1) 70 x2.toNatClampNeg) + x3) / (10 : Int32) * (10 : Int32))) 71 x2.toNatClampNeg)) 95 ((64 : Int32) + ((wi (wi (wi (wi s 96 (s 60 54).toNatClampNeg (f_X12_signAt fu (l 69 x2.toNatClampNeg) x3)) 97 ((wi s 96 (s 60 54).toNatClampNeg (f_X12_signAt fu (l 69 x2.toNatClampNeg) x3)) 60 54).toNatClampNeg x1) 95 ((wi (wi s 96 (s 60 54).toNatClampNeg (f_X12_signAt fu (l 69 x2.toNatClampNeg) x3)) 97 ((wi s 96 (s 60 54).toNatClampNeg (f_X12_signAt fu (l 69 x2.toNatClampNeg) x3)) 60 54).toNatClampNeg x1) 60 54).toNatClampNeg ((((wi (wi s 96 (s 60 54).toNatClampNeg (f_X12_signAt fu (l 69 x2.toNatClampNeg) x3)) 97 ((wi s 96 (s 60 54).toNatClampNeg (f_X12_signAt fu (l 69 x2.toNatClampNeg) x3)) 60 54).toNatClampNeg x1) 70 x2.toNatClampNeg) + x3) - (((wi (wi s 96 (s 60 54).toNatClampNeg (f_X12_signAt fu (l 69 x2.toNatClampNeg) x3)) 97 ((wi s 96 (s 60 54).toNatClampNeg (f_X12_signAt fu (l 69 x2.toNatClampNeg) x3)) 60 54).toNatClampNeg x1) 70 x2.toNatClampNeg) + x3) / (10 : Int32) * (10 : Int32))) 95 ((32 : Int32) + ((wi (wi (wi s 96 (s 60 54).toNatClampNeg (f_X12_signAt fu (l 69 x2.toNatClampNeg) x3)) 97 ((wi s 96 (s 60 54).toNatClampNeg (f_X12_signAt fu (l 69 x2.toNatClampNeg) x3)) 60 54).toNatClampNeg x1) 95 ((wi (wi s 96 (s 60 54).toNatClampNeg (f_X12_signAt fu (l 69 x2.toNatClampNeg) x3)) 97 ((wi s 96 (s 60 54).toNatClampNeg (f_X12_signAt fu (l 69 x2.toNatClampNeg) x3)) 60 54).toNatClampNeg x1) 60 54).toNatClampNeg ((((wi (wi s 96 (s 60 54).toNatClampNeg (f_X12_signAt fu (l 69 x2.toNatClampNeg) x3)) 97 ((wi s 96 (s 60 54).toNatClampNeg (f_X12_signAt fu (l 69 x2.toNatClampNeg) x3)) 60 54).toNatClampNeg x1) 70 x2.toNatClampNeg) + x3) - (((wi (wi s 96 (s 60 54).toNatClampNeg (f_X12_signAt fu (l 69 x2.toNatClampNeg) x3)) 97 ((wi s 96 (s 60 54).toNatClampNeg (f_X12_signAt fu (l 69 x2.toNatClampNeg) x3)) 60 54).toNatClampNeg x1) 70 x2.toNatClampNeg) + x3) / (10 : Int32) * (10 : Int32))) 60 54)).toNatClampNeg ((wi (wi (wi s 96 (s 60 54).toNatClampNeg (f_X12_signAt fu (l 69 x2.toNatClampNeg) x3)) 97 ((wi s 96 (s 60 54).toNatClampNeg (f_X12_signAt fu (l 69 x2.toNatClampNeg) x3)) 60 54).toNatClampNeg x1) 95 ((wi (wi s 96 (s 60 54).toNatClampNeg (f_X12_signAt fu (l 69 x2.toNatClampNeg) x3)) 97 ((wi s 96 (s 60 54).toNatClampNeg (f_X12_signAt fu (l 69 x2.toNatClampNeg) x3)) 60 54).toNatClampNeg x1) 60 54).toNatClampNeg ((((wi (wi s 96 (s 60 54).toNatClampNeg (f_X12_signAt fu (l 69 x2.toNatClampNeg) x3)) 97 ((wi s 96 (s 60 54).toNatClampNeg (f_X12_signAt fu (l 69 x2.toNatClampNeg) x3)) 60 54).toNatClampNeg x1) 70 x2.toNatClampNeg) + x3) - (((wi (wi s 96 (s 60 54).toNatClampNeg (f_X12_signAt fu (l 69 x2.toNatClampNeg) x3)) 97 ((wi s 96 (s 60 54).toNatClampNeg (f_X12_signAt fu (l 69 x2.toNatClampNeg) x3)) 60 54).toNatClampNeg x1) 70 x2.toNatClampNeg) + x3) / (10 : Int32) * (10 : Int32))) 71 x2.toNatClampNeg)) 60 54)).toNatClampNeg (-2 : Int32)) 60 54) + (1 : Int32))) l

def p_X12_begins_53 (fu : Nat) (P29 : Int32 → fl_I → fl_L → Prop) : Nat → Int32 → Int32 → Int32 → fl_I → fl_L → Prop
  | 0, _, _, _, _, _ => False
  | n + 1, x1, x2, x3, s, l =>
    (vp_in x2 8) ∧ (p_X12_lengthOf fu (l 69 x2.toNatClampNeg)) ∧ ((((f_X12_lengthOf fu (l 69 x2.toNatClampNeg)) ≤ x3) → P29 (x1 + 1) s l) ∧ (¬ ((f_X12_lengthOf fu (l 69 x2.toNatClampNeg)) ≤ x3) → (vp_in x2 8) ∧ (p_X12_signAt fu (l 69 x2.toNatClampNeg) x3) ∧ (vp_in (s 60 54) 32) ∧ (vp_in ((wi s 96 (s 60 54).toNatClampNeg (f_X12_signAt fu (l 69 x2.toNatClampNeg) x3)) 60 54) 32) ∧ (vp_in x2 8) ∧ (vp_in ((wi (wi s 96 (s 60 54).toNatClampNeg (f_X12_signAt fu (l 69 x2.toNatClampNeg) x3)) 97 ((wi s 96 (s 60 54).toNatClampNeg (f_X12_signAt fu (l 69 x2.toNatClampNeg) x3)) 60 54).toNatClampNeg x1) 60 54) 141) ∧ (vp_in x2 8) ∧ (vp_in ((32 : Int32) + ((wi (wi (wi s 96 (s 60 54).toNatClampNeg (f_X12_signAt fu (l 69 x2.toNatClampNeg) x3)) 97 ((wi s 96 (s 60 54).toNatClampNeg (f_X12_signAt fu (l 69 x2.toNatClampNeg) x3)) 60 54).toNatClampNeg x1) 95 ((wi (wi s 96 (s 60 54).toNatClampNeg (f_X12_signAt fu (l 69 x2.toNatClampNeg) x3)) 97 ((wi s 96 (s 60 54).toNatClampNeg (f_X12_signAt fu (l 69 x2.toNatClampNeg) x3)) 60 54).toNatClampNeg x1) 60 54).toNatClampNeg ((((wi (wi s 96 (s 60 54).toNatClampNeg (f_X12_signAt fu (l 69 x2.toNatClampNeg) x3)) 97 ((wi s 96 (s 60 54).toNatClampNeg (f_X12_signAt fu (l 69 x2.toNatClampNeg) x3)) 60 54).toNatClampNeg x1) 70 x2.toNatClampNeg) + x3) - (((wi (wi s 96 (s 60 54).toNatClampNeg (f_X12_signAt fu (l 69 x2.toNatClampNeg) x3)) 97 ((wi s 96 (s 60 54).toNatClampNeg (f_X12_signAt fu (l 69 x2.toNatClampNeg) x3)) 60 54).toNatClampNeg x1) 70 x2.toNatClampNeg) + x3) / (10 : Int32) * (10 : Int32))) 60 54)) 141) ∧ (vp_in ((64 : Int32) + ((wi (wi (wi (wi s 96 (s 60 54).toNatClampNeg (f_X12_signAt fu (l 69 x2.toNatClampNeg) x3)) 97 ((wi s 96 (s 60 54).toNatClampNeg (f_X12_signAt fu (l 69 x2.toNatClampNeg) x3)) 60 54).toNatClampNeg x1) 95 ((wi (wi s 96 (s 60 54).toNatClampNeg (f_X12_signAt fu (l 69 x2.toNatClampNeg) x3)) 97 ((wi s 96 (s 60 54).toNatClampNeg (f_X12_signAt fu (l 69 x2.toNatClampNeg) x3)) 60 54).toNatClampNeg x1) 60 54).toNatClampNeg ((((wi (wi s 96 (s 60 54).toNatClampNeg (f_X12_signAt fu (l 69 x2.toNatClampNeg) x3)) 97 ((wi s 96 (s 60 54).toNatClampNeg (f_X12_signAt fu (l 69 x2.toNatClampNeg) x3)) 60 54).toNatClampNeg x1) 70 x2.toNatClampNeg) + x3) - (((wi (wi s 96 (s 60 54).toNatClampNeg (f_X12_signAt fu (l 69 x2.toNatClampNeg) x3)) 97 ((wi s 96 (s 60 54).toNatClampNeg (f_X12_signAt fu (l 69 x2.toNatClampNeg) x3)) 60 54).toNatClampNeg x1) 70 x2.toNatClampNeg) + x3) / (10 : Int32) * (10 : Int32))) 95 ((32 : Int32) + ((wi (wi (wi s 96 (s 60 54).toNatClampNeg (f_X12_signAt fu (l 69 x2.toNatClampNeg) x3)) 97 ((wi s 96 (s 60 54).toNatClampNeg (f_X12_signAt fu (l 69 x2.toNatClampNeg) x3)) 60 54).toNatClampNeg x1) 95 ((wi (wi s 96 (s 60 54).toNatClampNeg (f_X12_signAt fu (l 69 x2.toNatClampNeg) x3)) 97 ((wi s 96 (s 60 54).toNatClampNeg (f_X12_signAt fu (l 69 x2.toNatClampNeg) x3)) 60 54).toNatClampNeg x1) 60 54).toNatClampNeg ((((wi (wi s 96 (s 60 54).toNatClampNeg (f_X12_signAt fu (l 69 x2.toNatClampNeg) x3)) 97 ((wi s 96 (s 60 54).toNatClampNeg (f_X12_signAt fu (l 69 x2.toNatClampNeg) x3)) 60 54).toNatClampNeg x1) 70 x2.toNatClampNeg) + x3) - (((wi (wi s 96 (s 60 54).toNatClampNeg (f_X12_signAt fu (l 69 x2.toNatClampNeg) x3)) 97 ((wi s 96 (s 60 54).toNatClampNeg (f_X12_signAt fu (l 69 x2.toNatClampNeg) x3)) 60 54).toNatClampNeg x1) 70 x2.toNatClampNeg) + x3) / (10 : Int32) * (10 : Int32))) 60 54)).toNatClampNeg ((wi (wi (wi s 96 (s 60 54).toNatClampNeg (f_X12_signAt fu (l 69 x2.toNatClampNeg) x3)) 97 ((wi s 96 (s 60 54).toNatClampNeg (f_X12_signAt fu (l 69 x2.toNatClampNeg) x3)) 60 54).toNatClampNeg x1) 95 ((wi (wi s 96 (s 60 54).toNatClampNeg (f_X12_signAt fu (l 69 x2.toNatClampNeg) x3)) 97 ((wi s 96 (s 60 54).toNatClampNeg (f_X12_signAt fu (l 69 x2.toNatClampNeg) x3)) 60 54).toNatClampNeg x1) 60 54).toNatClampNeg ((((wi (wi s 96 (s 60 54).toNatClampNeg (f_X12_signAt fu (l 69 x2.toNatClampNeg) x3)) 97 ((wi s 96 (s 60 54).toNatClampNeg (f_X12_signAt fu (l 69 x2.toNatClampNeg) x3)) 60 54).toNatClampNeg x1) 70 x2.toNatClampNeg) + x3) - (((wi (wi s 96 (s 60 54).toNatClampNeg (f_X12_signAt fu (l 69 x2.toNatClampNeg) x3)) 97 ((wi s 96 (s 60 54).toNatClampNeg (f_X12_signAt fu (l 69 x2.toNatClampNeg) x3)) 60 54).toNatClampNeg x1) 70 x2.toNatClampNeg) + x3) / (10 : Int32) * (10 : Int32))) 71 x2.toNatClampNeg)) 60 54)) 141) ∧ p_X12_begins_53 fu P29 n x1 x2 (x3 + 1) (wi (wi (wi (wi (wi (wi s 96 (s 60 54).toNatClampNeg (f_X12_signAt fu (l 69 x2.toNatClampNeg) x3)) 97 ((wi s 96 (s 60 54).toNatClampNeg (f_X12_signAt fu (l 69 x2.toNatClampNeg) x3)) 60 54).toNatClampNeg x1) 95 ((wi (wi s 96 (s 60 54).toNatClampNeg (f_X12_signAt fu (l 69 x2.toNatClampNeg) x3)) 97 ((wi s 96 (s 60 54).toNatClampNeg (f_X12_signAt fu (l 69 x2.toNatClampNeg) x3)) 60 54).toNatClampNeg x1) 60 54).toNatClampNeg ((((wi (wi s 96 (s 60 54).toNatClampNeg (f_X12_signAt fu (l 69 x2.toNatClampNeg) x3)) 97 ((wi s 96 (s 60 54).toNatClampNeg (f_X12_signAt fu (l 69 x2.toNatClampNeg) x3)) 60 54).toNatClampNeg x1) 70 x2.toNatClampNeg) + x3) - (((wi (wi s 96 (s 60 54).toNatClampNeg (f_X12_signAt fu (l 69 x2.toNatClampNeg) x3)) 97 ((wi s 96 (s 60 54).toNatClampNeg (f_X12_signAt fu (l 69 x2.toNatClampNeg) x3)) 60 54).toNatClampNeg x1) 70 x2.toNatClampNeg) + x3) / (10 : Int32) * (10 : Int32))) 95 ((32 : Int32) + ((wi (wi (wi s 96 (s 60 54).toNatClampNeg (f_X12_signAt fu (l 69 x2.toNatClampNeg) x3)) 97 ((wi s 96 (s 60 54).toNatClampNeg (f_X12_signAt fu (l 69 x2.toNatClampNeg) x3)) 60 54).toNatClampNeg x1) 95 ((wi (wi s 96 (s 60 54).toNatClampNeg (f_X12_signAt fu (l 69 x2.toNatClampNeg) x3)) 97 ((wi s 96 (s 60 54).toNatClampNeg (f_X12_signAt fu (l 69 x2.toNatClampNeg) x3)) 60 54).toNatClampNeg x1) 60 54).toNatClampNeg ((((wi (wi s 96 (s 60 54).toNatClampNeg (f_X12_signAt fu (l 69 x2.toNatClampNeg) x3)) 97 ((wi s 96 (s 60 54).toNatClampNeg (f_X12_signAt fu (l 69 x2.toNatClampNeg) x3)) 60 54).toNatClampNeg x1) 70 x2.toNatClampNeg) + x3) - (((wi (wi s 96 (s 60 54).toNatClampNeg (f_X12_signAt fu (l 69 x2.toNatClampNeg) x3)) 97 ((wi s 96 (s 60 54).toNatClampNeg (f_X12_signAt fu (l 69 x2.toNatClampNeg) x3)) 60 54).toNatClampNeg x1) 70 x2.toNatClampNeg) + x3) / (10 : Int32) * (10 : Int32))) 60 54)).toNatClampNeg ((wi (wi (wi s 96 (s 60 54).toNatClampNeg (f_X12_signAt fu (l 69 x2.toNatClampNeg) x3)) 97 ((wi s 96 (s 60 54).toNatClampNeg (f_X12_signAt fu (l 69 x2.toNatClampNeg) x3)) 60 54).toNatClampNeg x1) 95 ((wi (wi s 96 (s 60 54).toNatClampNeg (f_X12_signAt fu (l 69 x2.toNatClampNeg) x3)) 97 ((wi s 96 (s 60 54).toNatClampNeg (f_X12_signAt fu (l 69 x2.toNatClampNeg) x3)) 60 54).toNatClampNeg x1) 60 54).toNatClampNeg ((((wi (wi s 96 (s 60 54).toNatClampNeg (f_X12_signAt fu (l 69 x2.toNatClampNeg) x3)) 97 ((wi s 96 (s 60 54).toNatClampNeg (f_X12_signAt fu (l 69 x2.toNatClampNeg) x3)) 60 54).toNatClampNeg x1) 70 x2.toNatClampNeg) + x3) - (((wi (wi s 96 (s 60 54).toNatClampNeg (f_X12_signAt fu (l 69 x2.toNatClampNeg) x3)) 97 ((wi s 96 (s 60 54).toNatClampNeg (f_X12_signAt fu (l 69 x2.toNatClampNeg) x3)) 60 54).toNatClampNeg x1) 70 x2.toNatClampNeg) + x3) / (10 : Int32) * (10 : Int32))) 71 x2.toNatClampNeg)) 95 ((64 : Int32) + ((wi (wi (wi (wi s 96 (s 60 54).toNatClampNeg (f_X12_signAt fu (l 69 x2.toNatClampNeg) x3)) 97 ((wi s 96 (s 60 54).toNatClampNeg (f_X12_signAt fu (l 69 x2.toNatClampNeg) x3)) 60 54).toNatClampNeg x1) 95 ((wi (wi s 96 (s 60 54).toNatClampNeg (f_X12_signAt fu (l 69 x2.toNatClampNeg) x3)) 97 ((wi s 96 (s 60 54).toNatClampNeg (f_X12_signAt fu (l 69 x2.toNatClampNeg) x3)) 60 54).toNatClampNeg x1) 60 54).toNatClampNeg ((((wi (wi s 96 (s 60 54).toNatClampNeg (f_X12_signAt fu (l 69 x2.toNatClampNeg) x3)) 97 ((wi s 96 (s 60 54).toNatClampNeg (f_X12_signAt fu (l 69 x2.toNatClampNeg) x3)) 60 54).toNatClampNeg x1) 70 x2.toNatClampNeg) + x3) - (((wi (wi s 96 (s 60 54).toNatClampNeg (f_X12_signAt fu (l 69 x2.toNatClampNeg) x3)) 97 ((wi s 96 (s 60 54).toNatClampNeg (f_X12_signAt fu (l 69 x2.toNatClampNeg) x3)) 60 54).toNatClampNeg x1) 70 x2.toNatClampNeg) + x3) / (10 : Int32) * (10 : Int32))) 95 ((32 : Int32) + ((wi (wi (wi s 96 (s 60 54).toNatClampNeg (f_X12_signAt fu (l 69 x2.toNatClampNeg) x3)) 97 ((wi s 96 (s 60 54).toNatClampNeg (f_X12_signAt fu (l 69 x2.toNatClampNeg) x3)) 60 54).toNatClampNeg x1) 95 ((wi (wi s 96 (s 60 54).toNatClampNeg (f_X12_signAt fu (l 69 x2.toNatClampNeg) x3)) 97 ((wi s 96 (s 60 54).toNatClampNeg (f_X12_signAt fu (l 69 x2.toNatClampNeg) x3)) 60 54).toNatClampNeg x1) 60 54).toNatClampNeg ((((wi (wi s 96 (s 60 54).toNatClampNeg (f_X12_signAt fu (l 69 x2.toNatClampNeg) x3)) 97 ((wi s 96 (s 60 54).toNatClampNeg (f_X12_signAt fu (l 69 x2.toNatClampNeg) x3)) 60 54).toNatClampNeg x1) 70 x2.toNatClampNeg) + x3) - (((wi (wi s 96 (s 60 54).toNatClampNeg (f_X12_signAt fu (l 69 x2.toNatClampNeg) x3)) 97 ((wi s 96 (s 60 54).toNatClampNeg (f_X12_signAt fu (l 69 x2.toNatClampNeg) x3)) 60 54).toNatClampNeg x1) 70 x2.toNatClampNeg) + x3) / (10 : Int32) * (10 : Int32))) 60 54)).toNatClampNeg ((wi (wi (wi s 96 (s 60 54).toNatClampNeg (f_X12_signAt fu (l 69 x2.toNatClampNeg) x3)) 97 ((wi s 96 (s 60 54).toNatClampNeg (f_X12_signAt fu (l 69 x2.toNatClampNeg) x3)) 60 54).toNatClampNeg x1) 95 ((wi (wi s 96 (s 60 54).toNatClampNeg (f_X12_signAt fu (l 69 x2.toNatClampNeg) x3)) 97 ((wi s 96 (s 60 54).toNatClampNeg (f_X12_signAt fu (l 69 x2.toNatClampNeg) x3)) 60 54).toNatClampNeg x1) 60 54).toNatClampNeg ((((wi (wi s 96 (s 60 54).toNatClampNeg (f_X12_signAt fu (l 69 x2.toNatClampNeg) x3)) 97 ((wi s 96 (s 60 54).toNatClampNeg (f_X12_signAt fu (l 69 x2.toNatClampNeg) x3)) 60 54).toNatClampNeg x1) 70 x2.toNatClampNeg) + x3) - (((wi (wi s 96 (s 60 54).toNatClampNeg (f_X12_signAt fu (l 69 x2.toNatClampNeg) x3)) 97 ((wi s 96 (s 60 54).toNatClampNeg (f_X12_signAt fu (l 69 x2.toNatClampNeg) x3)) 60 54).toNatClampNeg x1) 70 x2.toNatClampNeg) + x3) / (10 : Int32) * (10 : Int32))) 71 x2.toNatClampNeg)) 60 54)).toNatClampNeg (-2 : Int32)) 60 54 (((wi (wi (wi (wi (wi s 96 (s 60 54).toNatClampNeg (f_X12_signAt fu (l 69 x2.toNatClampNeg) x3)) 97 ((wi s 96 (s 60 54).toNatClampNeg (f_X12_signAt fu (l 69 x2.toNatClampNeg) x3)) 60 54).toNatClampNeg x1) 95 ((wi (wi s 96 (s 60 54).toNatClampNeg (f_X12_signAt fu (l 69 x2.toNatClampNeg) x3)) 97 ((wi s 96 (s 60 54).toNatClampNeg (f_X12_signAt fu (l 69 x2.toNatClampNeg) x3)) 60 54).toNatClampNeg x1) 60 54).toNatClampNeg ((((wi (wi s 96 (s 60 54).toNatClampNeg (f_X12_signAt fu (l 69 x2.toNatClampNeg) x3)) 97 ((wi s 96 (s 60 54).toNatClampNeg (f_X12_signAt fu (l 69 x2.toNatClampNeg) x3)) 60 54).toNatClampNeg x1) 70 x2.toNatClampNeg) + x3) - (((wi (wi s 96 (s 60 54).toNatClampNeg (f_X12_signAt fu (l 69 x2.toNatClampNeg) x3)) 97 ((wi s 96 (s 60 54).toNatClampNeg (f_X12_signAt fu (l 69 x2.toNatClampNeg) x3)) 60 54).toNatClampNeg x1) 70 x2.toNatClampNeg) + x3) / (10 : Int32) * (10 : Int32))) 95 ((32 : Int32) + ((wi (wi (wi s 96 (s 60 54).toNatClampNeg (f_X12_signAt fu (l 69 x2.toNatClampNeg) x3)) 97 ((wi s 96 (s 60 54).toNatClampNeg (f_X12_signAt fu (l 69 x2.toNatClampNeg) x3)) 60 54).toNatClampNeg x1) 95 ((wi (wi s 96 (s 60 54).toNatClampNeg (f_X12_signAt fu (l 69 x2.toNatClampNeg) x3)) 97 ((wi s 96 (s 60 54).toNatClampNeg (f_X12_signAt fu (l 69 x2.toNatClampNeg) x3)) 60 54).toNatClampNeg x1) 60 54).toNatClampNeg ((((wi (wi s 96 (s 60 54).toNatClampNeg (f_X12_signAt fu (l 69 x2.toNatClampNeg) x3)) 97 ((wi s 96 (s 60 54).toNatClampNeg (f_X12_signAt fu (l 69 x2.toNatClampNeg) x3)) 60 54).toNatClampNeg x1) 70 x2.toNatClampNeg) + x3) - (((wi (wi s 96 (s 60 54).toNatClampNeg (f_X12_signAt fu (l 69 x2.toNatClampNeg) x3)) 97 ((wi s 96 (s 60 54).toNatClampNeg (f_X12_signAt fu (l 69 x2.toNatClampNeg) x3)) 60 54).toNatClampNeg x1) 70 x2.toNatClampNeg) + x3) / (10 : Int32) * (10 : Int32))) 60 54)).toNatClampNeg ((wi (wi (wi s 96 (s 60 54).toNatClampNeg (f_X12_signAt fu (l 69 x2.toNatClampNeg) x3)) 97 ((wi s 96 (s 60 54).toNatClampNeg (f_X12_signAt fu (l 69 x2.toNatClampNeg) x3)) 60 54).toNatClampNeg x1) 95 ((wi (wi s 96 (s 60 54).toNatClampNeg (f_X12_signAt fu (l 69 x2.toNatClampNeg) x3)) 97 ((wi s 96 (s 60 54).toNatClampNeg (f_X12_signAt fu (l 69 x2.toNatClampNeg) x3)) 60 54).toNatClampNeg x1) 60 54).toNatClampNeg ((((wi (wi s 96 (s 60 54).toNatClampNeg (f_X12_signAt fu (l 69 x2.toNatClampNeg) x3)) 97 ((wi s 96 (s 60 54).toNatClampNeg (f_X12_signAt fu (l 69 x2.toNatClampNeg) x3)) 60 54).toNatClampNeg x1) 70 x2.toNatClampNeg) + x3) - (((wi (wi s 96 (s 60 54).toNatClampNeg (f_X12_signAt fu (l 69 x2.toNatClampNeg) x3)) 97 ((wi s 96 (s 60 54).toNatClampNeg (f_X12_signAt fu (l 69 x2.toNatClampNeg) x3)) 60 54).toNatClampNeg x1) 70 x2.toNatClampNeg) + x3) / (10 : Int32) * (10 : Int32))) 71 x2.toNatClampNeg)) 95 ((64 : Int32) + ((wi (wi (wi (wi s 96 (s 60 54).toNatClampNeg (f_X12_signAt fu (l 69 x2.toNatClampNeg) x3)) 97 ((wi s 96 (s 60 54).toNatClampNeg (f_X12_signAt fu (l 69 x2.toNatClampNeg) x3)) 60 54).toNatClampNeg x1) 95 ((wi (wi s 96 (s 60 54).toNatClampNeg (f_X12_signAt fu (l 69 x2.toNatClampNeg) x3)) 97 ((wi s 96 (s 60 54).toNatClampNeg (f_X12_signAt fu (l 69 x2.toNatClampNeg) x3)) 60 54).toNatClampNeg x1) 60 54).toNatClampNeg ((((wi (wi s 96 (s 60 54).toNatClampNeg (f_X12_signAt fu (l 69 x2.toNatClampNeg) x3)) 97 ((wi s 96 (s 60 54).toNatClampNeg (f_X12_signAt fu (l 69 x2.toNatClampNeg) x3)) 60 54).toNatClampNeg x1) 70 x2.toNatClampNeg) + x3) - (((wi (wi s 96 (s 60 54).toNatClampNeg (f_X12_signAt fu (l 69 x2.toNatClampNeg) x3)) 97 ((wi s 96 (s 60 54).toNatClampNeg (f_X12_signAt fu (l 69 x2.toNatClampNeg) x3)) 60 54).toNatClampNeg x1) 70 x2.toNatClampNeg) + x3) / (10 : Int32) * (10 : Int32))) 95 ((32 : Int32) + ((wi (wi (wi s 96 (s 60 54).toNatClampNeg (f_X12_signAt fu (l 69 x2.toNatClampNeg) x3)) 97 ((wi s 96 (s 60 54).toNatClampNeg (f_X12_signAt fu (l 69 x2.toNatClampNeg) x3)) 60 54).toNatClampNeg x1) 95 ((wi (wi s 96 (s 60 54).toNatClampNeg (f_X12_signAt fu (l 69 x2.toNatClampNeg) x3)) 97 ((wi s 96 (s 60 54).toNatClampNeg (f_X12_signAt fu (l 69 x2.toNatClampNeg) x3)) 60 54).toNatClampNeg x1) 60 54).toNatClampNeg ((((wi (wi s 96 (s 60 54).toNatClampNeg (f_X12_signAt fu (l 69 x2.toNatClampNeg) x3)) 97 ((wi s 96 (s 60 54).toNatClampNeg (f_X12_signAt fu (l 69 x2.toNatClampNeg) x3)) 60 54).toNatClampNeg x1) 70 x2.toNatClampNeg) + x3) - (((wi (wi s 96 (s 60 54).toNatClampNeg (f_X12_signAt fu (l 69 x2.toNatClampNeg) x3)) 97 ((wi s 96 (s 60 54).toNatClampNeg (f_X12_signAt fu (l 69 x2.toNatClampNeg) x3)) 60 54).toNatClampNeg x1) 70 x2.toNatClampNeg) + x3) / (10 : Int32) * (10 : Int32))) 60 54)).toNatClampNeg ((wi (wi (wi s 96 (s 60 54).toNatClampNeg (f_X12_signAt fu (l 69 x2.toNatClampNeg) x3)) 97 ((wi s 96 (s 60 54).toNatClampNeg (f_X12_signAt fu (l 69 x2.toNatClampNeg) x3)) 60 54).toNatClampNeg x1) 95 ((wi (wi s 96 (s 60 54).toNatClampNeg (f_X12_signAt fu (l 69 x2.toNatClampNeg) x3)) 97 ((wi s 96 (s 60 54).toNatClampNeg (f_X12_signAt fu (l 69 x2.toNatClampNeg) x3)) 60 54).toNatClampNeg x1) 60 54).toNatClampNeg ((((wi (wi s 96 (s 60 54).toNatClampNeg (f_X12_signAt fu (l 69 x2.toNatClampNeg) x3)) 97 ((wi s 96 (s 60 54).toNatClampNeg (f_X12_signAt fu (l 69 x2.toNatClampNeg) x3)) 60 54).toNatClampNeg x1) 70 x2.toNatClampNeg) + x3) - (((wi (wi s 96 (s 60 54).toNatClampNeg (f_X12_signAt fu (l 69 x2.toNatClampNeg) x3)) 97 ((wi s 96 (s 60 54).toNatClampNeg (f_X12_signAt fu (l 69 x2.toNatClampNeg) x3)) 60 54).toNatClampNeg x1) 70 x2.toNatClampNeg) + x3) / (10 : Int32) * (10 : Int32))) 71 x2.toNatClampNeg)) 60 54)).toNatClampNeg (-2 : Int32)) 60 54) + (1 : Int32))) l))

set_option maxRecDepth 100000 in
set_option maxHeartbeats 1000000 in
theorem lp_X12_begins_53 {G : ab_G} {fu : Nat} {d : Nat} {D : fl_D} (K29 : Int32 → fl_I → fl_L → fl_I × fl_L) (P29 : Int32 → fl_I → fl_L → Prop) (hK29 : ∀ (x1 : Int32) (s : fl_I) (l : fl_L), P29 x1 s l → ab_C G (d + 2) 0 0 M_X12_begins 29 [some (.ref 60), some (.int x1), none, none] [] (hp D s l) (rt none (hp D (K29 x1 s l).1 (K29 x1 s l).2))) : ∀ (n : Nat) (x1 : Int32) (x2 : Int32) (x3 : Int32) (s : fl_I) (l : fl_L), p_X12_begins_53 fu P29 n x1 x2 x3 s l → ab_C G (d + 2) 0 0 M_X12_begins 53 [some (.ref 60), some (.int x1), some (.int x2), some (.int x3)] [] (hp D s l) (rt none (hp D (f_X12_begins_53 fu K29 n x1 x2 x3 s l).1 (f_X12_begins_53 fu K29 n x1 x2 x3 s l).2)) := by
  intro n
  induction n with
  | zero => intro x1 x2 x3 s l hk; exact hk.elim
  | succ n ih =>
    intro x1 x2 x3 s l hk
    generalize he : f_X12_begins_53 fu K29 (n + 1) x1 x2 x3 s l = res
    unfold f_X12_begins_53 at he
    unfold p_X12_begins_53 at hk
    refine r_iload_n rfl rfl ?_
    refine r_aload_n rfl rfl ?_
    refine q_getfield rfl (cc_60 _) rfl ?_
    refine r_iload_n rfl rfl ?_
    obtain ⟨hb8, hk⟩ := hk
    refine q_lald rfl (cc_69 _) hb8 ?_
    obtain ⟨hb9, hk⟩ := hk
    refine r_callS0 [_] _ rfl kY_X12_lengthOf kT_X12_lengthOf rfl rfl (Nat.le_of_ble_eq_true rfl) (Nat.le_of_ble_eq_true rfl) (s_X12_lengthOf hb9) (fun r h q => ?_)
    obtain ⟨rfl, rfl⟩ := q
    simp only [Option.toList, List.cons_append, List.nil_append]
    refine r_icmp_ge rfl (fun c_63 => ?_) (fun c_63 => ?_)
    · rw [if_pos c_63] at he
      replace hk := hk.1 c_63
      refine r_iinc (b := x1 + 1) rfl rfl rfl (Nat.le_of_ble_eq_true rfl) rfl ?_
      refine r_goto rfl ?_
      subst he
      exact r_weak (L1 := [some (.ref 60), some (.int (x1 + 1)), none, none]) ⟨rfl, rfl, trivial⟩ (hK29 _ _ _ hk)
    · rw [if_neg c_63] at he
      replace hk := hk.2 c_63
      refine r_aload_n rfl rfl ?_
      refine q_getfield rfl (cc_60 _) rfl ?_
      refine r_aload_n rfl rfl ?_
      refine q_getfield rfl (cc_60 _) rfl ?_
      refine r_aload_n rfl rfl ?_
      refine q_getfield rfl (cc_60 _) rfl ?_
      refine r_iload_n rfl rfl ?_
      obtain ⟨hb10, hk⟩ := hk
      refine q_lald rfl (cc_69 _) hb10 ?_
      refine r_iload_n rfl rfl ?_
      obtain ⟨hb11, hk⟩ := hk
      refine r_callS0 [_, _] _ rfl kY_X12_signAt kT_X12_signAt rfl rfl (Nat.le_of_ble_eq_true rfl) (Nat.le_of_ble_eq_true rfl) (s_X12_signAt hb11) (fun r h q => ?_)
      obtain ⟨rfl, rfl⟩ := q
      simp only [Option.toList, List.cons_append, List.nil_append]
      obtain ⟨hb12, hk⟩ := hk
      refine w_iast rfl (cc_96 _) hb12 ?_
      refine r_aload_n rfl rfl ?_
      refine q_getfield rfl (cc_60 _) rfl ?_
      refine r_aload_n rfl rfl ?_
      refine q_getfield rfl (cc_60 _) rfl ?_
      refine r_iload_n rfl rfl ?_
      obtain ⟨hb13, hk⟩ := hk
      refine w_iast rfl (cc_97 _) hb13 ?_
      refine r_aload_n rfl rfl ?_
      refine q_getfield rfl (cc_60 _) rfl ?_
      refine r_aload_n rfl rfl ?_
      refine q_getfield rfl (cc_60 _) rfl ?_
      refine r_aload_n rfl rfl ?_
      refine q_getfield rfl (cc_60 _) rfl ?_
      refine r_iload_n rfl rfl ?_
      obtain ⟨hb14, hk⟩ := hk
      refine q_iald rfl (cc_70 _) hb14 ?_
      refine r_iload_n rfl rfl ?_
      refine r_iadd rfl ?_
      refine r_bipush_ (a := 10) rfl (by decide) ?_
      refine r_irem rfl (by decide) ?_
      obtain ⟨hb15, hk⟩ := hk
      refine w_iast rfl (cc_95 _) hb15 ?_
      refine r_aload_n rfl rfl ?_
      refine q_getfield rfl (cc_60 _) rfl ?_
      refine r_bipush_ (a := 32) rfl (by decide) ?_
      refine r_aload_n rfl rfl ?_
      refine q_getfield rfl (cc_60 _) rfl ?_
      refine r_iadd rfl ?_
      refine r_aload_n rfl rfl ?_
      refine q_getfield rfl (cc_60 _) rfl ?_
      refine r_iload_n rfl rfl ?_
      obtain ⟨hb16, hk⟩ := hk
      refine q_iald rfl (cc_71 _) hb16 ?_
      obtain ⟨hb17, hk⟩ := hk
      refine w_iast rfl (cc_95 _) hb17 ?_
      refine r_aload_n rfl rfl ?_
      refine q_getfield rfl (cc_60 _) rfl ?_
      refine r_bipush_ (a := 64) rfl (by decide) ?_
      refine r_aload_n rfl rfl ?_
      refine q_getfield rfl (cc_60 _) rfl ?_
      refine r_iadd rfl ?_
      refine r_bipush_ (a := -2) rfl (by decide) ?_
      obtain ⟨hb18, hk⟩ := hk
      refine w_iast rfl (cc_95 _) hb18 ?_
      refine r_aload_n rfl rfl ?_
      refine r_dup rfl rfl ?_
      refine q_getfield rfl (cc_60 _) rfl ?_
      refine r_iconst_ (a := 1) rfl (by decide) ?_
      refine r_iadd rfl ?_
      refine w_put rfl (cc_60 _) ff_12_54 ft_12_54 (fun _ _ => (Nat.le_of_ble_eq_true rfl)) (fun _ _ => rfl) ?_
      refine r_iinc (b := x3 + 1) rfl rfl rfl (Nat.le_of_ble_eq_true rfl) rfl ?_
      refine r_goto rfl ?_
      subst he
      exact r_weak (L1 := [some (.ref 60), some (.int x1), some (.int x2), some (.int (x3 + 1))]) ⟨rfl, rfl, rfl, rfl, trivial⟩ (ih _ _ _ _ _ hk)

def f_X12_begins_29 (fu : Nat) : Nat → Int32 → fl_I → fl_L → fl_I × fl_L
  | 0, x1, s, l => (s, l)
  | n + 1, x1, s, l =>
    if ((s 68 (s 60 18).toNatClampNeg) ≤ x1) then f_X12_begins_171 fu fu (0 : Int32) s l else f_X12_begins_53 fu (fun x1 s l => f_X12_begins_29 fu n x1 s l) fu x1 (((4 : Int32) * (s 60 18)) + x1) (0 : Int32) s l

def p_X12_begins_29 (fu : Nat) : Nat → Int32 → fl_I → fl_L → Prop
  | 0, _, _, _ => False
  | n + 1, x1, s, l =>
    (vp_in (s 60 18) 2) ∧ ((((s 68 (s 60 18).toNatClampNeg) ≤ x1) → p_X12_begins_171 fu fu (0 : Int32) s l) ∧ (¬ ((s 68 (s 60 18).toNatClampNeg) ≤ x1) → p_X12_begins_53 fu (fun x1 s l => p_X12_begins_29 fu n x1 s l) fu x1 (((4 : Int32) * (s 60 18)) + x1) (0 : Int32) s l))

set_option maxRecDepth 100000 in
set_option maxHeartbeats 1000000 in
theorem lp_X12_begins_29 {G : ab_G} {fu : Nat} {d : Nat} {D : fl_D} : ∀ (n : Nat) (x1 : Int32) (s : fl_I) (l : fl_L), p_X12_begins_29 fu n x1 s l → ab_C G (d + 2) 0 0 M_X12_begins 29 [some (.ref 60), some (.int x1), none, none] [] (hp D s l) (rt none (hp D (f_X12_begins_29 fu n x1 s l).1 (f_X12_begins_29 fu n x1 s l).2)) := by
  intro n
  induction n with
  | zero => intro x1 s l hk; exact hk.elim
  | succ n ih =>
    intro x1 s l hk
    generalize he : f_X12_begins_29 fu (n + 1) x1 s l = res
    unfold f_X12_begins_29 at he
    unfold p_X12_begins_29 at hk
    refine r_iload_n rfl rfl ?_
    refine r_aload_n rfl rfl ?_
    refine q_getfield rfl (cc_60 _) rfl ?_
    refine r_aload_n rfl rfl ?_
    refine q_getfield rfl (cc_60 _) rfl ?_
    obtain ⟨hb0, hk⟩ := hk
    refine q_iald rfl (cc_68 _) hb0 ?_
    refine r_icmp_ge rfl (fun c_39 => ?_) (fun c_39 => ?_)
    · rw [if_pos c_39] at he
      replace hk := hk.1 c_39
      refine r_iconst_ (a := 0) rfl (by decide) ?_
      refine r_istore_n rfl (Nat.le_of_ble_eq_true rfl) rfl ?_
      subst he
      exact r_weak (L1 := [some (.ref 60), some (.int (0 : Int32)), none, none]) ⟨rfl, rfl, trivial⟩ (lp_X12_begins_171 fu _ _ _ hk)
    · rw [if_neg c_39] at he
      replace hk := hk.2 c_39
      refine r_iconst_ (a := 4) rfl (by decide) ?_
      refine r_aload_n rfl rfl ?_
      refine q_getfield rfl (cc_60 _) rfl ?_
      refine r_imul rfl ?_
      refine r_iload_n rfl rfl ?_
      refine r_iadd rfl ?_
      refine r_istore_n rfl (Nat.le_of_ble_eq_true rfl) rfl ?_
      refine r_iconst_ (a := 0) rfl (by decide) ?_
      refine r_istore_n rfl (Nat.le_of_ble_eq_true rfl) rfl ?_
      subst he
      exact r_weak (L1 := [some (.ref 60), some (.int x1), some (.int (((4 : Int32) * (s 60 18)) + x1)), some (.int (0 : Int32))]) ⟨rfl, rfl, rfl, rfl, trivial⟩ (lp_X12_begins_53 _ _ (fun _ _ _ h9 => ih _ _ _ h9) fu _ _ _ _ _ hk)

def f_X12_begins_2 (fu : Nat) : Nat → Int32 → fl_I → fl_L → fl_I × fl_L
  | 0, x1, s, l => (s, l)
  | n + 1, x1, s, l =>
    if ((141 : Int32) ≤ x1) then f_X12_begins_29 fu fu (0 : Int32) (wi s 60 54 (0 : Int32)) l else f_X12_begins_2 fu n (x1 + 1) (wi s 95 x1.toNatClampNeg (0 : Int32)) l

def p_X12_begins_2 (fu : Nat) : Nat → Int32 → fl_I → fl_L → Prop
  | 0, _, _, _ => False
  | n + 1, x1, s, l =>
    ((((141 : Int32) ≤ x1) → p_X12_begins_29 fu fu (0 : Int32) (wi s 60 54 (0 : Int32)) l) ∧ (¬ ((141 : Int32) ≤ x1) → (vp_in x1 141) ∧ p_X12_begins_2 fu n (x1 + 1) (wi s 95 x1.toNatClampNeg (0 : Int32)) l))

set_option maxRecDepth 100000 in
set_option maxHeartbeats 1000000 in
theorem lp_X12_begins_2 {G : ab_G} {fu : Nat} {d : Nat} {D : fl_D} : ∀ (n : Nat) (x1 : Int32) (s : fl_I) (l : fl_L), p_X12_begins_2 fu n x1 s l → ab_C G (d + 2) 0 0 M_X12_begins 2 [some (.ref 60), some (.int x1), none, none] [] (hp D s l) (rt none (hp D (f_X12_begins_2 fu n x1 s l).1 (f_X12_begins_2 fu n x1 s l).2)) := by
  intro n
  induction n with
  | zero => intro x1 s l hk; exact hk.elim
  | succ n ih =>
    intro x1 s l hk
    generalize he : f_X12_begins_2 fu (n + 1) x1 s l = res
    unfold f_X12_begins_2 at he
    unfold p_X12_begins_2 at hk
    refine r_iload_n rfl rfl ?_
    refine r_sipush_ (a := 141) rfl (by decide) ?_
    refine r_icmp_ge rfl (fun c_6 => ?_) (fun c_6 => ?_)
    · rw [if_pos c_6] at he
      replace hk := hk.1 c_6
      refine r_aload_n rfl rfl ?_
      refine r_iconst_ (a := 0) rfl (by decide) ?_
      refine w_put rfl (cc_60 _) ff_12_54 ft_12_54 (fun _ _ => (Nat.le_of_ble_eq_true rfl)) (fun _ _ => rfl) ?_
      refine r_iconst_ (a := 0) rfl (by decide) ?_
      refine r_istore_n rfl (Nat.le_of_ble_eq_true rfl) rfl ?_
      subst he
      exact r_weak (L1 := [some (.ref 60), some (.int (0 : Int32)), none, none]) ⟨rfl, rfl, trivial⟩ (lp_X12_begins_29 fu _ _ _ hk)
    · rw [if_neg c_6] at he
      replace hk := hk.2 c_6
      refine r_aload_n rfl rfl ?_
      refine q_getfield rfl (cc_60 _) rfl ?_
      refine r_iload_n rfl rfl ?_
      refine r_iconst_ (a := 0) rfl (by decide) ?_
      obtain ⟨hb19, hk⟩ := hk
      refine w_iast rfl (cc_95 _) hb19 ?_
      refine r_iinc (b := x1 + 1) rfl rfl rfl (Nat.le_of_ble_eq_true rfl) rfl ?_
      refine r_goto rfl ?_
      subst he
      exact r_weak (L1 := [some (.ref 60), some (.int (x1 + 1)), none, none]) ⟨rfl, rfl, trivial⟩ (ih _ _ _ hk)

def f_X12_begins (fu : Nat) (s : fl_I) (l : fl_L) : fl_I × fl_L :=
  f_X12_begins_2 fu fu (0 : Int32) s l

def p_X12_begins (fu : Nat) (s : fl_I) (l : fl_L) : Prop :=
  p_X12_begins_2 fu fu (0 : Int32) s l

set_option maxRecDepth 100000 in
set_option maxHeartbeats 1000000 in
theorem s_X12_begins {G : ab_G} {fu : Nat} {d : Nat} {D : fl_D} {s : fl_I} {l : fl_L}  (hk : p_X12_begins fu s l) : ab_C G (d + 2) 0 0 M_X12_begins 0 (ab_ent [.ref 60]) [] (hp D s l) (rt none (hp D (f_X12_begins fu s l).1 (f_X12_begins fu s l).2)) := by
  generalize he : (f_X12_begins fu s l) = res
  unfold f_X12_begins at he
  unfold p_X12_begins at hk
  refine r_weak (L1 := [some (.ref 60), none, none, none]) ⟨rfl, trivial⟩ ?_
  refine r_iconst_ (a := 0) rfl (by decide) ?_
  refine r_istore_n rfl (Nat.le_of_ble_eq_true rfl) rfl ?_
  subst he
  exact r_weak (L1 := [some (.ref 60), some (.int (0 : Int32)), none, none]) ⟨rfl, rfl, trivial⟩ (lp_X12_begins_2 fu _ _ _ hk)

