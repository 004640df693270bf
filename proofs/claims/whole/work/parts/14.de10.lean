def f_X12_fillsRest_37 (fu : Nat) (K2 : Int32 → fl_I → fl_L → fl_I × fl_L) (K14 : Int32 → Int32 → fl_I → fl_L → fl_I × fl_L) : Nat → Int32 → Int32 → Int32 → Int32 → fl_I → fl_L → fl_I × fl_L
  | 0, x1, x2, x3, x4, s, l => (s, l)
  | n + 1, x1, x2, x3, x4, s, l =>
    if ((s 60 60) ≤ x4) then K14 x1 (x2 + 1) (wi s 101 (((10 : Int32) * x1) + x2).toNatClampNeg x3) l else if (((x1 >>> (x4 &&& 31)) &&& (1 : Int32)) = 0) then f_X12_fillsRest_37 fu K2 K14 n x1 x2 x3 (x4 + 1) s l else if (x3 ≤ ((f_X12_stepsOff fu (s 100 x2.toNatClampNeg) (s 100 x4.toNatClampNeg)) + (s 101 (((10 : Int32) * (x1 &&& (((1 : Int32) <<< (x4 &&& 31)) ^^^ (-1 : Int32)))) + x4).toNatClampNeg))) then f_X12_fillsRest_37 fu K2 K14 n x1 x2 x3 (x4 + 1) s l else f_X12_fillsRest_37 fu K2 K14 n x1 x2 ((f_X12_stepsOff fu (s 100 x2.toNatClampNeg) (s 100 x4.toNatClampNeg)) + (s 101 (((10 : Int32) * (x1 &&& (((1 : Int32) <<< (x4 &&& 31)) ^^^ (-1 : Int32)))) + x4).toNatClampNeg)) (x4 + 1) s l

def p_X12_fillsRest_37 (fu : Nat) (P2 : Int32 → fl_I → fl_L → Prop) (P14 : Int32 → Int32 → fl_I → fl_L → Prop) : Nat → Int32 → Int32 → Int32 → Int32 → fl_I → fl_L → Prop
  | 0, _, _, _, _, _, _ => False
  | n + 1, x1, x2, x3, x4, s, l =>
    ((((s 60 60) ≤ x4) → (vp_in (((10 : Int32) * x1) + x2) 10240) ∧ P14 x1 (x2 + 1) (wi s 101 (((10 : Int32) * x1) + x2).toNatClampNeg x3) l) ∧ (¬ ((s 60 60) ≤ x4) → (((((x1 >>> (x4 &&& 31)) &&& (1 : Int32)) = 0) → p_X12_fillsRest_37 fu P2 P14 n x1 x2 x3 (x4 + 1) s l) ∧ (¬ (((x1 >>> (x4 &&& 31)) &&& (1 : Int32)) = 0) → (vp_in x2 80) ∧ (vp_in x4 80) ∧ (p_X12_stepsOff fu (s 100 x2.toNatClampNeg) (s 100 x4.toNatClampNeg)) ∧ (vp_in (((10 : Int32) * (x1 &&& (((1 : Int32) <<< (x4 &&& 31)) ^^^ (-1 : Int32)))) + x4) 10240) ∧ (((x3 ≤ ((f_X12_stepsOff fu (s 100 x2.toNatClampNeg) (s 100 x4.toNatClampNeg)) + (s 101 (((10 : Int32) * (x1 &&& (((1 : Int32) <<< (x4 &&& 31)) ^^^ (-1 : Int32)))) + x4).toNatClampNeg))) → p_X12_fillsRest_37 fu P2 P14 n x1 x2 x3 (x4 + 1) s l) ∧ (¬ (x3 ≤ ((f_X12_stepsOff fu (s 100 x2.toNatClampNeg) (s 100 x4.toNatClampNeg)) + (s 101 (((10 : Int32) * (x1 &&& (((1 : Int32) <<< (x4 &&& 31)) ^^^ (-1 : Int32)))) + x4).toNatClampNeg))) → p_X12_fillsRest_37 fu P2 P14 n x1 x2 ((f_X12_stepsOff fu (s 100 x2.toNatClampNeg) (s 100 x4.toNatClampNeg)) + (s 101 (((10 : Int32) * (x1 &&& (((1 : Int32) <<< (x4 &&& 31)) ^^^ (-1 : Int32)))) + x4).toNatClampNeg)) (x4 + 1) s l))))))

set_option maxRecDepth 100000 in
set_option maxHeartbeats 1000000 in
theorem lp_X12_fillsRest_37 {G : ab_G} {fu : Nat} {d : Nat} {D : fl_D} (K2 : Int32 → fl_I → fl_L → fl_I × fl_L) (P2 : Int32 → fl_I → fl_L → Prop) (hK2 : ∀ (x1 : Int32) (s : fl_I) (l : fl_L), P2 x1 s l → ab_C G (d + 2) 0 0 M_X12_fillsRest 2 [some (.ref 60), some (.int x1), none, none, none, none] [] (hp D s l) (rt none (hp D (K2 x1 s l).1 (K2 x1 s l).2))) (K14 : Int32 → Int32 → fl_I → fl_L → fl_I × fl_L) (P14 : Int32 → Int32 → fl_I → fl_L → Prop) (hK14 : ∀ (x1 : Int32) (x2 : Int32) (s : fl_I) (l : fl_L), P14 x1 x2 s l → ab_C G (d + 2) 0 0 M_X12_fillsRest 14 [some (.ref 60), some (.int x1), some (.int x2), none, none, none] [] (hp D s l) (rt none (hp D (K14 x1 x2 s l).1 (K14 x1 x2 s l).2))) : ∀ (n : Nat) (x1 : Int32) (x2 : Int32) (x3 : Int32) (x4 : Int32) (s : fl_I) (l : fl_L), p_X12_fillsRest_37 fu P2 P14 n x1 x2 x3 x4 s l → ab_C G (d + 2) 0 0 M_X12_fillsRest 37 [some (.ref 60), some (.int x1), some (.int x2), some (.int x3), some (.int x4), none] [] (hp D s l) (rt none (hp D (f_X12_fillsRest_37 fu K2 K14 n x1 x2 x3 x4 s l).1 (f_X12_fillsRest_37 fu K2 K14 n x1 x2 x3 x4 s l).2)) := by
  intro n
  induction n with
  | zero => intro x1 x2 x3 x4 s l hk; exact hk.elim
  | succ n ih =>
    intro x1 x2 x3 x4 s l hk
    generalize he : f_X12_fillsRest_37 fu K2 K14 (n + 1) x1 x2 x3 x4 s l = res
    unfold f_X12_fillsRest_37 at he
    unfold p_X12_fillsRest_37 at hk
    refine r_iload rfl rfl ?_
    refine r_aload_n rfl rfl ?_
    refine q_getfield rfl (cc_60 _) rfl ?_
    refine r_icmp_ge rfl (fun c_43 => ?_) (fun c_43 => ?_)
    · rw [if_pos c_43] at he
      replace hk := hk.1 c_43
      refine r_aload_n rfl rfl ?_
      refine q_getfield rfl (cc_60 _) rfl ?_
      refine r_bipush_ (a := 10) rfl (by decide) ?_
      refine r_iload_n rfl rfl ?_
      refine r_imul rfl ?_
      refine r_iload_n rfl rfl ?_
      refine r_iadd rfl ?_
      refine r_iload_n rfl rfl ?_
      obtain ⟨hb0, hk⟩ := hk
      refine w_iast rfl (cc_101 _) hb0 ?_
      refine r_iinc (b := x2 + 1) rfl rfl rfl (Nat.le_of_ble_eq_true rfl) rfl ?_
      refine r_goto rfl ?_
      subst he
      exact r_weak (L1 := [some (.ref 60), some (.int x1), some (.int (x2 + 1)), none, none, none]) ⟨rfl, rfl, rfl, trivial⟩ (hK14 _ _ _ _ hk)
    · rw [if_neg c_43] at he
      replace hk := hk.2 c_43
      refine r_iload_n rfl rfl ?_
      refine r_iload rfl rfl ?_
      refine r_ishr rfl ?_
      refine r_iconst_ (a := 1) rfl (by decide) ?_
      refine r_iand rfl ?_
      refine r_if_ne rfl (fun c_52 => ?_) (fun c_52 => ?_)
      · rw [if_neg c_52] at he
        replace hk := hk.2 c_52
        refine r_aload_n rfl rfl ?_
        refine q_getfield rfl (cc_60 _) rfl ?_
        refine r_iload_n rfl rfl ?_
        obtain ⟨hb1, hk⟩ := hk
        refine q_iald rfl (cc_100 _) hb1 ?_
        refine r_aload_n rfl rfl ?_
        refine q_getfield rfl (cc_60 _) rfl ?_
        refine r_iload rfl rfl ?_
        obtain ⟨hb2, hk⟩ := hk
        refine q_iald rfl (cc_100 _) hb2 ?_
        obtain ⟨hb3, hk⟩ := hk
        refine r_callS0 [_, _] _ rfl kY_X12_stepsOff kT_X12_stepsOff rfl rfl (Nat.le_of_ble_eq_true rfl) (Nat.le_of_ble_eq_true rfl) (s_X12_stepsOff hb3) (fun r h q => ?_)
        obtain ⟨rfl, rfl⟩ := q
        simp only [Option.toList, List.cons_append, List.nil_append]
        refine r_aload_n rfl rfl ?_
        refine q_getfield rfl (cc_60 _) rfl ?_
        refine r_bipush_ (a := 10) rfl (by decide) ?_
        refine r_iload_n rfl rfl ?_
        refine r_iconst_ (a := 1) rfl (by decide) ?_
        refine r_iload rfl rfl ?_
        refine r_ishl rfl ?_
        refine r_iconst_ (a := -1) rfl (by decide) ?_
        refine r_ixor rfl ?_
        refine r_iand rfl ?_
        refine r_imul rfl ?_
        refine r_iload rfl rfl ?_
        refine r_iadd rfl ?_
        obtain ⟨hb4, hk⟩ := hk
        refine q_iald rfl (cc_101 _) hb4 ?_
        refine r_iadd rfl ?_
        refine r_istore rfl (Nat.le_of_ble_eq_true rfl) rfl ?_
        refine r_iload rfl rfl ?_
        refine r_iload_n rfl rfl ?_
        refine r_icmp_ge rfl (fun c_99 => ?_) (fun c_99 => ?_)
        · rw [if_pos c_99] at he
          replace hk := hk.1 c_99
          refine r_iinc (b := x4 + 1) rfl rfl rfl (Nat.le_of_ble_eq_true rfl) rfl ?_
          refine r_goto rfl ?_
          subst he
          exact r_weak (L1 := [some (.ref 60), some (.int x1), some (.int x2), some (.int x3), some (.int (x4 + 1)), none]) ⟨rfl, rfl, rfl, rfl, rfl, trivial⟩ (ih _ _ _ _ _ _ hk)
        · rw [if_neg c_99] at he
          replace hk := hk.2 c_99
          refine r_iload rfl rfl ?_
          refine r_istore_n rfl (Nat.le_of_ble_eq_true rfl) rfl ?_
          refine r_iinc (b := x4 + 1) rfl rfl rfl (Nat.le_of_ble_eq_true rfl) rfl ?_
          refine r_goto rfl ?_
          subst he
          exact r_weak (L1 := [some (.ref 60), some (.int x1), some (.int x2), some (.int ((f_X12_stepsOff fu (s 100 x2.toNatClampNeg) (s 100 x4.toNatClampNeg)) + (s 101 (((10 : Int32) * (x1 &&& (((1 : Int32) <<< (x4 &&& 31)) ^^^ (-1 : Int32)))) + x4).toNatClampNeg))), some (.int (x4 + 1)), none]) ⟨rfl, rfl, rfl, rfl, rfl, trivial⟩ (ih _ _ _ _ _ _ hk)
      · rw [if_pos c_52] at he
        replace hk := hk.1 c_52
        refine r_goto rfl ?_
        refine r_iinc (b := x4 + 1) rfl rfl rfl (Nat.le_of_ble_eq_true rfl) rfl ?_
        refine r_goto rfl ?_
        subst he
        exact r_weak (L1 := [some (.ref 60), some (.int x1), some (.int x2), some (.int x3), some (.int (x4 + 1)), none]) ⟨rfl, rfl, rfl, rfl, rfl, trivial⟩ (ih _ _ _ _ _ _ hk)

def f_X12_fillsRest_14 (fu : Nat) (K2 : Int32 → fl_I → fl_L → fl_I × fl_L) : Nat → Int32 → Int32 → fl_I → fl_L → fl_I × fl_L
  | 0, x1, x2, s, l => (s, l)
  | n + 1, x1, x2, s, l =>
    if ((s 60 60) ≤ x2) then K2 (x1 + 1) s l else if (x1 = 0) then f_X12_fillsRest_37 fu K2 (fun x1 x2 s l => f_X12_fillsRest_14 fu K2 n x1 x2 s l) fu x1 x2 (0 : Int32) (0 : Int32) s l else f_X12_fillsRest_37 fu K2 (fun x1 x2 s l => f_X12_fillsRest_14 fu K2 n x1 x2 s l) fu x1 x2 (9999 : Int32) (0 : Int32) s l

def p_X12_fillsRest_14 (fu : Nat) (P2 : Int32 → fl_I → fl_L → Prop) : Nat → Int32 → Int32 → fl_I → fl_L → Prop
  | 0, _, _, _, _ => False
  | n + 1, x1, x2, s, l =>
    ((((s 60 60) ≤ x2) → P2 (x1 + 1) s l) ∧ (¬ ((s 60 60) ≤ x2) → (((x1 = 0) → p_X12_fillsRest_37 fu P2 (fun x1 x2 s l => p_X12_fillsRest_14 fu P2 n x1 x2 s l) fu x1 x2 (0 : Int32) (0 : Int32) s l) ∧ (¬ (x1 = 0) → p_X12_fillsRest_37 fu P2 (fun x1 x2 s l => p_X12_fillsRest_14 fu P2 n x1 x2 s l) fu x1 x2 (9999 : Int32) (0 : Int32) s l))))

set_option maxRecDepth 100000 in
set_option maxHeartbeats 1000000 in
theorem lp_X12_fillsRest_14 {G : ab_G} {fu : Nat} {d : Nat} {D : fl_D} (K2 : Int32 → fl_I → fl_L → fl_I × fl_L) (P2 : Int32 → fl_I → fl_L → Prop) (hK2 : ∀ (x1 : Int32) (s : fl_I) (l : fl_L), P2 x1 s l → ab_C G (d + 2) 0 0 M_X12_fillsRest 2 [some (.ref 60), some (.int x1), none, none, none, none] [] (hp D s l) (rt none (hp D (K2 x1 s l).1 (K2 x1 s l).2))) : ∀ (n : Nat) (x1 : Int32) (x2 : Int32) (s : fl_I) (l : fl_L), p_X12_fillsRest_14 fu P2 n x1 x2 s l → ab_C G (d + 2) 0 0 M_X12_fillsRest 14 [some (.ref 60), some (.int x1), some (.int x2), none, none, none] [] (hp D s l) (rt none (hp D (f_X12_fillsRest_14 fu K2 n x1 x2 s l).1 (f_X12_fillsRest_14 fu K2 n x1 x2 s l).2)) := by
  intro n
  induction n with
  | zero => intro x1 x2 s l hk; exact hk.elim
  | succ n ih =>
    intro x1 x2 s l hk
    generalize he : f_X12_fillsRest_14 fu K2 (n + 1) x1 x2 s l = res
    unfold f_X12_fillsRest_14 at he
    unfold p_X12_fillsRest_14 at hk
    refine r_iload_n rfl rfl ?_
    refine r_aload_n rfl rfl ?_
    refine q_getfield rfl (cc_60 _) rfl ?_
    refine r_icmp_ge rfl (fun c_19 => ?_) (fun c_19 => ?_)
    · rw [if_pos c_19] at he
      replace hk := hk.1 c_19
      refine r_iinc (b := x1 + 1) rfl rfl rfl (Nat.le_of_ble_eq_true rfl) rfl ?_
      refine r_goto rfl ?_
      subst he
      exact r_weak (L1 := [some (.ref 60), some (.int (x1 + 1)), none, none, none, none]) ⟨rfl, rfl, trivial⟩ (hK2 _ _ _ hk)
    · rw [if_neg c_19] at he
      replace hk := hk.2 c_19
      refine r_iload_n rfl rfl ?_
      refine r_if_ne rfl (fun c_23 => ?_) (fun c_23 => ?_)
      · rw [if_neg c_23] at he
        replace hk := hk.2 c_23
        refine r_sipush_ (a := 9999) rfl (by decide) ?_
        refine r_istore_n rfl (Nat.le_of_ble_eq_true rfl) rfl ?_
        refine r_iconst_ (a := 0) rfl (by decide) ?_
        refine r_istore rfl (Nat.le_of_ble_eq_true rfl) rfl ?_
        subst he
        exact r_weak (L1 := [some (.ref 60), some (.int x1), some (.int x2), some (.int (9999 : Int32)), some (.int (0 : Int32)), none]) ⟨rfl, rfl, rfl, rfl, rfl, trivial⟩ (lp_X12_fillsRest_37 _ _ hK2 _ _ (fun _ _ _ _ h9 => ih _ _ _ _ h9) fu _ _ _ _ _ _ hk)
      · rw [if_pos c_23] at he
        replace hk := hk.1 c_23
        refine r_iconst_ (a := 0) rfl (by decide) ?_
        refine r_goto rfl ?_
        refine r_istore_n rfl (Nat.le_of_ble_eq_true rfl) rfl ?_
        refine r_iconst_ (a := 0) rfl (by decide) ?_
        refine r_istore rfl (Nat.le_of_ble_eq_true rfl) rfl ?_
        subst he
        exact r_weak (L1 := [some (.ref 60), some (.int x1), some (.int x2), some (.int (0 : Int32)), some (.int (0 : Int32)), none]) ⟨rfl, rfl, rfl, rfl, rfl, trivial⟩ (lp_X12_fillsRest_37 _ _ hK2 _ _ (fun _ _ _ _ h9 => ih _ _ _ _ h9) fu _ _ _ _ _ _ hk)

def f_X12_fillsRest_2 (fu : Nat) : Nat → Int32 → fl_I → fl_L → fl_I × fl_L
  | 0, x1, s, l => (s, l)
  | n + 1, x1, s, l =>
    if (((1 : Int32) <<< ((s 60 60) &&& 31)) ≤ x1) then (s, l) else f_X12_fillsRest_14 fu (fun x1 s l => f_X12_fillsRest_2 fu n x1 s l) fu x1 (0 : Int32) s l

def p_X12_fillsRest_2 (fu : Nat) : Nat → Int32 → fl_I → fl_L → Prop
  | 0, _, _, _ => False
  | n + 1, x1, s, l =>
    (((((1 : Int32) <<< ((s 60 60) &&& 31)) ≤ x1) → True) ∧ (¬ (((1 : Int32) <<< ((s 60 60) &&& 31)) ≤ x1) → p_X12_fillsRest_14 fu (fun x1 s l => p_X12_fillsRest_2 fu n x1 s l) fu x1 (0 : Int32) s l))

set_option maxRecDepth 100000 in
set_option maxHeartbeats 1000000 in
theorem lp_X12_fillsRest_2 {G : ab_G} {fu : Nat} {d : Nat} {D : fl_D} : ∀ (n : Nat) (x1 : Int32) (s : fl_I) (l : fl_L), p_X12_fillsRest_2 fu n x1 s l → ab_C G (d + 2) 0 0 M_X12_fillsRest 2 [some (.ref 60), some (.int x1), none, none, none, none] [] (hp D s l) (rt none (hp D (f_X12_fillsRest_2 fu n x1 s l).1 (f_X12_fillsRest_2 fu n x1 s l).2)) := by
  intro n
  induction n with
  | zero => intro x1 s l hk; exact hk.elim
  | succ n ih =>
    intro x1 s l hk
    generalize he : f_X12_fillsRest_2 fu (n + 1) x1 s l = res
    unfold f_X12_fillsRest_2 at he
    unfold p_X12_fillsRest_2 at hk
    refine r_iload_n rfl rfl ?_
    refine r_iconst_ (a := 1) rfl (by decide) ?_
    refine r_aload_n rfl rfl ?_
    refine q_getfield rfl (cc_60 _) rfl ?_
    refine r_ishl rfl ?_
    refine r_icmp_ge rfl (fun c_9 => ?_) (fun c_9 => ?_)
    · rw [if_pos c_9] at he
      replace hk := hk.1 c_9
      refine r_ret rfl rfl ?_
      first | with_reducible exact fin_v he | exact fin_v he
    · rw [if_neg c_9] at he
      replace hk := hk.2 c_9
      refine r_iconst_ (a := 0) rfl (by decide) ?_
      refine r_istore_n rfl (Nat.le_of_ble_eq_true rfl) rfl ?_
      subst he
      exact r_weak (L1 := [some (.ref 60), some (.int x1), some (.int (0 : Int32)), none, none, none]) ⟨rfl, rfl, rfl, trivial⟩ (lp_X12_fillsRest_14 _ _ (fun _ _ _ h9 => ih _ _ _ h9) fu _ _ _ _ hk)

def f_X12_fillsRest (fu : Nat) (s : fl_I) (l : fl_L) : fl_I × fl_L :=
  f_X12_fillsRest_2 fu fu (0 : Int32) s l

def p_X12_fillsRest (fu : Nat) (s : fl_I) (l : fl_L) : Prop :=
  p_X12_fillsRest_2 fu fu (0 : Int32) s l

set_option maxRecDepth 100000 in
set_option maxHeartbeats 1000000 in
theorem s_X12_fillsRest {G : ab_G} {fu : Nat} {d : Nat} {D : fl_D} {s : fl_I} {l : fl_L}  (hk : p_X12_fillsRest fu s l) : ab_C G (d + 2) 0 0 M_X12_fillsRest 0 (ab_ent [.ref 60]) [] (hp D s l) (rt none (hp D (f_X12_fillsRest fu s l).1 (f_X12_fillsRest fu s l).2)) := by
  generalize he : (f_X12_fillsRest fu s l) = res
  unfold f_X12_fillsRest at he
  unfold p_X12_fillsRest at hk
  refine r_weak (L1 := [some (.ref 60), none, none, none, none, none]) ⟨rfl, trivial⟩ ?_
  refine r_iconst_ (a := 0) rfl (by decide) ?_
  refine r_istore_n rfl (Nat.le_of_ble_eq_true rfl) rfl ?_
  subst he
  exact r_weak (L1 := [some (.ref 60), some (.int (0 : Int32)), none, none, none, none]) ⟨rfl, rfl, trivial⟩ (lp_X12_fillsRest_2 fu _ _ _ hk)

def f_X12_pickerGoes_144 (fu : Nat) (s : fl_I) (l : fl_L) : fl_I × fl_L :=
    (s, l)

def p_X12_pickerGoes_144 (fu : Nat) (s : fl_I) (l : fl_L) : Prop :=
    True

set_option maxRecDepth 100000 in
set_option maxHeartbeats 1000000 in
theorem lp_X12_pickerGoes_144 {G : ab_G} {fu : Nat} {d : Nat} {D : fl_D} : ∀ (s : fl_I) (l : fl_L), p_X12_pickerGoes_144 fu  s l → ab_C G (d + 1) 0 0 M_X12_pickerGoes 144 [none, none, none] [] (hp D s l) (rt none (hp D (f_X12_pickerGoes_144 fu  s l).1 (f_X12_pickerGoes_144 fu  s l).2)) := by
  intro  s l hk
  generalize he : f_X12_pickerGoes_144 fu  s l = res
  unfold f_X12_pickerGoes_144 at he
  unfold p_X12_pickerGoes_144 at hk
  refine r_ret rfl rfl ?_
  first | with_reducible exact fin_v he | exact fin_v he

def f_X12_pickerGoes_123 (fu : Nat) (x1 : Int32) (x2 : Int32) (s : fl_I) (l : fl_L) : fl_I × fl_L :=
    if ((f_X12_cellOfPicker fu x1 s l) = x2) then f_X12_pickerGoes_144 fu  (wi s 95 ((136 : Int32) + x1).toNatClampNeg (-2 : Int32)) l else f_X12_pickerGoes_144 fu  s l

def p_X12_pickerGoes_123 (fu : Nat) (x1 : Int32) (x2 : Int32) (s : fl_I) (l : fl_L) : Prop :=
    (p_X12_cellOfPicker fu x1 s l) ∧ ((((f_X12_cellOfPicker fu x1 s l) = x2) → (vp_in ((136 : Int32) + x1) 141) ∧ p_X12_pickerGoes_144 fu  (wi s 95 ((136 : Int32) + x1).toNatClampNeg (-2 : Int32)) l) ∧ (¬ ((f_X12_cellOfPicker fu x1 s l) = x2) → p_X12_pickerGoes_144 fu  s l))

set_option maxRecDepth 100000 in
set_option maxHeartbeats 1000000 in
theorem lp_X12_pickerGoes_123 {G : ab_G} {fu : Nat} {d : Nat} {D : fl_D} : ∀ (x1 : Int32) (x2 : Int32) (s : fl_I) (l : fl_L), p_X12_pickerGoes_123 fu x1 x2 s l → ab_C G (d + 1) 0 0 M_X12_pickerGoes 123 [some (.ref 60), some (.int x1), some (.int x2)] [] (hp D s l) (rt none (hp D (f_X12_pickerGoes_123 fu x1 x2 s l).1 (f_X12_pickerGoes_123 fu x1 x2 s l).2)) := by
  intro x1 x2 s l hk
  generalize he : f_X12_pickerGoes_123 fu x1 x2 s l = res
  unfold f_X12_pickerGoes_123 at he
  unfold p_X12_pickerGoes_123 at hk
  refine r_aload_n rfl rfl ?_
  refine r_iload_n rfl rfl ?_
  obtain ⟨hb3, hk⟩ := hk
  refine q_callV0 [_] _ rfl kY_X12_cellOfPicker kT_X12_cellOfPicker rfl rfl (Nat.le_of_ble_eq_true rfl) (Nat.le_of_ble_eq_true rfl) (cc_60 _) (s_X12_cellOfPicker hb3) (fun r h q => ?_)
  obtain ⟨rfl, rfl⟩ := q
  simp only [Option.toList, List.cons_append, List.nil_append]
  refine r_iload_n rfl rfl ?_
  refine r_icmp_ne rfl (fun c_129 => ?_) (fun c_129 => ?_)
  · rw [if_neg c_129] at he
    replace hk := hk.2 c_129
    subst he
    exact r_weak (L1 := [none, none, none]) trivial (lp_X12_pickerGoes_144 _ _ hk)
  · rw [if_pos c_129] at he
    replace hk := hk.1 c_129
    refine r_aload_n rfl rfl ?_
    refine q_getfield rfl (cc_60 _) rfl ?_
    refine r_sipush_ (a := 136) rfl (by decide) ?_
    refine r_iload_n rfl rfl ?_
    refine r_iadd rfl ?_
    refine r_bipush_ (a := -2) rfl (by decide) ?_
    obtain ⟨hb4, hk⟩ := hk
    refine w_iast rfl (cc_95 _) hb4 ?_
    subst he
    exact r_weak (L1 := [none, none, none]) trivial (lp_X12_pickerGoes_144 _ _ hk)

def f_X12_pickerGoes (fu : Nat) (v0 : Int32) (s : fl_I) (l : fl_L) : fl_I × fl_L :=
  if (0 ≤ (s 95 ((136 : Int32) + v0).toNatClampNeg)) then if ((s 95 ((128 : Int32) + v0).toNatClampNeg) = ((s 95 ((136 : Int32) + v0).toNatClampNeg) - (s 95 ((136 : Int32) + v0).toNatClampNeg) / (10 : Int32) * (10 : Int32))) then if ((s 95 ((132 : Int32) + v0).toNatClampNeg) = ((s 95 ((136 : Int32) + v0).toNatClampNeg) / (10 : Int32))) then f_X12_pickerGoes_123 fu v0 (s 95 ((136 : Int32) + v0).toNatClampNeg) s l else if (((s 95 ((136 : Int32) + v0).toNatClampNeg) / (10 : Int32)) ≤ (s 95 ((132 : Int32) + v0).toNatClampNeg)) then f_X12_pickerGoes_123 fu v0 (s 95 ((136 : Int32) + v0).toNatClampNeg) (wi s 95 ((132 : Int32) + v0).toNatClampNeg ((s 95 ((132 : Int32) + v0).toNatClampNeg) + (-1 : Int32))) l else f_X12_pickerGoes_123 fu v0 (s 95 ((136 : Int32) + v0).toNatClampNeg) (wi s 95 ((132 : Int32) + v0).toNatClampNeg ((s 95 ((132 : Int32) + v0).toNatClampNeg) + (1 : Int32))) l else if (((s 95 ((136 : Int32) + v0).toNatClampNeg) - (s 95 ((136 : Int32) + v0).toNatClampNeg) / (10 : Int32) * (10 : Int32)) ≤ (s 95 ((128 : Int32) + v0).toNatClampNeg)) then f_X12_pickerGoes_123 fu v0 (s 95 ((136 : Int32) + v0).toNatClampNeg) (wi s 95 ((128 : Int32) + v0).toNatClampNeg ((s 95 ((128 : Int32) + v0).toNatClampNeg) + (-1 : Int32))) l else f_X12_pickerGoes_123 fu v0 (s 95 ((136 : Int32) + v0).toNatClampNeg) (wi s 95 ((128 : Int32) + v0).toNatClampNeg ((s 95 ((128 : Int32) + v0).toNatClampNeg) + (1 : Int32))) l else (s, l)

def p_X12_pickerGoes (fu : Nat) (v0 : Int32) (s : fl_I) (l : fl_L) : Prop :=
  (vp_in ((136 : Int32) + v0) 141) ∧ (((0 ≤ (s 95 ((136 : Int32) + v0).toNatClampNeg)) → (vp_in ((128 : Int32) + v0) 141) ∧ ((((s 95 ((128 : Int32) + v0).toNatClampNeg) = ((s 95 ((136 : Int32) + v0).toNatClampNeg) - (s 95 ((136 : Int32) + v0).toNatClampNeg) / (10 : Int32) * (10 : Int32))) → (vp_in ((132 : Int32) + v0) 141) ∧ ((((s 95 ((132 : Int32) + v0).toNatClampNeg) = ((s 95 ((136 : Int32) + v0).toNatClampNeg) / (10 : Int32))) → p_X12_pickerGoes_123 fu v0 (s 95 ((136 : Int32) + v0).toNatClampNeg) s l) ∧ (¬ ((s 95 ((132 : Int32) + v0).toNatClampNeg) = ((s 95 ((136 : Int32) + v0).toNatClampNeg) / (10 : Int32))) → (vp_in ((132 : Int32) + v0) 141) ∧ (vp_in ((132 : Int32) + v0) 141) ∧ (((((s 95 ((136 : Int32) + v0).toNatClampNeg) / (10 : Int32)) ≤ (s 95 ((132 : Int32) + v0).toNatClampNeg)) → (vp_in ((132 : Int32) + v0) 141) ∧ p_X12_pickerGoes_123 fu v0 (s 95 ((136 : Int32) + v0).toNatClampNeg) (wi s 95 ((132 : Int32) + v0).toNatClampNeg ((s 95 ((132 : Int32) + v0).toNatClampNeg) + (-1 : Int32))) l) ∧ (¬ (((s 95 ((136 : Int32) + v0).toNatClampNeg) / (10 : Int32)) ≤ (s 95 ((132 : Int32) + v0).toNatClampNeg)) → (vp_in ((132 : Int32) + v0) 141) ∧ p_X12_pickerGoes_123 fu v0 (s 95 ((136 : Int32) + v0).toNatClampNeg) (wi s 95 ((132 : Int32) + v0).toNatClampNeg ((s 95 ((132 : Int32) + v0).toNatClampNeg) + (1 : Int32))) l))))) ∧ (¬ ((s 95 ((128 : Int32) + v0).toNatClampNeg) = ((s 95 ((136 : Int32) + v0).toNatClampNeg) - (s 95 ((136 : Int32) + v0).toNatClampNeg) / (10 : Int32) * (10 : Int32))) → (vp_in ((128 : Int32) + v0) 141) ∧ (vp_in ((128 : Int32) + v0) 141) ∧ (((((s 95 ((136 : Int32) + v0).toNatClampNeg) - (s 95 ((136 : Int32) + v0).toNatClampNeg) / (10 : Int32) * (10 : Int32)) ≤ (s 95 ((128 : Int32) + v0).toNatClampNeg)) → (vp_in ((128 : Int32) + v0) 141) ∧ p_X12_pickerGoes_123 fu v0 (s 95 ((136 : Int32) + v0).toNatClampNeg) (wi s 95 ((128 : Int32) + v0).toNatClampNeg ((s 95 ((128 : Int32) + v0).toNatClampNeg) + (-1 : Int32))) l) ∧ (¬ (((s 95 ((136 : Int32) + v0).toNatClampNeg) - (s 95 ((136 : Int32) + v0).toNatClampNeg) / (10 : Int32) * (10 : Int32)) ≤ (s 95 ((128 : Int32) + v0).toNatClampNeg)) → (vp_in ((128 : Int32) + v0) 141) ∧ p_X12_pickerGoes_123 fu v0 (s 95 ((136 : Int32) + v0).toNatClampNeg) (wi s 95 ((128 : Int32) + v0).toNatClampNeg ((s 95 ((128 : Int32) + v0).toNatClampNeg) + (1 : Int32))) l))))) ∧ (¬ (0 ≤ (s 95 ((136 : Int32) + v0).toNatClampNeg)) → True))

set_option maxRecDepth 100000 in
set_option maxHeartbeats 1000000 in
theorem s_X12_pickerGoes {G : ab_G} {fu : Nat} {d : Nat} {D : fl_D} {s : fl_I} {l : fl_L} {v0 : Int32} (hk : p_X12_pickerGoes fu v0 s l) : ab_C G (d + 1) 0 0 M_X12_pickerGoes 0 (ab_ent [.ref 60, .int v0]) [] (hp D s l) (rt none (hp D (f_X12_pickerGoes fu v0 s l).1 (f_X12_pickerGoes fu v0 s l).2)) := by
  generalize he : (f_X12_pickerGoes fu v0 s l) = res
  unfold f_X12_pickerGoes at he
  unfold p_X12_pickerGoes at hk
  refine r_weak (L1 := [some (.ref 60), some (.int v0), none]) ⟨rfl, rfl, trivial⟩ ?_
  refine r_aload_n rfl rfl ?_
  refine q_getfield rfl (cc_60 _) rfl ?_
  refine r_sipush_ (a := 136) rfl (by decide) ?_
  refine r_iload_n rfl rfl ?_
  refine r_iadd rfl ?_
  obtain ⟨hb0, hk⟩ := hk
  refine q_iald rfl (cc_95 _) hb0 ?_
  refine r_istore_n rfl (Nat.le_of_ble_eq_true rfl) rfl ?_
  refine r_iload_n rfl rfl ?_
  refine r_if_ge rfl (fun c_12 => ?_) (fun c_12 => ?_)
  · rw [if_pos c_12] at he
    replace hk := hk.1 c_12
    refine r_aload_n rfl rfl ?_
    refine q_getfield rfl (cc_60 _) rfl ?_
    refine r_sipush_ (a := 128) rfl (by decide) ?_
    refine r_iload_n rfl rfl ?_
    refine r_iadd rfl ?_
    obtain ⟨hb1, hk⟩ := hk
    refine q_iald rfl (cc_95 _) hb1 ?_
    refine r_iload_n rfl rfl ?_
    refine r_bipush_ (a := 10) rfl (by decide) ?_
    refine r_irem rfl (by decide) ?_
    refine r_icmp_eq rfl (fun c_30 => ?_) (fun c_30 => ?_)
    · rw [if_pos c_30] at he
      replace hk := hk.1 c_30
      refine r_aload_n rfl rfl ?_
      refine q_getfield rfl (cc_60 _) rfl ?_
      refine r_sipush_ (a := 132) rfl (by decide) ?_
      refine r_iload_n rfl rfl ?_
      refine r_iadd rfl ?_
      obtain ⟨hb2, hk⟩ := hk
      refine q_iald rfl (cc_95 _) hb2 ?_
      refine r_iload_n rfl rfl ?_
      refine r_bipush_ (a := 10) rfl (by decide) ?_
      refine r_idiv rfl (by decide) ?_
      refine r_icmp_eq rfl (fun c_85 => ?_) (fun c_85 => ?_)
      · rw [if_pos c_85] at he
        replace hk := hk.1 c_85
        subst he
        exact r_weak (L1 := [some (.ref 60), some (.int v0), some (.int (s 95 ((136 : Int32) + v0).toNatClampNeg))]) ⟨rfl, rfl, rfl, trivial⟩ (lp_X12_pickerGoes_123 _ _ _ _ hk)
      · rw [if_neg c_85] at he
        replace hk := hk.2 c_85
        refine r_aload_n rfl rfl ?_
        refine q_getfield rfl (cc_60 _) rfl ?_
        refine r_sipush_ (a := 132) rfl (by decide) ?_
        refine r_iload_n rfl rfl ?_
        refine r_iadd rfl ?_
        refine r_dup2 rfl rfl rfl ?_
        obtain ⟨hb5, hk⟩ := hk
        refine q_iald rfl (cc_95 _) hb5 ?_
        refine r_aload_n rfl rfl ?_
        refine q_getfield rfl (cc_60 _) rfl ?_
        refine r_sipush_ (a := 132) rfl (by decide) ?_
        refine r_iload_n rfl rfl ?_
        refine r_iadd rfl ?_
        obtain ⟨hb6, hk⟩ := hk
        refine q_iald rfl (cc_95 _) hb6 ?_
        refine r_iload_n rfl rfl ?_
        refine r_bipush_ (a := 10) rfl (by decide) ?_
        refine r_idiv rfl (by decide) ?_
        refine r_icmp_ge rfl (fun c_113 => ?_) (fun c_113 => ?_)
        · rw [if_pos c_113] at he
          replace hk := hk.1 c_113
          refine r_iconst_ (a := -1) rfl (by decide) ?_
          refine r_iadd rfl ?_
          obtain ⟨hb7, hk⟩ := hk
          refine w_iast rfl (cc_95 _) hb7 ?_
          subst he
          exact r_weak (L1 := [some (.ref 60), some (.int v0), some (.int (s 95 ((136 : Int32) + v0).toNatClampNeg))]) ⟨rfl, rfl, rfl, trivial⟩ (lp_X12_pickerGoes_123 _ _ _ _ hk)
        · rw [if_neg c_113] at he
          replace hk := hk.2 c_113
          refine r_iconst_ (a := 1) rfl (by decide) ?_
          refine r_goto rfl ?_
          refine r_iadd rfl ?_
          obtain ⟨hb8, hk⟩ := hk
          refine w_iast rfl (cc_95 _) hb8 ?_
          subst he
          exact r_weak (L1 := [some (.ref 60), some (.int v0), some (.int (s 95 ((136 : Int32) + v0).toNatClampNeg))]) ⟨rfl, rfl, rfl, trivial⟩ (lp_X12_pickerGoes_123 _ _ _ _ hk)
    · rw [if_neg c_30] at he
      replace hk := hk.2 c_30
      refine r_aload_n rfl rfl ?_
      refine q_getfield rfl (cc_60 _) rfl ?_
      refine r_sipush_ (a := 128) rfl (by decide) ?_
      refine r_iload_n rfl rfl ?_
      refine r_iadd rfl ?_
      refine r_dup2 rfl rfl rfl ?_
      obtain ⟨hb9, hk⟩ := hk
      refine q_iald rfl (cc_95 _) hb9 ?_
      refine r_aload_n rfl rfl ?_
      refine q_getfield rfl (cc_60 _) rfl ?_
      refine r_sipush_ (a := 128) rfl (by decide) ?_
      refine r_iload_n rfl rfl ?_
      refine r_iadd rfl ?_
      obtain ⟨hb10, hk⟩ := hk
      refine q_iald rfl (cc_95 _) hb10 ?_
      refine r_iload_n rfl rfl ?_
      refine r_bipush_ (a := 10) rfl (by decide) ?_
      refine r_irem rfl (by decide) ?_
      refine r_icmp_ge rfl (fun c_58 => ?_) (fun c_58 => ?_)
      · rw [if_pos c_58] at he
        replace hk := hk.1 c_58
        refine r_iconst_ (a := -1) rfl (by decide) ?_
        refine r_iadd rfl ?_
        obtain ⟨hb11, hk⟩ := hk
        refine w_iast rfl (cc_95 _) hb11 ?_
        refine r_goto rfl ?_
        subst he
        exact r_weak (L1 := [some (.ref 60), some (.int v0), some (.int (s 95 ((136 : Int32) + v0).toNatClampNeg))]) ⟨rfl, rfl, rfl, trivial⟩ (lp_X12_pickerGoes_123 _ _ _ _ hk)
      · rw [if_neg c_58] at he
        replace hk := hk.2 c_58
        refine r_iconst_ (a := 1) rfl (by decide) ?_
        refine r_goto rfl ?_
        refine r_iadd rfl ?_
        obtain ⟨hb12, hk⟩ := hk
        refine w_iast rfl (cc_95 _) hb12 ?_
        refine r_goto rfl ?_
        subst he
        exact r_weak (L1 := [some (.ref 60), some (.int v0), some (.int (s 95 ((136 : Int32) + v0).toNatClampNeg))]) ⟨rfl, rfl, rfl, trivial⟩ (lp_X12_pickerGoes_123 _ _ _ _ hk)
  · rw [if_neg c_12] at he
    replace hk := hk.2 c_12
    refine r_ret rfl rfl ?_
    first | with_reducible exact fin_v he | exact fin_v he

def f_X12_termOf_159 (fu : Nat) (K5 : Int32 → Int32 → Int32 → fl_I → fl_L → Int32 × fl_I × fl_L) (x2 : Int32) (x3 : Int32) (x4 : Int32) (s : fl_I) (l : fl_L) : Int32 × fl_I × fl_L :=
    K5 x2 x3 (x4 + 1) s l

def p_X12_termOf_159 (fu : Nat) (P5 : Int32 → Int32 → Int32 → fl_I → fl_L → Prop) (x2 : Int32) (x3 : Int32) (x4 : Int32) (s : fl_I) (l : fl_L) : Prop :=
    P5 x2 x3 (x4 + 1) s l

set_option maxRecDepth 100000 in
set_option maxHeartbeats 1000000 in
theorem lp_X12_termOf_159 {G : ab_G} {fu : Nat} {d : Nat} {D : fl_D} (K5 : Int32 → Int32 → Int32 → fl_I → fl_L → Int32 × fl_I × fl_L) (P5 : Int32 → Int32 → Int32 → fl_I → fl_L → Prop) (hK5 : ∀ (x2 : Int32) (x3 : Int32) (x4 : Int32) (s : fl_I) (l : fl_L), P5 x2 x3 x4 s l → ab_C G d 0 0 M_X12_termOf 5 [some (.ref 60), none, some (.int x2), some (.int x3), some (.int x4), none, none, none] [] (hp D s l) (rt (some (.int (K5 x2 x3 x4 s l).1)) (hp D (K5 x2 x3 x4 s l).2.1 (K5 x2 x3 x4 s l).2.2))) : ∀ (x2 : Int32) (x3 : Int32) (x4 : Int32) (s : fl_I) (l : fl_L), p_X12_termOf_159 fu P5 x2 x3 x4 s l → ab_C G d 0 0 M_X12_termOf 159 [some (.ref 60), none, some (.int x2), some (.int x3), some (.int x4), none, none, none] [] (hp D s l) (rt (some (.int (f_X12_termOf_159 fu K5 x2 x3 x4 s l).1)) (hp D (f_X12_termOf_159 fu K5 x2 x3 x4 s l).2.1 (f_X12_termOf_159 fu K5 x2 x3 x4 s l).2.2)) := by
  intro x2 x3 x4 s l hk
  generalize he : f_X12_termOf_159 fu K5 x2 x3 x4 s l = res
  unfold f_X12_termOf_159 at he
  unfold p_X12_termOf_159 at hk
  refine r_iinc (b := x4 + 1) rfl rfl rfl (Nat.le_of_ble_eq_true rfl) rfl ?_
  refine r_goto rfl ?_
  subst he
  exact r_weak (L1 := [some (.ref 60), none, some (.int x2), some (.int x3), some (.int (x4 + 1)), none, none, none]) ⟨rfl, rfl, rfl, rfl, trivial⟩ (hK5 _ _ _ _ _ hk)

def f_X12_termOf_104 (fu : Nat) (K5 : Int32 → Int32 → Int32 → fl_I → fl_L → Int32 × fl_I × fl_L) (x2 : Int32) (x3 : Int32) (x4 : Int32) (x5 : Int32) (x6 : Int32) (x7 : Int32) (s : fl_I) (l : fl_L) : Int32 × fl_I × fl_L :=
    if (x5 = (2 : Int32)) then f_X12_termOf_159 fu K5 x2 x3 x4 (wi s 93 (x3 - (1 : Int32)).toNatClampNeg (x6 + x7)) l else if (x5 = (3 : Int32)) then f_X12_termOf_159 fu K5 x2 x3 x4 (wi s 93 (x3 - (1 : Int32)).toNatClampNeg (x6 - x7)) l else if (x5 = (4 : Int32)) then f_X12_termOf_159 fu K5 x2 x3 x4 (wi s 93 (x3 - (1 : Int32)).toNatClampNeg (x6 * x7)) l else f_X12_termOf_159 fu K5 x2 x3 x4 (wi s 93 (x3 - (1 : Int32)).toNatClampNeg (x6 / x7)) l

def p_X12_termOf_104 (fu : Nat) (P5 : Int32 → Int32 → Int32 → fl_I → fl_L → Prop) (x2 : Int32) (x3 : Int32) (x4 : Int32) (x5 : Int32) (x6 : Int32) (x7 : Int32) (s : fl_I) (l : fl_L) : Prop :=
    (((x5 = (2 : Int32)) → (vp_in (x3 - (1 : Int32)) 400) ∧ p_X12_termOf_159 fu P5 x2 x3 x4 (wi s 93 (x3 - (1 : Int32)).toNatClampNeg (x6 + x7)) l) ∧ (¬ (x5 = (2 : Int32)) → (((x5 = (3 : Int32)) → (vp_in (x3 - (1 : Int32)) 400) ∧ p_X12_termOf_159 fu P5 x2 x3 x4 (wi s 93 (x3 - (1 : Int32)).toNatClampNeg (x6 - x7)) l) ∧ (¬ (x5 = (3 : Int32)) → (((x5 = (4 : Int32)) → (vp_in (x3 - (1 : Int32)) 400) ∧ p_X12_termOf_159 fu P5 x2 x3 x4 (wi s 93 (x3 - (1 : Int32)).toNatClampNeg (x6 * x7)) l) ∧ (¬ (x5 = (4 : Int32)) → (¬ x7 = 0) ∧ (vp_in (x3 - (1 : Int32)) 400) ∧ p_X12_termOf_159 fu P5 x2 x3 x4 (wi s 93 (x3 - (1 : Int32)).toNatClampNeg (x6 / x7)) l))))))

set_option maxRecDepth 100000 in
set_option maxHeartbeats 1000000 in
theorem lp_X12_termOf_104 {G : ab_G} {fu : Nat} {d : Nat} {D : fl_D} (K5 : Int32 → Int32 → Int32 → fl_I → fl_L → Int32 × fl_I × fl_L) (P5 : Int32 → Int32 → Int32 → fl_I → fl_L → Prop) (hK5 : ∀ (x2 : Int32) (x3 : Int32) (x4 : Int32) (s : fl_I) (l : fl_L), P5 x2 x3 x4 s l → ab_C G d 0 0 M_X12_termOf 5 [some (.ref 60), none, some (.int x2), some (.int x3), some (.int x4), none, none, none] [] (hp D s l) (rt (some (.int (K5 x2 x3 x4 s l).1)) (hp D (K5 x2 x3 x4 s l).2.1 (K5 x2 x3 x4 s l).2.2))) : ∀ (x2 : Int32) (x3 : Int32) (x4 : Int32) (x5 : Int32) (x6 : Int32) (x7 : Int32) (s : fl_I) (l : fl_L), p_X12_termOf_104 fu P5 x2 x3 x4 x5 x6 x7 s l → ab_C G d 0 0 M_X12_termOf 104 [some (.ref 60), none, some (.int x2), some (.int x3), some (.int x4), some (.int x5), some (.int x6), some (.int x7)] [] (hp D s l) (rt (some (.int (f_X12_termOf_104 fu K5 x2 x3 x4 x5 x6 x7 s l).1)) (hp D (f_X12_termOf_104 fu K5 x2 x3 x4 x5 x6 x7 s l).2.1 (f_X12_termOf_104 fu K5 x2 x3 x4 x5 x6 x7 s l).2.2)) := by
  intro x2 x3 x4 x5 x6 x7 s l hk
  generalize he : f_X12_termOf_104 fu K5 x2 x3 x4 x5 x6 x7 s l = res
  unfold f_X12_termOf_104 at he
  unfold p_X12_termOf_104 at hk
  refine r_aload_n rfl rfl ?_
  refine q_getfield rfl (cc_60 _) rfl ?_
  refine r_iload_n rfl rfl ?_
  refine r_iconst_ (a := 1) rfl (by decide) ?_
  refine r_isub rfl ?_
  refine r_iload rfl rfl ?_
  refine r_iconst_ (a := 2) rfl (by decide) ?_
  refine r_icmp_ne rfl (fun c_114 => ?_) (fun c_114 => ?_)
  · rw [if_neg c_114] at he
    replace hk := hk.2 c_114
    refine r_iload rfl rfl ?_
    refine r_iconst_ (a := 3) rfl (by decide) ?_
    refine r_icmp_ne rfl (fun c_128 => ?_) (fun c_128 => ?_)
    · rw [if_neg c_128] at he
      replace hk := hk.2 c_128
      refine r_iload rfl rfl ?_
      refine r_iconst_ (a := 4) rfl (by decide) ?_
      refine r_icmp_ne rfl (fun c_142 => ?_) (fun c_142 => ?_)
      · rw [if_neg c_142] at he
        replace hk := hk.2 c_142
        refine r_iload rfl rfl ?_
        refine r_iload rfl rfl ?_
        obtain ⟨hb3, hk⟩ := hk
        refine r_idiv rfl hb3 ?_
        obtain ⟨hb4, hk⟩ := hk
        refine w_iast rfl (cc_93 _) hb4 ?_
        subst he
        exact r_weak (L1 := [some (.ref 60), none, some (.int x2), some (.int x3), some (.int x4), none, none, none]) ⟨rfl, rfl, rfl, rfl, trivial⟩ (lp_X12_termOf_159 _ _ hK5 _ _ _ _ _ hk)
      · rw [if_pos c_142] at he
        replace hk := hk.1 c_142
        refine r_iload rfl rfl ?_
        refine r_iload rfl rfl ?_
        refine r_imul rfl ?_
        refine r_goto rfl ?_
        obtain ⟨hb5, hk⟩ := hk
        refine w_iast rfl (cc_93 _) hb5 ?_
        subst he
        exact r_weak (L1 := [some (.ref 60), none, some (.int x2), some (.int x3), some (.int x4), none, none, none]) ⟨rfl, rfl, rfl, rfl, trivial⟩ (lp_X12_termOf_159 _ _ hK5 _ _ _ _ _ hk)
    · rw [if_pos c_128] at he
      replace hk := hk.1 c_128
      refine r_iload rfl rfl ?_
      refine r_iload rfl rfl ?_
      refine r_isub rfl ?_
      refine r_goto rfl ?_
      obtain ⟨hb6, hk⟩ := hk
      refine w_iast rfl (cc_93 _) hb6 ?_
      subst he
      exact r_weak (L1 := [some (.ref 60), none, some (.int x2), some (.int x3), some (.int x4), none, none, none]) ⟨rfl, rfl, rfl, rfl, trivial⟩ (lp_X12_termOf_159 _ _ hK5 _ _ _ _ _ hk)
  · rw [if_pos c_114] at he
    replace hk := hk.1 c_114
    refine r_iload rfl rfl ?_
    refine r_iload rfl rfl ?_
    refine r_iadd rfl ?_
    refine r_goto rfl ?_
    obtain ⟨hb7, hk⟩ := hk
    refine w_iast rfl (cc_93 _) hb7 ?_
    subst he
    exact r_weak (L1 := [some (.ref 60), none, some (.int x2), some (.int x3), some (.int x4), none, none, none]) ⟨rfl, rfl, rfl, rfl, trivial⟩ (lp_X12_termOf_159 _ _ hK5 _ _ _ _ _ hk)

def f_X12_termOf_5 (fu : Nat) : Nat → Int32 → Int32 → Int32 → fl_I → fl_L → Int32 × fl_I × fl_L
  | 0, x2, x3, x4, s, l => (0, s, l)
  | n + 1, x2, x3, x4, s, l =>
    if (x2 ≤ x4) then ((s 93 (0 : Int32).toNatClampNeg), s, l) else if ((2 : Int32) ≤ (s 89 x4.toNatClampNeg)) then if ((s 89 x4.toNatClampNeg) = (5 : Int32)) then if ((s 93 (x3 + (-1)).toNatClampNeg) = 0) then ((0 : Int32), (wi s 60 49 (1 : Int32)), l) else f_X12_termOf_104 fu (fun x2 x3 x4 s l => f_X12_termOf_5 fu n x2 x3 x4 s l) x2 (x3 + (-1)) x4 (s 89 x4.toNatClampNeg) (s 93 ((x3 + (-1)) - (1 : Int32)).toNatClampNeg) (s 93 (x3 + (-1)).toNatClampNeg) s l else f_X12_termOf_104 fu (fun x2 x3 x4 s l => f_X12_termOf_5 fu n x2 x3 x4 s l) x2 (x3 + (-1)) x4 (s 89 x4.toNatClampNeg) (s 93 ((x3 + (-1)) - (1 : Int32)).toNatClampNeg) (s 93 (x3 + (-1)).toNatClampNeg) s l else if ((s 89 x4.toNatClampNeg) = 0) then f_X12_termOf_159 fu (fun x2 x3 x4 s l => f_X12_termOf_5 fu n x2 x3 x4 s l) x2 (x3 + 1) x4 (wi s 93 x3.toNatClampNeg (s 90 x4.toNatClampNeg)) l else f_X12_termOf_159 fu (fun x2 x3 x4 s l => f_X12_termOf_5 fu n x2 x3 x4 s l) x2 (x3 + 1) x4 (wi s 93 x3.toNatClampNeg (s 92 (s 90 x4.toNatClampNeg).toNatClampNeg)) l

def p_X12_termOf_5 (fu : Nat) : Nat → Int32 → Int32 → Int32 → fl_I → fl_L → Prop
  | 0, _, _, _, _, _ => False
  | n + 1, x2, x3, x4, s, l =>
    (((x2 ≤ x4) → True) ∧ (¬ (x2 ≤ x4) → (vp_in x4 840) ∧ ((((2 : Int32) ≤ (s 89 x4.toNatClampNeg)) → (vp_in ((x3 + (-1)) - (1 : Int32)) 400) ∧ (vp_in (x3 + (-1)) 400) ∧ ((((s 89 x4.toNatClampNeg) = (5 : Int32)) → ((((s 93 (x3 + (-1)).toNatClampNeg) = 0) → True) ∧ (¬ ((s 93 (x3 + (-1)).toNatClampNeg) = 0) → p_X12_termOf_104 fu (fun x2 x3 x4 s l => p_X12_termOf_5 fu n x2 x3 x4 s l) x2 (x3 + (-1)) x4 (s 89 x4.toNatClampNeg) (s 93 ((x3 + (-1)) - (1 : Int32)).toNatClampNeg) (s 93 (x3 + (-1)).toNatClampNeg) s l))) ∧ (¬ ((s 89 x4.toNatClampNeg) = (5 : Int32)) → p_X12_termOf_104 fu (fun x2 x3 x4 s l => p_X12_termOf_5 fu n x2 x3 x4 s l) x2 (x3 + (-1)) x4 (s 89 x4.toNatClampNeg) (s 93 ((x3 + (-1)) - (1 : Int32)).toNatClampNeg) (s 93 (x3 + (-1)).toNatClampNeg) s l))) ∧ (¬ ((2 : Int32) ≤ (s 89 x4.toNatClampNeg)) → ((((s 89 x4.toNatClampNeg) = 0) → (vp_in x4 840) ∧ (vp_in x3 400) ∧ p_X12_termOf_159 fu (fun x2 x3 x4 s l => p_X12_termOf_5 fu n x2 x3 x4 s l) x2 (x3 + 1) x4 (wi s 93 x3.toNatClampNeg (s 90 x4.toNatClampNeg)) l) ∧ (¬ ((s 89 x4.toNatClampNeg) = 0) → (vp_in x4 840) ∧ (vp_in (s 90 x4.toNatClampNeg) 9) ∧ (vp_in x3 400) ∧ p_X12_termOf_159 fu (fun x2 x3 x4 s l => p_X12_termOf_5 fu n x2 x3 x4 s l) x2 (x3 + 1) x4 (wi s 93 x3.toNatClampNeg (s 92 (s 90 x4.toNatClampNeg).toNatClampNeg)) l))))))

set_option maxRecDepth 100000 in
set_option maxHeartbeats 1000000 in
theorem lp_X12_termOf_5 {G : ab_G} {fu : Nat} {d : Nat} {D : fl_D} : ∀ (n : Nat) (x2 : Int32) (x3 : Int32) (x4 : Int32) (s : fl_I) (l : fl_L), p_X12_termOf_5 fu n x2 x3 x4 s l → ab_C G d 0 0 M_X12_termOf 5 [some (.ref 60), none, some (.int x2), some (.int x3), some (.int x4), none, none, none] [] (hp D s l) (rt (some (.int (f_X12_termOf_5 fu n x2 x3 x4 s l).1)) (hp D (f_X12_termOf_5 fu n x2 x3 x4 s l).2.1 (f_X12_termOf_5 fu n x2 x3 x4 s l).2.2)) := by
  intro n
  induction n with
  | zero => intro x2 x3 x4 s l hk; exact hk.elim
  | succ n ih =>
    intro x2 x3 x4 s l hk
    generalize he : f_X12_termOf_5 fu (n + 1) x2 x3 x4 s l = res
    unfold f_X12_termOf_5 at he
    unfold p_X12_termOf_5 at hk
    refine r_iload rfl rfl ?_
    refine r_iload_n rfl rfl ?_
    refine r_icmp_ge rfl (fun c_8 => ?_) (fun c_8 => ?_)
    · rw [if_pos c_8] at he
      replace hk := hk.1 c_8
      refine r_aload_n rfl rfl ?_
      refine q_getfield rfl (cc_60 _) rfl ?_
      refine r_iconst_ (a := 0) rfl (by decide) ?_
      refine q_iald rfl (cc_93 _) (by unfold vp_in; decide) ?_
      refine r_iret rfl rfl rfl ?_
      first | with_reducible exact fin_i he | exact fin_i he
    · rw [if_neg c_8] at he
      replace hk := hk.2 c_8
      refine r_aload_n rfl rfl ?_
      refine q_getfield rfl (cc_60 _) rfl ?_
      refine r_iload rfl rfl ?_
      obtain ⟨hb0, hk⟩ := hk
      refine q_iald rfl (cc_89 _) hb0 ?_
      refine r_istore rfl (Nat.le_of_ble_eq_true rfl) rfl ?_
      refine r_iload rfl rfl ?_
      refine r_iconst_ (a := 2) rfl (by decide) ?_
      refine r_icmp_ge rfl (fun c_23 => ?_) (fun c_23 => ?_)
      · rw [if_pos c_23] at he
        replace hk := hk.1 c_23
        refine r_iinc (b := x3 + (-1)) rfl rfl rfl (Nat.le_of_ble_eq_true rfl) rfl ?_
        refine r_aload_n rfl rfl ?_
        refine q_getfield rfl (cc_60 _) rfl ?_
        refine r_iload_n rfl rfl ?_
        refine r_iconst_ (a := 1) rfl (by decide) ?_
        refine r_isub rfl ?_
        obtain ⟨hb1, hk⟩ := hk
        refine q_iald rfl (cc_93 _) hb1 ?_
        refine r_istore rfl (Nat.le_of_ble_eq_true rfl) rfl ?_
        refine r_aload_n rfl rfl ?_
        refine q_getfield rfl (cc_60 _) rfl ?_
        refine r_iload_n rfl rfl ?_
        obtain ⟨hb2, hk⟩ := hk
        refine q_iald rfl (cc_93 _) hb2 ?_
        refine r_istore rfl (Nat.le_of_ble_eq_true rfl) rfl ?_
        refine r_iload rfl rfl ?_
        refine r_iconst_ (a := 5) rfl (by decide) ?_
        refine r_icmp_ne rfl (fun c_89 => ?_) (fun c_89 => ?_)
        · rw [if_neg c_89] at he
          replace hk := hk.2 c_89
          subst he
          exact r_weak (L1 := [some (.ref 60), none, some (.int x2), some (.int (x3 + (-1))), some (.int x4), some (.int (s 89 x4.toNatClampNeg)), some (.int (s 93 ((x3 + (-1)) - (1 : Int32)).toNatClampNeg)), some (.int (s 93 (x3 + (-1)).toNatClampNeg))]) ⟨rfl, rfl, rfl, rfl, rfl, rfl, rfl, trivial⟩ (lp_X12_termOf_104 _ _ (fun _ _ _ _ _ h9 => ih _ _ _ _ _ h9) _ _ _ _ _ _ _ _ hk)
        · rw [if_pos c_89] at he
          replace hk := hk.1 c_89
          refine r_iload rfl rfl ?_
          refine r_if_ne rfl (fun c_94 => ?_) (fun c_94 => ?_)
          · rw [if_neg c_94] at he
            replace hk := hk.2 c_94
            subst he
            exact r_weak (L1 := [some (.ref 60), none, some (.int x2), some (.int (x3 + (-1))), some (.int x4), some (.int (s 89 x4.toNatClampNeg)), some (.int (s 93 ((x3 + (-1)) - (1 : Int32)).toNatClampNeg)), some (.int (s 93 (x3 + (-1)).toNatClampNeg))]) ⟨rfl, rfl, rfl, rfl, rfl, rfl, rfl, trivial⟩ (lp_X12_termOf_104 _ _ (fun _ _ _ _ _ h9 => ih _ _ _ _ _ h9) _ _ _ _ _ _ _ _ hk)
          · rw [if_pos c_94] at he
            replace hk := hk.1 c_94
            refine r_aload_n rfl rfl ?_
            refine r_iconst_ (a := 1) rfl (by decide) ?_
            refine w_putZ rfl (cc_60 _) ff_12_49 ft_12_49 (by decide) (fun _ _ => (Nat.le_of_ble_eq_true rfl)) (fun _ _ => rfl) ?_
            refine r_iconst_ (a := 0) rfl (by decide) ?_
            refine r_iret rfl rfl rfl ?_
            first | with_reducible exact fin_i he | exact fin_i he
      · rw [if_neg c_23] at he
        replace hk := hk.2 c_23
        refine r_aload_n rfl rfl ?_
        refine q_getfield rfl (cc_60 _) rfl ?_
        refine r_iload_n rfl rfl ?_
        refine r_iload rfl rfl ?_
        refine r_if_ne rfl (fun c_33 => ?_) (fun c_33 => ?_)
        · rw [if_neg c_33] at he
          replace hk := hk.2 c_33
          refine r_aload_n rfl rfl ?_
          refine q_getfield rfl (cc_60 _) rfl ?_
          refine r_aload_n rfl rfl ?_
          refine q_getfield rfl (cc_60 _) rfl ?_
          refine r_iload rfl rfl ?_
          obtain ⟨hb8, hk⟩ := hk
          refine q_iald rfl (cc_90 _) hb8 ?_
          obtain ⟨hb9, hk⟩ := hk
          refine q_iald rfl (cc_92 _) hb9 ?_
          obtain ⟨hb10, hk⟩ := hk
          refine w_iast rfl (cc_93 _) hb10 ?_
          refine r_iinc (b := x3 + 1) rfl rfl rfl (Nat.le_of_ble_eq_true rfl) rfl ?_
          refine r_goto rfl ?_
          subst he
          exact r_weak (L1 := [some (.ref 60), none, some (.int x2), some (.int (x3 + 1)), some (.int x4), none, none, none]) ⟨rfl, rfl, rfl, rfl, trivial⟩ (lp_X12_termOf_159 _ _ (fun _ _ _ _ _ h9 => ih _ _ _ _ _ h9) _ _ _ _ _ hk)
        · rw [if_pos c_33] at he
          replace hk := hk.1 c_33
          refine r_aload_n rfl rfl ?_
          refine q_getfield rfl (cc_60 _) rfl ?_
          refine r_iload rfl rfl ?_
          obtain ⟨hb11, hk⟩ := hk
          refine q_iald rfl (cc_90 _) hb11 ?_
          refine r_goto rfl ?_
          obtain ⟨hb12, hk⟩ := hk
          refine w_iast rfl (cc_93 _) hb12 ?_
          refine r_iinc (b := x3 + 1) rfl rfl rfl (Nat.le_of_ble_eq_true rfl) rfl ?_
          refine r_goto rfl ?_
          subst he
          exact r_weak (L1 := [some (.ref 60), none, some (.int x2), some (.int (x3 + 1)), some (.int x4), none, none, none]) ⟨rfl, rfl, rfl, rfl, trivial⟩ (lp_X12_termOf_159 _ _ (fun _ _ _ _ _ h9 => ih _ _ _ _ _ h9) _ _ _ _ _ hk)

def f_X12_termOf (fu : Nat) (v0 : Int32) (v1 : Int32) (s : fl_I) (l : fl_L) : Int32 × fl_I × fl_L :=
  f_X12_termOf_5 fu fu v1 (0 : Int32) v0 s l

def p_X12_termOf (fu : Nat) (v0 : Int32) (v1 : Int32) (s : fl_I) (l : fl_L) : Prop :=
  p_X12_termOf_5 fu fu v1 (0 : Int32) v0 s l

set_option maxRecDepth 100000 in
set_option maxHeartbeats 1000000 in
theorem s_X12_termOf {G : ab_G} {fu : Nat} {d : Nat} {D : fl_D} {s : fl_I} {l : fl_L} {v0 : Int32} {v1 : Int32} (hk : p_X12_termOf fu v0 v1 s l) : ab_C G d 0 0 M_X12_termOf 0 (ab_ent [.ref 60, .int v0, .int v1]) [] (hp D s l) (rt (some (.int (f_X12_termOf fu v0 v1 s l).1)) (hp D (f_X12_termOf fu v0 v1 s l).2.1 (f_X12_termOf fu v0 v1 s l).2.2)) := by
  generalize he : (f_X12_termOf fu v0 v1 s l) = res
  unfold f_X12_termOf at he
  unfold p_X12_termOf at hk
  refine r_weak (L1 := [some (.ref 60), some (.int v0), some (.int v1), none, none, none, none, none]) ⟨rfl, rfl, rfl, trivial⟩ ?_
  refine r_iconst_ (a := 0) rfl (by decide) ?_
  refine r_istore_n rfl (Nat.le_of_ble_eq_true rfl) rfl ?_
  refine r_iload_n rfl rfl ?_
  refine r_istore rfl (Nat.le_of_ble_eq_true rfl) rfl ?_
  subst he
  exact r_weak (L1 := [some (.ref 60), none, some (.int v1), some (.int (0 : Int32)), some (.int v0), none, none, none]) ⟨rfl, rfl, rfl, rfl, trivial⟩ (lp_X12_termOf_5 fu _ _ _ _ _ hk)

