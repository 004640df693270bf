def f_X12_count_142 (fu : Nat) : Nat → Int32 → Int32 → fl_I → fl_L → Int32 × fl_I × fl_L
  | 0, x2, x3, s, l => (0, s, l)
  | n + 1, x2, x3, s, l =>
    if ((s 74 (s 60 18).toNatClampNeg) ≤ x3) then (x2, s, l) else f_X12_count_142 fu n (x2 + (f_X12_owedTo fu x3 s l).1) (x3 + 1) (f_X12_owedTo fu x3 s l).2.1 (f_X12_owedTo fu x3 s l).2.2

def p_X12_count_142 (fu : Nat) : Nat → Int32 → Int32 → fl_I → fl_L → Prop
  | 0, _, _, _, _ => False
  | n + 1, x2, x3, s, l =>
    (vp_in (s 60 18) 2) ∧ ((((s 74 (s 60 18).toNatClampNeg) ≤ x3) → True) ∧ (¬ ((s 74 (s 60 18).toNatClampNeg) ≤ x3) → (p_X12_owedTo fu x3 s l) ∧ p_X12_count_142 fu n (x2 + (f_X12_owedTo fu x3 s l).1) (x3 + 1) (f_X12_owedTo fu x3 s l).2.1 (f_X12_owedTo fu x3 s l).2.2))

set_option maxRecDepth 100000 in
set_option maxHeartbeats 1000000 in
theorem lp_X12_count_142 {G : ab_G} {fu : Nat} {d : Nat} {D : fl_D} : ∀ (n : Nat) (x2 : Int32) (x3 : Int32) (s : fl_I) (l : fl_L), p_X12_count_142 fu n x2 x3 s l → ab_C G (d + 4) 0 0 M_X12_count 142 [some (.ref 60), none, some (.int x2), some (.int x3)] [] (hp D s l) (rt (some (.int (f_X12_count_142 fu n x2 x3 s l).1)) (hp D (f_X12_count_142 fu n x2 x3 s l).2.1 (f_X12_count_142 fu n x2 x3 s l).2.2)) := by
  intro n
  induction n with
  | zero => intro x2 x3 s l hk; exact hk.elim
  | succ n ih =>
    intro x2 x3 s l hk
    generalize he : f_X12_count_142 fu (n + 1) x2 x3 s l = res
    unfold f_X12_count_142 at he
    unfold p_X12_count_142 at hk
    refine r_iload_n rfl rfl ?_
    refine r_aload_n rfl rfl ?_
    refine q_getfield rfl (cc_60 _) rfl ?_
    refine r_aload_n rfl rfl ?_
    refine q_getfield rfl (cc_60 _) rfl ?_
    obtain ⟨hb6, hk⟩ := hk
    refine q_iald rfl (cc_74 _) hb6 ?_
    refine r_icmp_ge rfl (fun c_152 => ?_) (fun c_152 => ?_)
    · rw [if_pos c_152] at he
      replace hk := hk.1 c_152
      refine r_iload_n rfl rfl ?_
      refine r_iret rfl rfl rfl ?_
      first | with_reducible exact fin_i he | exact fin_i he
    · rw [if_neg c_152] at he
      replace hk := hk.2 c_152
      refine r_iload_n rfl rfl ?_
      refine r_aload_n rfl rfl ?_
      refine r_iload_n rfl rfl ?_
      obtain ⟨hb7, hk⟩ := hk
      refine q_callV0 [_] _ rfl kY_X12_owedTo kT_X12_owedTo rfl rfl (Nat.le_of_ble_eq_true rfl) (Nat.le_of_ble_eq_true rfl) (cc_60 _) (s_X12_owedTo hb7) (fun r h q => ?_)
      obtain ⟨rfl, rfl⟩ := q
      simp only [Option.toList, List.cons_append, List.nil_append]
      refine r_iadd rfl ?_
      refine r_istore_n rfl (Nat.le_of_ble_eq_true rfl) rfl ?_
      refine r_iinc (b := x3 + 1) rfl rfl rfl (Nat.le_of_ble_eq_true rfl) rfl ?_
      refine r_goto rfl ?_
      subst he
      exact r_weak (L1 := [some (.ref 60), none, some (.int (x2 + (f_X12_owedTo fu x3 s l).1)), some (.int (x3 + 1))]) ⟨rfl, rfl, rfl, trivial⟩ (ih _ _ _ _ hk)

def f_X12_count_246 (fu : Nat) : Nat → Int32 → Int32 → fl_I → fl_L → Int32 × fl_I × fl_L
  | 0, x2, x3, s, l => (0, s, l)
  | n + 1, x2, x3, s, l =>
    if ((s 74 (s 60 18).toNatClampNeg) ≤ x3) then (x2, s, l) else if ((s 95 ((136 : Int32) + x3).toNatClampNeg) < 0) then f_X12_count_246 fu n x2 (x3 + 1) s l else f_X12_count_246 fu n (x2 ||| ((1 : Int32) <<< (x3 &&& 31))) (x3 + 1) s l

def p_X12_count_246 (fu : Nat) : Nat → Int32 → Int32 → fl_I → fl_L → Prop
  | 0, _, _, _, _ => False
  | n + 1, x2, x3, s, l =>
    (vp_in (s 60 18) 2) ∧ ((((s 74 (s 60 18).toNatClampNeg) ≤ x3) → True) ∧ (¬ ((s 74 (s 60 18).toNatClampNeg) ≤ x3) → (vp_in ((136 : Int32) + x3) 141) ∧ ((((s 95 ((136 : Int32) + x3).toNatClampNeg) < 0) → p_X12_count_246 fu n x2 (x3 + 1) s l) ∧ (¬ ((s 95 ((136 : Int32) + x3).toNatClampNeg) < 0) → p_X12_count_246 fu n (x2 ||| ((1 : Int32) <<< (x3 &&& 31))) (x3 + 1) s l))))

set_option maxRecDepth 100000 in
set_option maxHeartbeats 1000000 in
theorem lp_X12_count_246 {G : ab_G} {fu : Nat} {d : Nat} {D : fl_D} : ∀ (n : Nat) (x2 : Int32) (x3 : Int32) (s : fl_I) (l : fl_L), p_X12_count_246 fu n x2 x3 s l → ab_C G (d + 4) 0 0 M_X12_count 246 [some (.ref 60), none, some (.int x2), some (.int x3)] [] (hp D s l) (rt (some (.int (f_X12_count_246 fu n x2 x3 s l).1)) (hp D (f_X12_count_246 fu n x2 x3 s l).2.1 (f_X12_count_246 fu n x2 x3 s l).2.2)) := by
  intro n
  induction n with
  | zero => intro x2 x3 s l hk; exact hk.elim
  | succ n ih =>
    intro x2 x3 s l hk
    generalize he : f_X12_count_246 fu (n + 1) x2 x3 s l = res
    unfold f_X12_count_246 at he
    unfold p_X12_count_246 at hk
    refine r_iload_n rfl rfl ?_
    refine r_aload_n rfl rfl ?_
    refine q_getfield rfl (cc_60 _) rfl ?_
    refine r_aload_n rfl rfl ?_
    refine q_getfield rfl (cc_60 _) rfl ?_
    obtain ⟨hb9, hk⟩ := hk
    refine q_iald rfl (cc_74 _) hb9 ?_
    refine r_icmp_ge rfl (fun c_256 => ?_) (fun c_256 => ?_)
    · rw [if_pos c_256] at he
      replace hk := hk.1 c_256
      refine r_iload_n rfl rfl ?_
      refine r_iret rfl rfl rfl ?_
      first | with_reducible exact fin_i he | exact fin_i he
    · rw [if_neg c_256] at he
      replace hk := hk.2 c_256
      refine r_aload_n rfl rfl ?_
      refine q_getfield rfl (cc_60 _) rfl ?_
      refine r_sipush_ (a := 136) rfl (by decide) ?_
      refine r_iload_n rfl rfl ?_
      refine r_iadd rfl ?_
      obtain ⟨hb10, hk⟩ := hk
      refine q_iald rfl (cc_95 _) hb10 ?_
      refine r_if_lt rfl (fun c_269 => ?_) (fun c_269 => ?_)
      · rw [if_pos c_269] at he
        replace hk := hk.1 c_269
        refine r_iinc (b := x3 + 1) rfl rfl rfl (Nat.le_of_ble_eq_true rfl) rfl ?_
        refine r_goto rfl ?_
        subst he
        exact r_weak (L1 := [some (.ref 60), none, some (.int x2), some (.int (x3 + 1))]) ⟨rfl, rfl, rfl, trivial⟩ (ih _ _ _ _ hk)
      · rw [if_neg c_269] at he
        replace hk := hk.2 c_269
        refine r_iload_n rfl rfl ?_
        refine r_iconst_ (a := 1) rfl (by decide) ?_
        refine r_iload_n rfl rfl ?_
        refine r_ishl rfl ?_
        refine r_ior rfl ?_
        refine r_istore_n rfl (Nat.le_of_ble_eq_true rfl) rfl ?_
        refine r_iinc (b := x3 + 1) rfl rfl rfl (Nat.le_of_ble_eq_true rfl) rfl ?_
        refine r_goto rfl ?_
        subst he
        exact r_weak (L1 := [some (.ref 60), none, some (.int (x2 ||| ((1 : Int32) <<< (x3 &&& 31)))), some (.int (x3 + 1))]) ⟨rfl, rfl, rfl, trivial⟩ (ih _ _ _ _ hk)

def f_X12_count_288 (fu : Nat) : Nat → Int32 → Int32 → fl_I → fl_L → Int32 × fl_I × fl_L
  | 0, x2, x3, s, l => (0, s, l)
  | n + 1, x2, x3, s, l =>
    if ((s 74 (s 60 18).toNatClampNeg) ≤ x3) then (x2, s, l) else if ((f_X12_inHat fu x3 s l) = (s 78 (((4 : Int32) * (s 60 18)) + x3).toNatClampNeg)) then f_X12_count_288 fu n (x2 ||| ((1 : Int32) <<< (x3 &&& 31))) (x3 + 1) s l else f_X12_count_288 fu n x2 (x3 + 1) s l

def p_X12_count_288 (fu : Nat) : Nat → Int32 → Int32 → fl_I → fl_L → Prop
  | 0, _, _, _, _ => False
  | n + 1, x2, x3, s, l =>
    (vp_in (s 60 18) 2) ∧ ((((s 74 (s 60 18).toNatClampNeg) ≤ x3) → True) ∧ (¬ ((s 74 (s 60 18).toNatClampNeg) ≤ x3) → (p_X12_inHat fu x3 s l) ∧ (vp_in (((4 : Int32) * (s 60 18)) + x3) 8) ∧ ((((f_X12_inHat fu x3 s l) = (s 78 (((4 : Int32) * (s 60 18)) + x3).toNatClampNeg)) → p_X12_count_288 fu n (x2 ||| ((1 : Int32) <<< (x3 &&& 31))) (x3 + 1) s l) ∧ (¬ ((f_X12_inHat fu x3 s l) = (s 78 (((4 : Int32) * (s 60 18)) + x3).toNatClampNeg)) → p_X12_count_288 fu n x2 (x3 + 1) s l))))

set_option maxRecDepth 100000 in
set_option maxHeartbeats 1000000 in
theorem lp_X12_count_288 {G : ab_G} {fu : Nat} {d : Nat} {D : fl_D} : ∀ (n : Nat) (x2 : Int32) (x3 : Int32) (s : fl_I) (l : fl_L), p_X12_count_288 fu n x2 x3 s l → ab_C G (d + 4) 0 0 M_X12_count 288 [some (.ref 60), none, some (.int x2), some (.int x3)] [] (hp D s l) (rt (some (.int (f_X12_count_288 fu n x2 x3 s l).1)) (hp D (f_X12_count_288 fu n x2 x3 s l).2.1 (f_X12_count_288 fu n x2 x3 s l).2.2)) := by
  intro n
  induction n with
  | zero => intro x2 x3 s l hk; exact hk.elim
  | succ n ih =>
    intro x2 x3 s l hk
    generalize he : f_X12_count_288 fu (n + 1) x2 x3 s l = res
    unfold f_X12_count_288 at he
    unfold p_X12_count_288 at hk
    refine r_iload_n rfl rfl ?_
    refine r_aload_n rfl rfl ?_
    refine q_getfield rfl (cc_60 _) rfl ?_
    refine r_aload_n rfl rfl ?_
    refine q_getfield rfl (cc_60 _) rfl ?_
    obtain ⟨hb11, hk⟩ := hk
    refine q_iald rfl (cc_74 _) hb11 ?_
    refine r_icmp_ge rfl (fun c_298 => ?_) (fun c_298 => ?_)
    · rw [if_pos c_298] at he
      replace hk := hk.1 c_298
      refine r_iload_n rfl rfl ?_
      refine r_iret rfl rfl rfl ?_
      first | with_reducible exact fin_i he | exact fin_i he
    · rw [if_neg c_298] at he
      replace hk := hk.2 c_298
      refine r_aload_n rfl rfl ?_
      refine r_iload_n rfl rfl ?_
      obtain ⟨hb12, hk⟩ := hk
      refine q_callV0 [_] _ rfl kY_X12_inHat kT_X12_inHat rfl rfl (Nat.le_of_ble_eq_true rfl) (Nat.le_of_ble_eq_true rfl) (cc_60 _) (s_X12_inHat hb12) (fun r h q => ?_)
      obtain ⟨rfl, rfl⟩ := q
      simp only [Option.toList, List.cons_append, List.nil_append]
      refine r_aload_n rfl rfl ?_
      refine q_getfield rfl (cc_60 _) rfl ?_
      refine r_iconst_ (a := 4) rfl (by decide) ?_
      refine r_aload_n rfl rfl ?_
      refine q_getfield rfl (cc_60 _) rfl ?_
      refine r_imul rfl ?_
      refine r_iload_n rfl rfl ?_
      refine r_iadd rfl ?_
      obtain ⟨hb13, hk⟩ := hk
      refine q_iald rfl (cc_78 _) hb13 ?_
      refine r_icmp_ne rfl (fun c_319 => ?_) (fun c_319 => ?_)
      · rw [if_neg c_319] at he
        replace hk := hk.2 c_319
        refine r_iinc (b := x3 + 1) rfl rfl rfl (Nat.le_of_ble_eq_true rfl) rfl ?_
        refine r_goto rfl ?_
        subst he
        exact r_weak (L1 := [some (.ref 60), none, some (.int x2), some (.int (x3 + 1))]) ⟨rfl, rfl, rfl, trivial⟩ (ih _ _ _ _ hk)
      · rw [if_pos c_319] at he
        replace hk := hk.1 c_319
        refine r_iload_n rfl rfl ?_
        refine r_iconst_ (a := 1) rfl (by decide) ?_
        refine r_iload_n rfl rfl ?_
        refine r_ishl rfl ?_
        refine r_ior rfl ?_
        refine r_istore_n rfl (Nat.le_of_ble_eq_true rfl) rfl ?_
        refine r_iinc (b := x3 + 1) rfl rfl rfl (Nat.le_of_ble_eq_true rfl) rfl ?_
        refine r_goto rfl ?_
        subst he
        exact r_weak (L1 := [some (.ref 60), none, some (.int (x2 ||| ((1 : Int32) <<< (x3 &&& 31)))), some (.int (x3 + 1))]) ⟨rfl, rfl, rfl, trivial⟩ (ih _ _ _ _ hk)

def f_X12_count (fu : Nat) (v0 : Int32) (s : fl_I) (l : fl_L) : Int32 × fl_I × fl_L :=
  if (v0 = 0) then (((f_X12_copies fu s l).1 68 ((f_X12_copies fu s l).1 60 18).toNatClampNeg), (f_X12_copies fu s l).1, (f_X12_copies fu s l).2) else if (v0 = 1) then (((f_X12_copies fu s l).1 60 54), (f_X12_copies fu s l).1, (f_X12_copies fu s l).2) else if (v0 = 2) then (((f_X12_copies fu s l).1 72 ((f_X12_copies fu s l).1 60 18).toNatClampNeg), (f_X12_copies fu s l).1, (f_X12_copies fu s l).2) else if (v0 = 3) then (((f_X12_copies fu s l).1 74 ((f_X12_copies fu s l).1 60 18).toNatClampNeg), (f_X12_copies fu s l).1, (f_X12_copies fu s l).2) else if (v0 = 4) then (((f_X12_copies fu s l).1 95 (140 : Int32).toNatClampNeg), (f_X12_copies fu s l).1, (f_X12_copies fu s l).2) else if (v0 = 5) then ((f_X12_lieMany fu (f_X12_copies fu s l).1 (f_X12_copies fu s l).2), (f_X12_copies fu s l).1, (f_X12_copies fu s l).2) else if (v0 = 6) then (((f_X12_fillsCells fu (-1 : Int32) (-1 : Int32) (f_X12_copies fu s l).1 (f_X12_copies fu s l).2).1 60 60), (f_X12_fillsCells fu (-1 : Int32) (-1 : Int32) (f_X12_copies fu s l).1 (f_X12_copies fu s l).2).1, (f_X12_fillsCells fu (-1 : Int32) (-1 : Int32) (f_X12_copies fu s l).1 (f_X12_copies fu s l).2).2) else if (v0 = 7) then f_X12_count_142 fu fu (0 : Int32) (0 : Int32) (f_X12_copies fu s l).1 (f_X12_copies fu s l).2 else if (v0 = 8) then (((f_X12_copies fu s l).1 60 2), (f_X12_copies fu s l).1, (f_X12_copies fu s l).2) else if (v0 = 9) then (((f_X12_copies fu s l).1 60 58), (f_X12_copies fu s l).1, (f_X12_copies fu s l).2) else if (v0 = 10) then (((f_X12_copies fu s l).1 60 65), (f_X12_copies fu s l).1, (f_X12_copies fu s l).2) else if (v0 = 11) then if (((f_X12_copies fu s l).1 105 (0 : Int32).toNatClampNeg) = 0) then if (((f_X12_copies fu s l).1 105 (1 : Int32).toNatClampNeg) = 0) then if (((f_X12_copies fu s l).1 105 (2 : Int32).toNatClampNeg) = 0) then ((((0 : Int32) + (0 : Int32)) + (0 : Int32)), (f_X12_copies fu s l).1, (f_X12_copies fu s l).2) else ((((0 : Int32) + (0 : Int32)) + (1 : Int32)), (f_X12_copies fu s l).1, (f_X12_copies fu s l).2) else if (((f_X12_copies fu s l).1 105 (2 : Int32).toNatClampNeg) = 0) then ((((0 : Int32) + (1 : Int32)) + (0 : Int32)), (f_X12_copies fu s l).1, (f_X12_copies fu s l).2) else ((((0 : Int32) + (1 : Int32)) + (1 : Int32)), (f_X12_copies fu s l).1, (f_X12_copies fu s l).2) else if (((f_X12_copies fu s l).1 105 (1 : Int32).toNatClampNeg) = 0) then if (((f_X12_copies fu s l).1 105 (2 : Int32).toNatClampNeg) = 0) then ((((1 : Int32) + (0 : Int32)) + (0 : Int32)), (f_X12_copies fu s l).1, (f_X12_copies fu s l).2) else ((((1 : Int32) + (0 : Int32)) + (1 : Int32)), (f_X12_copies fu s l).1, (f_X12_copies fu s l).2) else if (((f_X12_copies fu s l).1 105 (2 : Int32).toNatClampNeg) = 0) then ((((1 : Int32) + (1 : Int32)) + (0 : Int32)), (f_X12_copies fu s l).1, (f_X12_copies fu s l).2) else ((((1 : Int32) + (1 : Int32)) + (1 : Int32)), (f_X12_copies fu s l).1, (f_X12_copies fu s l).2) else if (v0 = 12) then if ((f_X12_isRain fu (f_X12_copies fu s l).1 (f_X12_copies fu s l).2) = 0) then ((0 : Int32), (f_X12_copies fu s l).1, (f_X12_copies fu s l).2) else ((1 : Int32), (f_X12_copies fu s l).1, (f_X12_copies fu s l).2) else if (v0 = 13) then f_X12_count_246 fu fu (0 : Int32) (0 : Int32) (f_X12_copies fu s l).1 (f_X12_copies fu s l).2 else if (v0 = 14) then f_X12_count_288 fu fu (0 : Int32) (0 : Int32) (f_X12_copies fu s l).1 (f_X12_copies fu s l).2 else ((-1 : Int32), (f_X12_copies fu s l).1, (f_X12_copies fu s l).2)

def p_X12_count (fu : Nat) (v0 : Int32) (s : fl_I) (l : fl_L) : Prop :=
  (p_X12_copies fu s l) ∧ (((v0 = 0) → (vp_in ((f_X12_copies fu s l).1 60 18) 2) ∧ True) ∧ (¬ (v0 = 0) → (((v0 = 1) → True) ∧ (¬ (v0 = 1) → (((v0 = 2) → (vp_in ((f_X12_copies fu s l).1 60 18) 2) ∧ True) ∧ (¬ (v0 = 2) → (((v0 = 3) → (vp_in ((f_X12_copies fu s l).1 60 18) 2) ∧ True) ∧ (¬ (v0 = 3) → (((v0 = 4) → True) ∧ (¬ (v0 = 4) → (((v0 = 5) → (p_X12_lieMany fu (f_X12_copies fu s l).1 (f_X12_copies fu s l).2) ∧ True) ∧ (¬ (v0 = 5) → (((v0 = 6) → (p_X12_fillsCells fu (-1 : Int32) (-1 : Int32) (f_X12_copies fu s l).1 (f_X12_copies fu s l).2) ∧ True) ∧ (¬ (v0 = 6) → (((v0 = 7) → p_X12_count_142 fu fu (0 : Int32) (0 : Int32) (f_X12_copies fu s l).1 (f_X12_copies fu s l).2) ∧ (¬ (v0 = 7) → (((v0 = 8) → True) ∧ (¬ (v0 = 8) → (((v0 = 9) → True) ∧ (¬ (v0 = 9) → (((v0 = 10) → True) ∧ (¬ (v0 = 10) → (((v0 = 11) → (((((f_X12_copies fu s l).1 105 (0 : Int32).toNatClampNeg) = 0) → (((((f_X12_copies fu s l).1 105 (1 : Int32).toNatClampNeg) = 0) → (((((f_X12_copies fu s l).1 105 (2 : Int32).toNatClampNeg) = 0) → True) ∧ (¬ (((f_X12_copies fu s l).1 105 (2 : Int32).toNatClampNeg) = 0) → True))) ∧ (¬ (((f_X12_copies fu s l).1 105 (1 : Int32).toNatClampNeg) = 0) → (((((f_X12_copies fu s l).1 105 (2 : Int32).toNatClampNeg) = 0) → True) ∧ (¬ (((f_X12_copies fu s l).1 105 (2 : Int32).toNatClampNeg) = 0) → True))))) ∧ (¬ (((f_X12_copies fu s l).1 105 (0 : Int32).toNatClampNeg) = 0) → (((((f_X12_copies fu s l).1 105 (1 : Int32).toNatClampNeg) = 0) → (((((f_X12_copies fu s l).1 105 (2 : Int32).toNatClampNeg) = 0) → True) ∧ (¬ (((f_X12_copies fu s l).1 105 (2 : Int32).toNatClampNeg) = 0) → True))) ∧ (¬ (((f_X12_copies fu s l).1 105 (1 : Int32).toNatClampNeg) = 0) → (((((f_X12_copies fu s l).1 105 (2 : Int32).toNatClampNeg) = 0) → True) ∧ (¬ (((f_X12_copies fu s l).1 105 (2 : Int32).toNatClampNeg) = 0) → True))))))) ∧ (¬ (v0 = 11) → (((v0 = 12) → (p_X12_isRain fu (f_X12_copies fu s l).1 (f_X12_copies fu s l).2) ∧ ((((f_X12_isRain fu (f_X12_copies fu s l).1 (f_X12_copies fu s l).2) = 0) → True) ∧ (¬ ((f_X12_isRain fu (f_X12_copies fu s l).1 (f_X12_copies fu s l).2) = 0) → True))) ∧ (¬ (v0 = 12) → (((v0 = 13) → p_X12_count_246 fu fu (0 : Int32) (0 : Int32) (f_X12_copies fu s l).1 (f_X12_copies fu s l).2) ∧ (¬ (v0 = 13) → (((v0 = 14) → p_X12_count_288 fu fu (0 : Int32) (0 : Int32) (f_X12_copies fu s l).1 (f_X12_copies fu s l).2) ∧ (¬ (v0 = 14) → True))))))))))))))))))))))))))))))

set_option maxRecDepth 100000 in
set_option maxHeartbeats 1000000 in
theorem s_X12_count {G : ab_G} {fu : Nat} {d : Nat} {D : fl_D} {s : fl_I} {l : fl_L} {v0 : Int32} (hk : p_X12_count fu v0 s l) : ab_C G (d + 4) 0 0 M_X12_count 0 (ab_ent [.ref 60, .int v0]) [] (hp D s l) (rt (some (.int (f_X12_count fu v0 s l).1)) (hp D (f_X12_count fu v0 s l).2.1 (f_X12_count fu v0 s l).2.2)) := by
  generalize he : (f_X12_count fu v0 s l) = res
  unfold f_X12_count at he
  unfold p_X12_count at hk
  refine r_weak (L1 := [some (.ref 60), some (.int v0), none, none]) ⟨rfl, rfl, trivial⟩ ?_
  refine r_aload_n rfl rfl ?_
  obtain ⟨hb0, hk⟩ := hk
  refine q_callV0 [] _ rfl kY_X12_copies kT_X12_copies rfl rfl (Nat.le_of_ble_eq_true rfl) (Nat.le_of_ble_eq_true rfl) (cc_60 _) (s_X12_copies hb0) (fun r h q => ?_)
  obtain ⟨rfl, rfl⟩ := q
  simp only [Option.toList, List.cons_append, List.nil_append]
  refine r_iconst_ (a := 0) rfl (by decide) ?_
  refine r_istore_n rfl (Nat.le_of_ble_eq_true rfl) rfl ?_
  refine r_iload_n rfl rfl ?_
  by_cases c_7_0 : (v0 = 0)
  · rw [if_pos c_7_0] at he
    replace hk := hk.1 c_7_0
    refine r_tableIn (tgt := 80) rfl (by rw [c_7_0]; decide) (by rw [c_7_0]; decide) (by rw [c_7_0]; rfl) (by decide) ?_
    refine r_aload_n rfl rfl ?_
    refine q_getfield rfl (cc_60 _) rfl ?_
    refine r_aload_n rfl rfl ?_
    refine q_getfield rfl (cc_60 _) rfl ?_
    obtain ⟨hb1, hk⟩ := hk
    refine q_iald rfl (cc_68 _) hb1 ?_
    refine r_iret rfl rfl rfl ?_
    first | with_reducible exact fin_i he | exact fin_i he
  · rw [if_neg c_7_0] at he
    replace hk := hk.2 c_7_0
    by_cases c_7_1 : (v0 = 1)
    · rw [if_pos c_7_1] at he
      replace hk := hk.1 c_7_1
      refine r_tableIn (tgt := 90) rfl (by rw [c_7_1]; decide) (by rw [c_7_1]; decide) (by rw [c_7_1]; rfl) (by decide) ?_
      refine r_aload_n rfl rfl ?_
      refine q_getfield rfl (cc_60 _) rfl ?_
      refine r_iret rfl rfl rfl ?_
      first | with_reducible exact fin_i he | exact fin_i he
    · rw [if_neg c_7_1] at he
      replace hk := hk.2 c_7_1
      by_cases c_7_2 : (v0 = 2)
      · rw [if_pos c_7_2] at he
        replace hk := hk.1 c_7_2
        refine r_tableIn (tgt := 95) rfl (by rw [c_7_2]; decide) (by rw [c_7_2]; decide) (by rw [c_7_2]; rfl) (by decide) ?_
        refine r_aload_n rfl rfl ?_
        refine q_getfield rfl (cc_60 _) rfl ?_
        refine r_aload_n rfl rfl ?_
        refine q_getfield rfl (cc_60 _) rfl ?_
        obtain ⟨hb2, hk⟩ := hk
        refine q_iald rfl (cc_72 _) hb2 ?_
        refine r_iret rfl rfl rfl ?_
        first | with_reducible exact fin_i he | exact fin_i he
      · rw [if_neg c_7_2] at he
        replace hk := hk.2 c_7_2
        by_cases c_7_3 : (v0 = 3)
        · rw [if_pos c_7_3] at he
          replace hk := hk.1 c_7_3
          refine r_tableIn (tgt := 105) rfl (by rw [c_7_3]; decide) (by rw [c_7_3]; decide) (by rw [c_7_3]; rfl) (by decide) ?_
          refine r_aload_n rfl rfl ?_
          refine q_getfield rfl (cc_60 _) rfl ?_
          refine r_aload_n rfl rfl ?_
          refine q_getfield rfl (cc_60 _) rfl ?_
          obtain ⟨hb3, hk⟩ := hk
          refine q_iald rfl (cc_74 _) hb3 ?_
          refine r_iret rfl rfl rfl ?_
          first | with_reducible exact fin_i he | exact fin_i he
        · rw [if_neg c_7_3] at he
          replace hk := hk.2 c_7_3
          by_cases c_7_4 : (v0 = 4)
          · rw [if_pos c_7_4] at he
            replace hk := hk.1 c_7_4
            refine r_tableIn (tgt := 115) rfl (by rw [c_7_4]; decide) (by rw [c_7_4]; decide) (by rw [c_7_4]; rfl) (by decide) ?_
            refine r_aload_n rfl rfl ?_
            refine q_getfield rfl (cc_60 _) rfl ?_
            refine r_sipush_ (a := 140) rfl (by decide) ?_
            refine q_iald rfl (cc_95 _) (by unfold vp_in; decide) ?_
            refine r_iret rfl rfl rfl ?_
            first | with_reducible exact fin_i he | exact fin_i he
          · rw [if_neg c_7_4] at he
            replace hk := hk.2 c_7_4
            by_cases c_7_5 : (v0 = 5)
            · rw [if_pos c_7_5] at he
              replace hk := hk.1 c_7_5
              refine r_tableIn (tgt := 124) rfl (by rw [c_7_5]; decide) (by rw [c_7_5]; decide) (by rw [c_7_5]; rfl) (by decide) ?_
              refine r_aload_n rfl rfl ?_
              obtain ⟨hb4, hk⟩ := hk
              refine q_callV0 [] _ rfl kY_X12_lieMany kT_X12_lieMany rfl rfl (Nat.le_of_ble_eq_true rfl) (Nat.le_of_ble_eq_true rfl) (cc_60 _) (s_X12_lieMany hb4) (fun r h q => ?_)
              obtain ⟨rfl, rfl⟩ := q
              simp only [Option.toList, List.cons_append, List.nil_append]
              refine r_iret rfl rfl rfl ?_
              first | with_reducible exact fin_i he | exact fin_i he
            · rw [if_neg c_7_5] at he
              replace hk := hk.2 c_7_5
              by_cases c_7_6 : (v0 = 6)
              · rw [if_pos c_7_6] at he
                replace hk := hk.1 c_7_6
                refine r_tableIn (tgt := 129) rfl (by rw [c_7_6]; decide) (by rw [c_7_6]; decide) (by rw [c_7_6]; rfl) (by decide) ?_
                refine r_aload_n rfl rfl ?_
                refine r_iconst_ (a := -1) rfl (by decide) ?_
                refine r_iconst_ (a := -1) rfl (by decide) ?_
                obtain ⟨hb5, hk⟩ := hk
                refine q_callV0 [_, _] _ rfl kY_X12_fillsCells kT_X12_fillsCells rfl rfl (Nat.le_of_ble_eq_true rfl) (Nat.le_of_ble_eq_true rfl) (cc_60 _) (s_X12_fillsCells hb5) (fun r h q => ?_)
                obtain ⟨rfl, rfl⟩ := q
                simp only [Option.toList, List.cons_append, List.nil_append]
                refine r_aload_n rfl rfl ?_
                refine q_getfield rfl (cc_60 _) rfl ?_
                refine r_iret rfl rfl rfl ?_
                first | with_reducible exact fin_i he | exact fin_i he
              · rw [if_neg c_7_6] at he
                replace hk := hk.2 c_7_6
                by_cases c_7_7 : (v0 = 7)
                · rw [if_pos c_7_7] at he
                  replace hk := hk.1 c_7_7
                  refine r_tableIn (tgt := 140) rfl (by rw [c_7_7]; decide) (by rw [c_7_7]; decide) (by rw [c_7_7]; rfl) (by decide) ?_
                  refine r_iconst_ (a := 0) rfl (by decide) ?_
                  refine r_istore_n rfl (Nat.le_of_ble_eq_true rfl) rfl ?_
                  subst he
                  exact r_weak (L1 := [some (.ref 60), none, some (.int (0 : Int32)), some (.int (0 : Int32))]) ⟨rfl, rfl, rfl, trivial⟩ (lp_X12_count_142 fu _ _ _ _ hk)
                · rw [if_neg c_7_7] at he
                  replace hk := hk.2 c_7_7
                  by_cases c_7_8 : (v0 = 8)
                  · rw [if_pos c_7_8] at he
                    replace hk := hk.1 c_7_8
                    refine r_tableIn (tgt := 171) rfl (by rw [c_7_8]; decide) (by rw [c_7_8]; decide) (by rw [c_7_8]; rfl) (by decide) ?_
                    refine r_aload_n rfl rfl ?_
                    refine q_getfield rfl (cc_60 _) rfl ?_
                    refine r_iret rfl rfl rfl ?_
                    first | with_reducible exact fin_i he | exact fin_i he
                  · rw [if_neg c_7_8] at he
                    replace hk := hk.2 c_7_8
                    by_cases c_7_9 : (v0 = 9)
                    · rw [if_pos c_7_9] at he
                      replace hk := hk.1 c_7_9
                      refine r_tableIn (tgt := 176) rfl (by rw [c_7_9]; decide) (by rw [c_7_9]; decide) (by rw [c_7_9]; rfl) (by decide) ?_
                      refine r_aload_n rfl rfl ?_
                      refine q_getfield rfl (cc_60 _) rfl ?_
                      refine r_iret rfl rfl rfl ?_
                      first | with_reducible exact fin_i he | exact fin_i he
                    · rw [if_neg c_7_9] at he
                      replace hk := hk.2 c_7_9
                      by_cases c_7_10 : (v0 = 10)
                      · rw [if_pos c_7_10] at he
                        replace hk := hk.1 c_7_10
                        refine r_tableIn (tgt := 181) rfl (by rw [c_7_10]; decide) (by rw [c_7_10]; decide) (by rw [c_7_10]; rfl) (by decide) ?_
                        refine r_aload_n rfl rfl ?_
                        refine q_getfield rfl (cc_60 _) rfl ?_
                        refine r_iret rfl rfl rfl ?_
                        first | with_reducible exact fin_i he | exact fin_i he
                      · rw [if_neg c_7_10] at he
                        replace hk := hk.2 c_7_10
                        by_cases c_7_11 : (v0 = 11)
                        · rw [if_pos c_7_11] at he
                          replace hk := hk.1 c_7_11
                          refine r_tableIn (tgt := 186) rfl (by rw [c_7_11]; decide) (by rw [c_7_11]; decide) (by rw [c_7_11]; rfl) (by decide) ?_
                          refine r_aload_n rfl rfl ?_
                          refine q_getfield rfl (cc_60 _) rfl ?_
                          refine r_iconst_ (a := 0) rfl (by decide) ?_
                          refine q_zald rfl (cc_105 _) (by unfold vp_in; decide) ?_
                          refine r_if_eq rfl (fun c_192 => ?_) (fun c_192 => ?_)
                          · rw [if_pos c_192] at he
                            replace hk := hk.1 c_192
                            refine r_iconst_ (a := 0) rfl (by decide) ?_
                            refine r_aload_n rfl rfl ?_
                            refine q_getfield rfl (cc_60 _) rfl ?_
                            refine r_iconst_ (a := 1) rfl (by decide) ?_
                            refine q_zald rfl (cc_105 _) (by unfold vp_in; decide) ?_
                            refine r_if_eq rfl (fun c_206 => ?_) (fun c_206 => ?_)
                            · rw [if_pos c_206] at he
                              replace hk := hk.1 c_206
                              refine r_iconst_ (a := 0) rfl (by decide) ?_
                              refine r_iadd rfl ?_
                              refine r_aload_n rfl rfl ?_
                              refine q_getfield rfl (cc_60 _) rfl ?_
                              refine r_iconst_ (a := 2) rfl (by decide) ?_
                              refine q_zald rfl (cc_105 _) (by unfold vp_in; decide) ?_
                              refine r_if_eq rfl (fun c_221 => ?_) (fun c_221 => ?_)
                              · rw [if_pos c_221] at he
                                replace hk := hk.1 c_221
                                refine r_iconst_ (a := 0) rfl (by decide) ?_
                                refine r_iadd rfl ?_
                                refine r_iret rfl rfl rfl ?_
                                first | with_reducible exact fin_i he | exact fin_i he
                              · rw [if_neg c_221] at he
                                replace hk := hk.2 c_221
                                refine r_iconst_ (a := 1) rfl (by decide) ?_
                                refine r_goto rfl ?_
                                refine r_iadd rfl ?_
                                refine r_iret rfl rfl rfl ?_
                                first | with_reducible exact fin_i he | exact fin_i he
                            · rw [if_neg c_206] at he
                              replace hk := hk.2 c_206
                              refine r_iconst_ (a := 1) rfl (by decide) ?_
                              refine r_goto rfl ?_
                              refine r_iadd rfl ?_
                              refine r_aload_n rfl rfl ?_
                              refine q_getfield rfl (cc_60 _) rfl ?_
                              refine r_iconst_ (a := 2) rfl (by decide) ?_
                              refine q_zald rfl (cc_105 _) (by unfold vp_in; decide) ?_
                              refine r_if_eq rfl (fun c_221 => ?_) (fun c_221 => ?_)
                              · rw [if_pos c_221] at he
                                replace hk := hk.1 c_221
                                refine r_iconst_ (a := 0) rfl (by decide) ?_
                                refine r_iadd rfl ?_
                                refine r_iret rfl rfl rfl ?_
                                first | with_reducible exact fin_i he | exact fin_i he
                              · rw [if_neg c_221] at he
                                replace hk := hk.2 c_221
                                refine r_iconst_ (a := 1) rfl (by decide) ?_
                                refine r_goto rfl ?_
                                refine r_iadd rfl ?_
                                refine r_iret rfl rfl rfl ?_
                                first | with_reducible exact fin_i he | exact fin_i he
                          · rw [if_neg c_192] at he
                            replace hk := hk.2 c_192
                            refine r_iconst_ (a := 1) rfl (by decide) ?_
                            refine r_goto rfl ?_
                            refine r_aload_n rfl rfl ?_
                            refine q_getfield rfl (cc_60 _) rfl ?_
                            refine r_iconst_ (a := 1) rfl (by decide) ?_
                            refine q_zald rfl (cc_105 _) (by unfold vp_in; decide) ?_
                            refine r_if_eq rfl (fun c_206 => ?_) (fun c_206 => ?_)
                            · rw [if_pos c_206] at he
                              replace hk := hk.1 c_206
                              refine r_iconst_ (a := 0) rfl (by decide) ?_
                              refine r_iadd rfl ?_
                              refine r_aload_n rfl rfl ?_
                              refine q_getfield rfl (cc_60 _) rfl ?_
                              refine r_iconst_ (a := 2) rfl (by decide) ?_
                              refine q_zald rfl (cc_105 _) (by unfold vp_in; decide) ?_
                              refine r_if_eq rfl (fun c_221 => ?_) (fun c_221 => ?_)
                              · rw [if_pos c_221] at he
                                replace hk := hk.1 c_221
                                refine r_iconst_ (a := 0) rfl (by decide) ?_
                                refine r_iadd rfl ?_
                                refine r_iret rfl rfl rfl ?_
                                first | with_reducible exact fin_i he | exact fin_i he
                              · rw [if_neg c_221] at he
                                replace hk := hk.2 c_221
                                refine r_iconst_ (a := 1) rfl (by decide) ?_
                                refine r_goto rfl ?_
                                refine r_iadd rfl ?_
                                refine r_iret rfl rfl rfl ?_
                                first | with_reducible exact fin_i he | exact fin_i he
                            · rw [if_neg c_206] at he
                              replace hk := hk.2 c_206
                              refine r_iconst_ (a := 1) rfl (by decide) ?_
                              refine r_goto rfl ?_
                              refine r_iadd rfl ?_
                              refine r_aload_n rfl rfl ?_
                              refine q_getfield rfl (cc_60 _) rfl ?_
                              refine r_iconst_ (a := 2) rfl (by decide) ?_
                              refine q_zald rfl (cc_105 _) (by unfold vp_in; decide) ?_
                              refine r_if_eq rfl (fun c_221 => ?_) (fun c_221 => ?_)
                              · rw [if_pos c_221] at he
                                replace hk := hk.1 c_221
                                refine r_iconst_ (a := 0) rfl (by decide) ?_
                                refine r_iadd rfl ?_
                                refine r_iret rfl rfl rfl ?_
                                first | with_reducible exact fin_i he | exact fin_i he
                              · rw [if_neg c_221] at he
                                replace hk := hk.2 c_221
                                refine r_iconst_ (a := 1) rfl (by decide) ?_
                                refine r_goto rfl ?_
                                refine r_iadd rfl ?_
                                refine r_iret rfl rfl rfl ?_
                                first | with_reducible exact fin_i he | exact fin_i he
                        · rw [if_neg c_7_11] at he
                          replace hk := hk.2 c_7_11
                          by_cases c_7_12 : (v0 = 12)
                          · rw [if_pos c_7_12] at he
                            replace hk := hk.1 c_7_12
                            refine r_tableIn (tgt := 231) rfl (by rw [c_7_12]; decide) (by rw [c_7_12]; decide) (by rw [c_7_12]; rfl) (by decide) ?_
                            refine r_aload_n rfl rfl ?_
                            obtain ⟨hb8, hk⟩ := hk
                            refine q_callV0 [] _ rfl kY_X12_isRain kT_X12_isRain rfl rfl (Nat.le_of_ble_eq_true rfl) (Nat.le_of_ble_eq_true rfl) (cc_60 _) (s_X12_isRain hb8) (fun r h q => ?_)
                            obtain ⟨rfl, rfl⟩ := q
                            simp only [Option.toList, List.cons_append, List.nil_append]
                            refine r_if_eq rfl (fun c_235 => ?_) (fun c_235 => ?_)
                            · rw [if_pos c_235] at he
                              replace hk := hk.1 c_235
                              refine r_iconst_ (a := 0) rfl (by decide) ?_
                              refine r_iret rfl rfl rfl ?_
                              first | with_reducible exact fin_i he | exact fin_i he
                            · rw [if_neg c_235] at he
                              replace hk := hk.2 c_235
                              refine r_iconst_ (a := 1) rfl (by decide) ?_
                              refine r_goto rfl ?_
                              refine r_iret rfl rfl rfl ?_
                              first | with_reducible exact fin_i he | exact fin_i he
                          · rw [if_neg c_7_12] at he
                            replace hk := hk.2 c_7_12
                            by_cases c_7_13 : (v0 = 13)
                            · rw [if_pos c_7_13] at he
                              replace hk := hk.1 c_7_13
                              refine r_tableIn (tgt := 244) rfl (by rw [c_7_13]; decide) (by rw [c_7_13]; decide) (by rw [c_7_13]; rfl) (by decide) ?_
                              refine r_iconst_ (a := 0) rfl (by decide) ?_
                              refine r_istore_n rfl (Nat.le_of_ble_eq_true rfl) rfl ?_
                              subst he
                              exact r_weak (L1 := [some (.ref 60), none, some (.int (0 : Int32)), some (.int (0 : Int32))]) ⟨rfl, rfl, rfl, trivial⟩ (lp_X12_count_246 fu _ _ _ _ hk)
                            · rw [if_neg c_7_13] at he
                              replace hk := hk.2 c_7_13
                              by_cases c_7_14 : (v0 = 14)
                              · rw [if_pos c_7_14] at he
                                replace hk := hk.1 c_7_14
                                refine r_tableIn (tgt := 286) rfl (by rw [c_7_14]; decide) (by rw [c_7_14]; decide) (by rw [c_7_14]; rfl) (by decide) ?_
                                refine r_iconst_ (a := 0) rfl (by decide) ?_
                                refine r_istore_n rfl (Nat.le_of_ble_eq_true rfl) rfl ?_
                                subst he
                                exact r_weak (L1 := [some (.ref 60), none, some (.int (0 : Int32)), some (.int (0 : Int32))]) ⟨rfl, rfl, rfl, trivial⟩ (lp_X12_count_288 fu _ _ _ _ hk)
                              · rw [if_neg c_7_14] at he
                                replace hk := hk.2 c_7_14
                                refine r_tableOut (tgt := 336) rfl (by simp only [Int32.lt_iff_toInt_lt, Int32.le_iff_toInt_le, ← Int32.toInt_inj, ti_0, ti_1, ti_2, ti_3, ti_4, ti_5, ti_6, ti_7, ti_8, ti_9, ti_10, ti_11, ti_12, ti_13, ti_14, ti_15, ti_16, ti_17, ti_18, ti_19, ti_20, ti_21, ti_22, ti_23, ti_24, ti_25, ti_26, ti_27, ti_28, ti_29, ti_30, ti_31, ti_32, ti_33, ti_34, ti_35, ti_36, ti_37, ti_38, ti_39, ti_40, ti_41, ti_42, ti_43, ti_44, ti_45, ti_46, ti_47, ti_48, ti_49, ti_50, ti_51, ti_52, ti_53, ti_54, ti_55, ti_56, ti_57, ti_58, ti_59, ti_60, ti_61, ti_62, ti_63, ti_64, ti_79, ti_80, ti_90, ti_96, ti_97, ti_99, ti_100, ti_122, ti_128, ti_132, ti_136, ti_140, ti_141, ti_145, ti_255, ti_256, ti_257, ti_258, ti_259, ti_260, ti_261, ti_262, ti_263, ti_264, ti_265, ti_266, ti_267, ti_268, ti_269, ti_270, ti_271, ti_272, ti_273, ti_274, ti_275, ti_276, ti_277, ti_278, ti_400, ti_401, ti_408, ti_420, ti_840, ti_999, ti_1980, ti_2000, ti_9999, ti_10000, ti_10240, ti_1000000, ti_m1, ti_m2, ti_m3, ti_m4, ti_m5, ti_m6, ti_m7] at c_7_0 c_7_1 c_7_2 c_7_3 c_7_4 c_7_5 c_7_6 c_7_7 c_7_8 c_7_9 c_7_10 c_7_11 c_7_12 c_7_13 c_7_14; omega) (by decide) ?_
                                refine r_iconst_ (a := -1) rfl (by decide) ?_
                                refine r_iret rfl rfl rfl ?_
                                first | with_reducible exact fin_i he | exact fin_i he

def f_X12_goes_2 (fu : Nat) : Nat → Int32 → Int32 → fl_I → fl_L → fl_I × fl_L
  | 0, x1, x2, s, l => (s, l)
  | n + 1, x1, x2, s, l =>
    if (x1 ≤ x2) then (s, l) else f_X12_goes_2 fu n x1 (x2 + 1) (f_X12_hourGoes fu s l).1 (f_X12_hourGoes fu s l).2

def p_X12_goes_2 (fu : Nat) : Nat → Int32 → Int32 → fl_I → fl_L → Prop
  | 0, _, _, _, _ => False
  | n + 1, x1, x2, s, l =>
    (((x1 ≤ x2) → True) ∧ (¬ (x1 ≤ x2) → (p_X12_hourGoes fu s l) ∧ p_X12_goes_2 fu n x1 (x2 + 1) (f_X12_hourGoes fu s l).1 (f_X12_hourGoes fu s l).2))

set_option maxRecDepth 100000 in
set_option maxHeartbeats 1000000 in
theorem lp_X12_goes_2 {G : ab_G} {fu : Nat} {d : Nat} {D : fl_D} : ∀ (n : Nat) (x1 : Int32) (x2 : Int32) (s : fl_I) (l : fl_L), p_X12_goes_2 fu n x1 x2 s l → ab_C G (d + 6) 0 0 M_X12_goes 2 [some (.ref 60), some (.int x1), some (.int x2)] [] (hp D s l) (rt none (hp D (f_X12_goes_2 fu n x1 x2 s l).1 (f_X12_goes_2 fu n x1 x2 s l).2)) := by
  intro n
  induction n with
  | zero => intro x1 x2 s l hk; exact hk.elim
  | succ n ih =>
    intro x1 x2 s l hk
    generalize he : f_X12_goes_2 fu (n + 1) x1 x2 s l = res
    unfold f_X12_goes_2 at he
    unfold p_X12_goes_2 at hk
    refine r_iload_n rfl rfl ?_
    refine r_iload_n rfl rfl ?_
    refine r_icmp_ge rfl (fun c_4 => ?_) (fun c_4 => ?_)
    · rw [if_pos c_4] at he
      replace hk := hk.1 c_4
      refine r_ret rfl rfl ?_
      first | with_reducible exact fin_v he | exact fin_v he
    · rw [if_neg c_4] at he
      replace hk := hk.2 c_4
      refine r_aload_n rfl rfl ?_
      obtain ⟨hb0, hk⟩ := hk
      refine q_callV0 [] _ rfl kY_X12_hourGoes kT_X12_hourGoes rfl rfl (Nat.le_of_ble_eq_true rfl) (Nat.le_of_ble_eq_true rfl) (cc_60 _) (s_X12_hourGoes hb0) (fun r h q => ?_)
      obtain ⟨rfl, rfl⟩ := q
      simp only [Option.toList, List.cons_append, List.nil_append]
      refine r_iinc (b := x2 + 1) rfl rfl rfl (Nat.le_of_ble_eq_true rfl) rfl ?_
      refine r_goto rfl ?_
      subst he
      exact r_weak (L1 := [some (.ref 60), some (.int x1), some (.int (x2 + 1))]) ⟨rfl, rfl, rfl, trivial⟩ (ih _ _ _ _ hk)

def f_X12_goes (fu : Nat) (v0 : Int32) (s : fl_I) (l : fl_L) : fl_I × fl_L :=
  f_X12_goes_2 fu fu v0 (0 : Int32) s l

def p_X12_goes (fu : Nat) (v0 : Int32) (s : fl_I) (l : fl_L) : Prop :=
  p_X12_goes_2 fu fu v0 (0 : Int32) s l

set_option maxRecDepth 100000 in
set_option maxHeartbeats 1000000 in
theorem s_X12_goes {G : ab_G} {fu : Nat} {d : Nat} {D : fl_D} {s : fl_I} {l : fl_L} {v0 : Int32} (hk : p_X12_goes fu v0 s l) : ab_C G (d + 6) 0 0 M_X12_goes 0 (ab_ent [.ref 60, .int v0]) [] (hp D s l) (rt none (hp D (f_X12_goes fu v0 s l).1 (f_X12_goes fu v0 s l).2)) := by
  generalize he : (f_X12_goes fu v0 s l) = res
  unfold f_X12_goes at he
  unfold p_X12_goes at hk
  refine r_weak (L1 := [some (.ref 60), some (.int v0), none]) ⟨rfl, rfl, trivial⟩ ?_
  refine r_iconst_ (a := 0) rfl (by decide) ?_
  refine r_istore_n rfl (Nat.le_of_ble_eq_true rfl) rfl ?_
  subst he
  exact r_weak (L1 := [some (.ref 60), some (.int v0), some (.int (0 : Int32))]) ⟨rfl, rfl, rfl, trivial⟩ (lp_X12_goes_2 fu _ _ _ _ hk)

def f_X12_loss (fu : Nat) (v0 : Int32) (s : fl_I) (l : fl_L) : Int32 × fl_I × fl_L :=
  if ((f_X12_isLong fu v0) = 0) then ((-1 : Int32), s, l) else ((f_X12_lossNow fu (f_X12_goes fu v0 (f_X12_copiesStill fu s l).1 (f_X12_copiesStill fu s l).2).1 (f_X12_goes fu v0 (f_X12_copiesStill fu s l).1 (f_X12_copiesStill fu s l).2).2).1, (f_X12_lossNow fu (f_X12_goes fu v0 (f_X12_copiesStill fu s l).1 (f_X12_copiesStill fu s l).2).1 (f_X12_goes fu v0 (f_X12_copiesStill fu s l).1 (f_X12_copiesStill fu s l).2).2).2.1, (f_X12_lossNow fu (f_X12_goes fu v0 (f_X12_copiesStill fu s l).1 (f_X12_copiesStill fu s l).2).1 (f_X12_goes fu v0 (f_X12_copiesStill fu s l).1 (f_X12_copiesStill fu s l).2).2).2.2)

def p_X12_loss (fu : Nat) (v0 : Int32) (s : fl_I) (l : fl_L) : Prop :=
  (p_X12_isLong fu v0) ∧ ((((f_X12_isLong fu v0) = 0) → True) ∧ (¬ ((f_X12_isLong fu v0) = 0) → (p_X12_copiesStill fu s l) ∧ (p_X12_goes fu v0 (f_X12_copiesStill fu s l).1 (f_X12_copiesStill fu s l).2) ∧ (p_X12_lossNow fu (f_X12_goes fu v0 (f_X12_copiesStill fu s l).1 (f_X12_copiesStill fu s l).2).1 (f_X12_goes fu v0 (f_X12_copiesStill fu s l).1 (f_X12_copiesStill fu s l).2).2) ∧ True))

set_option maxRecDepth 100000 in
set_option maxHeartbeats 1000000 in
theorem s_X12_loss {G : ab_G} {fu : Nat} {d : Nat} {D : fl_D} {s : fl_I} {l : fl_L} {v0 : Int32} (hk : p_X12_loss fu v0 s l) : ab_C G (d + 7) 0 0 M_X12_loss 0 (ab_ent [.ref 60, .int v0]) [] (hp D s l) (rt (some (.int (f_X12_loss fu v0 s l).1)) (hp D (f_X12_loss fu v0 s l).2.1 (f_X12_loss fu v0 s l).2.2)) := by
  generalize he : (f_X12_loss fu v0 s l) = res
  unfold f_X12_loss at he
  unfold p_X12_loss at hk
  refine r_weak (L1 := [some (.ref 60), some (.int v0)]) ⟨rfl, rfl, trivial⟩ ?_
  refine r_iload_n rfl rfl ?_
  obtain ⟨hb0, hk⟩ := hk
  refine r_callS0 [_] _ rfl kY_X12_isLong kT_X12_isLong rfl rfl (Nat.le_of_ble_eq_true rfl) (Nat.le_of_ble_eq_true rfl) (s_X12_isLong hb0) (fun r h q => ?_)
  obtain ⟨rfl, rfl⟩ := q
  simp only [Option.toList, List.cons_append, List.nil_append]
  refine r_if_ne rfl (fun c_4 => ?_) (fun c_4 => ?_)
  · rw [if_neg c_4] at he
    replace hk := hk.2 c_4
    refine r_aload_n rfl rfl ?_
    obtain ⟨hb1, hk⟩ := hk
    refine q_callV0 [] _ rfl kY_X12_copiesStill kT_X12_copiesStill rfl rfl (Nat.le_of_ble_eq_true rfl) (Nat.le_of_ble_eq_true rfl) (cc_60 _) (s_X12_copiesStill hb1) (fun r h q => ?_)
    obtain ⟨rfl, rfl⟩ := q
    simp only [Option.toList, List.cons_append, List.nil_append]
    refine r_aload_n rfl rfl ?_
    refine r_iload_n rfl rfl ?_
    obtain ⟨hb2, hk⟩ := hk
    refine q_callV0 [_] _ rfl kY_X12_goes kT_X12_goes rfl rfl (Nat.le_of_ble_eq_true rfl) (Nat.le_of_ble_eq_true rfl) (cc_60 _) (s_X12_goes hb2) (fun r h q => ?_)
    obtain ⟨rfl, rfl⟩ := q
    simp only [Option.toList, List.cons_append, List.nil_append]
    refine r_aload_n rfl rfl ?_
    obtain ⟨hb3, hk⟩ := hk
    refine q_callV0 [] _ rfl kY_X12_lossNow kT_X12_lossNow rfl rfl (Nat.le_of_ble_eq_true rfl) (Nat.le_of_ble_eq_true rfl) (cc_60 _) (s_X12_lossNow hb3) (fun r h q => ?_)
    obtain ⟨rfl, rfl⟩ := q
    simp only [Option.toList, List.cons_append, List.nil_append]
    refine r_iret rfl rfl rfl ?_
    first | with_reducible exact fin_i he | exact fin_i he
  · rw [if_pos c_4] at he
    replace hk := hk.1 c_4
    refine r_iconst_ (a := -1) rfl (by decide) ?_
    refine r_iret rfl rfl rfl ?_
    first | with_reducible exact fin_i he | exact fin_i he

