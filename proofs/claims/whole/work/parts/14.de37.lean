def f_X11_loss (fu : Nat) (v0 : Int32) (D : fl_D) (s : fl_I) (l : fl_L) : Int32 × fl_I × fl_L :=
  if (v0 < 0) then ((-1 : Int32), s, l) else if (v0 ≤ (40 : Int32)) then ((f_X9_takesOfAll fu (if D.2.2.1 then 20 else 9) 37 (f_X9_goOn fu v0 (-1 : Int32) (if D.2.2.1 then 20 else 9) 37 (f_X10_copy fu 37 31 s l).1 (f_X10_copy fu 37 31 s l).2).1 (f_X9_goOn fu v0 (-1 : Int32) (if D.2.2.1 then 20 else 9) 37 (f_X10_copy fu 37 31 s l).1 (f_X10_copy fu 37 31 s l).2).2).1, (f_X9_takesOfAll fu (if D.2.2.1 then 20 else 9) 37 (f_X9_goOn fu v0 (-1 : Int32) (if D.2.2.1 then 20 else 9) 37 (f_X10_copy fu 37 31 s l).1 (f_X10_copy fu 37 31 s l).2).1 (f_X9_goOn fu v0 (-1 : Int32) (if D.2.2.1 then 20 else 9) 37 (f_X10_copy fu 37 31 s l).1 (f_X10_copy fu 37 31 s l).2).2).2.1, (f_X9_takesOfAll fu (if D.2.2.1 then 20 else 9) 37 (f_X9_goOn fu v0 (-1 : Int32) (if D.2.2.1 then 20 else 9) 37 (f_X10_copy fu 37 31 s l).1 (f_X10_copy fu 37 31 s l).2).1 (f_X9_goOn fu v0 (-1 : Int32) (if D.2.2.1 then 20 else 9) 37 (f_X10_copy fu 37 31 s l).1 (f_X10_copy fu 37 31 s l).2).2).2.2) else ((-1 : Int32), s, l)

def p_X11_loss (fu : Nat) (v0 : Int32) (D : fl_D) (s : fl_I) (l : fl_L) : Prop :=
  (((v0 < 0) → True) ∧ (¬ (v0 < 0) → (((v0 ≤ (40 : Int32)) → (p_X10_copy fu 37 31 s l) ∧ (p_X9_goOn fu v0 (-1 : Int32) (if D.2.2.1 then 20 else 9) 37 (f_X10_copy fu 37 31 s l).1 (f_X10_copy fu 37 31 s l).2) ∧ (p_X9_takesOfAll fu (if D.2.2.1 then 20 else 9) 37 (f_X9_goOn fu v0 (-1 : Int32) (if D.2.2.1 then 20 else 9) 37 (f_X10_copy fu 37 31 s l).1 (f_X10_copy fu 37 31 s l).2).1 (f_X9_goOn fu v0 (-1 : Int32) (if D.2.2.1 then 20 else 9) 37 (f_X10_copy fu 37 31 s l).1 (f_X10_copy fu 37 31 s l).2).2) ∧ True) ∧ (¬ (v0 ≤ (40 : Int32)) → True))))

set_option maxRecDepth 100000 in
set_option maxHeartbeats 1000000 in
theorem s_X11_loss {G : ab_G} {fu : Nat} {d : Nat} {D : fl_D} {s : fl_I} {l : fl_L} {v0 : Int32} (hk : p_X11_loss fu v0 D s l) : ab_C G (d + 5) 0 0 M_X11_loss 0 (ab_ent [.ref 0, .int v0]) [] (hp D s l) (rt (some (.int (f_X11_loss fu v0 D s l).1)) (hp D (f_X11_loss fu v0 D s l).2.1 (f_X11_loss fu v0 D s l).2.2)) := by
  generalize he : (f_X11_loss fu v0 D s l) = res
  unfold f_X11_loss at he
  unfold p_X11_loss at hk
  refine r_weak (L1 := [some (.ref 0), some (.int v0)]) ⟨rfl, rfl, trivial⟩ ?_
  refine r_iload_n rfl rfl ?_
  refine r_if_lt rfl (fun c_1 => ?_) (fun c_1 => ?_)
  · rw [if_pos c_1] at he
    replace hk := hk.1 c_1
    refine r_iconst_ (a := -1) rfl (by decide) ?_
    refine r_iret rfl rfl rfl ?_
    first | with_reducible exact fin_i he | exact fin_i he
  · rw [if_neg c_1] at he
    replace hk := hk.2 c_1
    refine r_iload_n rfl rfl ?_
    refine r_bipush_ (a := 40) rfl (by decide) ?_
    refine r_icmp_le rfl (fun c_7 => ?_) (fun c_7 => ?_)
    · rw [if_pos c_7] at he
      replace hk := hk.1 c_7
      refine r_aload_n rfl rfl ?_
      refine q_getfield rfl (cc_0 _) rfl ?_
      refine r_aload_n rfl rfl ?_
      refine q_getfield rfl (cc_0 _) rfl ?_
      obtain ⟨hb0, hk⟩ := hk
      refine q_callV0 [_] _ rfl kY_X10_copy kT_X10_copy rfl rfl (Nat.le_of_ble_eq_true rfl) (Nat.le_of_ble_eq_true rfl) (cc_37 _) (s_X10_copy (Or.inr (Or.inl rfl)) (Or.inl rfl) hb0) (fun r h q => ?_)
      obtain ⟨rfl, rfl⟩ := q
      simp only [Option.toList, List.cons_append, List.nil_append]
      refine r_aload_n rfl rfl ?_
      refine q_getfield rfl (cc_0 _) rfl ?_
      refine r_aload_n rfl rfl ?_
      refine q_getfield rfl (cc_0 _) rfl ?_
      refine r_aload_n rfl rfl ?_
      refine q_getfield rfl (cc_0 _) rfl ?_
      refine r_iload_n rfl rfl ?_
      refine r_iconst_ (a := -1) rfl (by decide) ?_
      obtain ⟨hb1, hk⟩ := hk
      refine q_callV0 [_, _, _, _] _ rfl kY_X9_goOn kT_X9_goOn rfl rfl (Nat.le_of_ble_eq_true rfl) (Nat.le_of_ble_eq_true rfl) (cc_46 _) (s_X9_goOn (isT_l _) (Or.inr (Or.inl rfl)) hb1) (fun r h q => ?_)
      obtain ⟨rfl, rfl⟩ := q
      simp only [Option.toList, List.cons_append, List.nil_append]
      refine r_aload_n rfl rfl ?_
      refine q_getfield rfl (cc_0 _) rfl ?_
      refine r_aload_n rfl rfl ?_
      refine q_getfield rfl (cc_0 _) rfl ?_
      refine r_aload_n rfl rfl ?_
      refine q_getfield rfl (cc_0 _) rfl ?_
      obtain ⟨hb2, hk⟩ := hk
      refine q_callV0 [_, _] _ rfl kY_X9_takesOfAll kT_X9_takesOfAll rfl rfl (Nat.le_of_ble_eq_true rfl) (Nat.le_of_ble_eq_true rfl) (cc_46 _) (s_X9_takesOfAll (isT_l _) (Or.inr (Or.inl rfl)) hb2) (fun r h q => ?_)
      obtain ⟨rfl, rfl⟩ := q
      simp only [Option.toList, List.cons_append, List.nil_append]
      refine r_iret rfl rfl rfl ?_
      first | with_reducible exact fin_i he | exact fin_i he
    · rw [if_neg c_7] at he
      replace hk := hk.2 c_7
      refine r_iconst_ (a := -1) rfl (by decide) ?_
      refine r_iret rfl rfl rfl ?_
      first | with_reducible exact fin_i he | exact fin_i he

def f_X11_late_13 (fu : Nat) : Nat → Int32 → fl_D → fl_I → fl_L → Int32 × fl_I × fl_L
  | 0, x1, D, s, l => (0, s, l)
  | n + 1, x1, D, s, l =>
    if ((100 : Int32) < x1) then ((-2 : Int32), s, l) else if ((f_X10_countLying fu 37 s l) = 0) then (x1, s, l) else f_X11_late_13 fu n (x1 + 1) D (f_X9_goOn fu (1 : Int32) (-1 : Int32) (if D.2.2.1 then 20 else 9) 37 s l).1 (f_X9_goOn fu (1 : Int32) (-1 : Int32) (if D.2.2.1 then 20 else 9) 37 s l).2

def p_X11_late_13 (fu : Nat) : Nat → Int32 → fl_D → fl_I → fl_L → Prop
  | 0, _, _, _, _ => False
  | n + 1, x1, D, s, l =>
    ((((100 : Int32) < x1) → True) ∧ (¬ ((100 : Int32) < x1) → (p_X10_countLying fu 37 s l) ∧ ((((f_X10_countLying fu 37 s l) = 0) → True) ∧ (¬ ((f_X10_countLying fu 37 s l) = 0) → (p_X9_goOn fu (1 : Int32) (-1 : Int32) (if D.2.2.1 then 20 else 9) 37 s l) ∧ p_X11_late_13 fu n (x1 + 1) D (f_X9_goOn fu (1 : Int32) (-1 : Int32) (if D.2.2.1 then 20 else 9) 37 s l).1 (f_X9_goOn fu (1 : Int32) (-1 : Int32) (if D.2.2.1 then 20 else 9) 37 s l).2))))

set_option maxRecDepth 100000 in
set_option maxHeartbeats 1000000 in
theorem lp_X11_late_13 {G : ab_G} {fu : Nat} {d : Nat} {D : fl_D} : ∀ (n : Nat) (x1 : Int32) (s : fl_I) (l : fl_L), p_X11_late_13 fu n x1 D s l → ab_C G (d + 5) 0 0 M_X11_late 13 [some (.ref 0), some (.int x1)] [] (hp D s l) (rt (some (.int (f_X11_late_13 fu n x1 D s l).1)) (hp D (f_X11_late_13 fu n x1 D s l).2.1 (f_X11_late_13 fu n x1 D s l).2.2)) := by
  intro n
  induction n with
  | zero => intro x1 s l hk; exact hk.elim
  | succ n ih =>
    intro x1 s l hk
    generalize he : f_X11_late_13 fu (n + 1) x1 D s l = res
    unfold f_X11_late_13 at he
    unfold p_X11_late_13 at hk
    refine r_iload_n rfl rfl ?_
    refine r_bipush_ (a := 100) rfl (by decide) ?_
    refine r_icmp_gt rfl (fun c_16 => ?_) (fun c_16 => ?_)
    · rw [if_pos c_16] at he
      replace hk := hk.1 c_16
      refine r_bipush_ (a := -2) rfl (by decide) ?_
      refine r_iret rfl rfl rfl ?_
      first | with_reducible exact fin_i he | exact fin_i he
    · rw [if_neg c_16] at he
      replace hk := hk.2 c_16
      refine r_aload_n rfl rfl ?_
      refine q_getfield rfl (cc_0 _) rfl ?_
      obtain ⟨hb1, hk⟩ := hk
      refine q_callV0 [] _ rfl kY_X10_countLying kT_X10_countLying rfl rfl (Nat.le_of_ble_eq_true rfl) (Nat.le_of_ble_eq_true rfl) (cc_37 _) (s_X10_countLying (Or.inr (Or.inl rfl)) hb1) (fun r h q => ?_)
      obtain ⟨rfl, rfl⟩ := q
      simp only [Option.toList, List.cons_append, List.nil_append]
      refine r_if_ne rfl (fun c_26 => ?_) (fun c_26 => ?_)
      · rw [if_neg c_26] at he
        replace hk := hk.2 c_26
        refine r_aload_n rfl rfl ?_
        refine q_getfield rfl (cc_0 _) rfl ?_
        refine r_aload_n rfl rfl ?_
        refine q_getfield rfl (cc_0 _) rfl ?_
        refine r_aload_n rfl rfl ?_
        refine q_getfield rfl (cc_0 _) rfl ?_
        refine r_iconst_ (a := 1) rfl (by decide) ?_
        refine r_iconst_ (a := -1) rfl (by decide) ?_
        obtain ⟨hb2, hk⟩ := hk
        refine q_callV0 [_, _, _, _] _ rfl kY_X9_goOn kT_X9_goOn rfl rfl (Nat.le_of_ble_eq_true rfl) (Nat.le_of_ble_eq_true rfl) (cc_46 _) (s_X9_goOn (isT_l _) (Or.inr (Or.inl rfl)) hb2) (fun r h q => ?_)
        obtain ⟨rfl, rfl⟩ := q
        simp only [Option.toList, List.cons_append, List.nil_append]
        refine r_iinc (b := x1 + 1) rfl rfl rfl (Nat.le_of_ble_eq_true rfl) rfl ?_
        refine r_goto rfl ?_
        subst he
        exact r_weak (L1 := [some (.ref 0), some (.int (x1 + 1))]) ⟨rfl, rfl, trivial⟩ (ih _ _ _ hk)
      · rw [if_pos c_26] at he
        replace hk := hk.1 c_26
        refine r_iload_n rfl rfl ?_
        refine r_iret rfl rfl rfl ?_
        first | with_reducible exact fin_i he | exact fin_i he

def f_X11_late (fu : Nat) (D : fl_D) (s : fl_I) (l : fl_L) : Int32 × fl_I × fl_L :=
  f_X11_late_13 fu fu (0 : Int32) D (f_X10_copy fu 37 31 s l).1 (f_X10_copy fu 37 31 s l).2

def p_X11_late (fu : Nat) (D : fl_D) (s : fl_I) (l : fl_L) : Prop :=
  (p_X10_copy fu 37 31 s l) ∧ p_X11_late_13 fu fu (0 : Int32) D (f_X10_copy fu 37 31 s l).1 (f_X10_copy fu 37 31 s l).2

set_option maxRecDepth 100000 in
set_option maxHeartbeats 1000000 in
theorem s_X11_late {G : ab_G} {fu : Nat} {d : Nat} {D : fl_D} {s : fl_I} {l : fl_L}  (hk : p_X11_late fu D s l) : ab_C G (d + 5) 0 0 M_X11_late 0 (ab_ent [.ref 0]) [] (hp D s l) (rt (some (.int (f_X11_late fu D s l).1)) (hp D (f_X11_late fu D s l).2.1 (f_X11_late fu D s l).2.2)) := by
  generalize he : (f_X11_late fu D s l) = res
  unfold f_X11_late at he
  unfold p_X11_late at hk
  refine r_weak (L1 := [some (.ref 0), none]) ⟨rfl, trivial⟩ ?_
  refine r_aload_n rfl rfl ?_
  refine q_getfield rfl (cc_0 _) rfl ?_
  refine r_aload_n rfl rfl ?_
  refine q_getfield rfl (cc_0 _) rfl ?_
  obtain ⟨hb0, hk⟩ := hk
  refine q_callV0 [_] _ rfl kY_X10_copy kT_X10_copy rfl rfl (Nat.le_of_ble_eq_true rfl) (Nat.le_of_ble_eq_true rfl) (cc_37 _) (s_X10_copy (Or.inr (Or.inl rfl)) (Or.inl rfl) hb0) (fun r h q => ?_)
  obtain ⟨rfl, rfl⟩ := q
  simp only [Option.toList, List.cons_append, List.nil_append]
  refine r_iconst_ (a := 0) rfl (by decide) ?_
  refine r_istore_n rfl (Nat.le_of_ble_eq_true rfl) rfl ?_
  subst he
  exact r_weak (L1 := [some (.ref 0), some (.int (0 : Int32))]) ⟨rfl, rfl, trivial⟩ (lp_X11_late_13 fu _ _ _ hk)

def f_X3_plainTold (fu : Nat) (t : Nat) (s : fl_I) (l : fl_L) : Int32 × fl_I × fl_L :=
  if ((f_X3_kindNow fu s l) = 256) then ((f_X3_letterTold fu t s l).1, (f_X3_letterTold fu t s l).2.1, (f_X3_letterTold fu t s l).2.2) else if ((f_X3_kindNow fu s l) = 257) then ((f_X3_wordTold fu t s l).1, (f_X3_wordTold fu t s l).2.1, (f_X3_wordTold fu t s l).2.2) else if ((f_X3_kindNow fu s l) = 258) then ((f_X3_pickerTold fu t s l).1, (f_X3_pickerTold fu t s l).2.1, (f_X3_pickerTold fu t s l).2.2) else if ((f_X3_kindNow fu s l) = 259) then ((f_X3_stop fu (1 : Int32) s l).1, (f_X3_stop fu (1 : Int32) s l).2.1, (f_X3_stop fu (1 : Int32) s l).2.2) else if ((f_X3_kindNow fu s l) = 260) then ((f_X3_stop fu (1 : Int32) s l).1, (f_X3_stop fu (1 : Int32) s l).2.1, (f_X3_stop fu (1 : Int32) s l).2.2) else if ((f_X3_kindNow fu s l) = 261) then ((f_X3_stop fu (1 : Int32) s l).1, (f_X3_stop fu (1 : Int32) s l).2.1, (f_X3_stop fu (1 : Int32) s l).2.2) else if ((f_X3_kindNow fu s l) = 262) then ((f_X3_windTold fu t s l).1, (f_X3_windTold fu t s l).2.1, (f_X3_windTold fu t s l).2.2) else if ((f_X3_kindNow fu s l) = 263) then ((f_X3_rainTold fu t s l).1, (f_X3_rainTold fu t s l).2.1, (f_X3_rainTold fu t s l).2.2) else if ((f_X3_kindNow fu s l) = 264) then ((f_X3_seedTold fu t s l).1, (f_X3_seedTold fu t s l).2.1, (f_X3_seedTold fu t s l).2.2) else ((f_X3_stop fu (1 : Int32) s l).1, (f_X3_stop fu (1 : Int32) s l).2.1, (f_X3_stop fu (1 : Int32) s l).2.2)

def p_X3_plainTold (fu : Nat) (t : Nat) (s : fl_I) (l : fl_L) : Prop :=
  (p_X3_kindNow fu s l) ∧ ((((f_X3_kindNow fu s l) = 256) → (p_X3_letterTold fu t s l) ∧ ((f_X3_letterTold fu t s l).1 = 0 ∨ (f_X3_letterTold fu t s l).1 = 1) ∧ True) ∧ (¬ ((f_X3_kindNow fu s l) = 256) → ((((f_X3_kindNow fu s l) = 257) → (p_X3_wordTold fu t s l) ∧ ((f_X3_wordTold fu t s l).1 = 0 ∨ (f_X3_wordTold fu t s l).1 = 1) ∧ True) ∧ (¬ ((f_X3_kindNow fu s l) = 257) → ((((f_X3_kindNow fu s l) = 258) → (p_X3_pickerTold fu t s l) ∧ ((f_X3_pickerTold fu t s l).1 = 0 ∨ (f_X3_pickerTold fu t s l).1 = 1) ∧ True) ∧ (¬ ((f_X3_kindNow fu s l) = 258) → ((((f_X3_kindNow fu s l) = 259) → (p_X3_stop fu (1 : Int32) s l) ∧ ((f_X3_stop fu (1 : Int32) s l).1 = 0 ∨ (f_X3_stop fu (1 : Int32) s l).1 = 1) ∧ True) ∧ (¬ ((f_X3_kindNow fu s l) = 259) → ((((f_X3_kindNow fu s l) = 260) → (p_X3_stop fu (1 : Int32) s l) ∧ ((f_X3_stop fu (1 : Int32) s l).1 = 0 ∨ (f_X3_stop fu (1 : Int32) s l).1 = 1) ∧ True) ∧ (¬ ((f_X3_kindNow fu s l) = 260) → ((((f_X3_kindNow fu s l) = 261) → (p_X3_stop fu (1 : Int32) s l) ∧ ((f_X3_stop fu (1 : Int32) s l).1 = 0 ∨ (f_X3_stop fu (1 : Int32) s l).1 = 1) ∧ True) ∧ (¬ ((f_X3_kindNow fu s l) = 261) → ((((f_X3_kindNow fu s l) = 262) → (p_X3_windTold fu t s l) ∧ ((f_X3_windTold fu t s l).1 = 0 ∨ (f_X3_windTold fu t s l).1 = 1) ∧ True) ∧ (¬ ((f_X3_kindNow fu s l) = 262) → ((((f_X3_kindNow fu s l) = 263) → (p_X3_rainTold fu t s l) ∧ ((f_X3_rainTold fu t s l).1 = 0 ∨ (f_X3_rainTold fu t s l).1 = 1) ∧ True) ∧ (¬ ((f_X3_kindNow fu s l) = 263) → ((((f_X3_kindNow fu s l) = 264) → (p_X3_seedTold fu t s l) ∧ ((f_X3_seedTold fu t s l).1 = 0 ∨ (f_X3_seedTold fu t s l).1 = 1) ∧ True) ∧ (¬ ((f_X3_kindNow fu s l) = 264) → (p_X3_stop fu (1 : Int32) s l) ∧ ((f_X3_stop fu (1 : Int32) s l).1 = 0 ∨ (f_X3_stop fu (1 : Int32) s l).1 = 1) ∧ True))))))))))))))))))

set_option maxRecDepth 100000 in
set_option maxHeartbeats 1000000 in
theorem s_X3_plainTold {G : ab_G} {fu : Nat} {d : Nat} {D : fl_D} {s : fl_I} {l : fl_L} {t : Nat} (htt : isT t)  (hk : p_X3_plainTold fu t s l) : ab_C G (d + 5) 0 0 M_X3_plainTold 0 (ab_ent [.ref 3, .ref t]) [] (hp D s l) (rt (some (.int (f_X3_plainTold fu t s l).1)) (hp D (f_X3_plainTold fu t s l).2.1 (f_X3_plainTold fu t s l).2.2)) := by
  generalize he : (f_X3_plainTold fu t s l) = res
  unfold f_X3_plainTold at he
  unfold p_X3_plainTold at hk
  refine r_weak (L1 := [some (.ref 3), some (.ref t)]) ⟨rfl, rfl, trivial⟩ ?_
  refine r_aload_n rfl rfl ?_
  obtain ⟨hb0, hk⟩ := hk
  refine q_callV0 [] _ rfl kY_X3_kindNow kT_X3_kindNow rfl rfl (Nat.le_of_ble_eq_true rfl) (Nat.le_of_ble_eq_true rfl) (cc_3 _) (s_X3_kindNow hb0) (fun r h q => ?_)
  obtain ⟨rfl, rfl⟩ := q
  simp only [Option.toList, List.cons_append, List.nil_append]
  by_cases c_4_256 : ((f_X3_kindNow fu s l) = 256)
  · rw [if_pos c_4_256] at he
    replace hk := hk.1 c_4_256
    refine r_tableIn (tgt := 56) rfl (by rw [c_4_256]; decide) (by rw [c_4_256]; decide) (by rw [c_4_256]; rfl) (by decide) ?_
    refine r_aload_n rfl rfl ?_
    refine r_aload_n rfl rfl ?_
    obtain ⟨hb1, hk⟩ := hk
    refine q_callV0 [_] _ rfl kY_X3_letterTold kT_X3_letterTold rfl rfl (Nat.le_of_ble_eq_true rfl) (Nat.le_of_ble_eq_true rfl) (cc_3 _) (s_X3_letterTold htt hb1) (fun r h q => ?_)
    obtain ⟨rfl, rfl⟩ := q
    simp only [Option.toList, List.cons_append, List.nil_append]
    obtain ⟨hb2, hk⟩ := hk
    refine r_iret rfl rfl (nar_b hb2) ?_
    first | with_reducible exact fin_i he | exact fin_i he
  · rw [if_neg c_4_256] at he
    replace hk := hk.2 c_4_256
    by_cases c_4_257 : ((f_X3_kindNow fu s l) = 257)
    · rw [if_pos c_4_257] at he
      replace hk := hk.1 c_4_257
      refine r_tableIn (tgt := 62) rfl (by rw [c_4_257]; decide) (by rw [c_4_257]; decide) (by rw [c_4_257]; rfl) (by decide) ?_
      refine r_aload_n rfl rfl ?_
      refine r_aload_n rfl rfl ?_
      obtain ⟨hb3, hk⟩ := hk
      refine q_callV0 [_] _ rfl kY_X3_wordTold kT_X3_wordTold rfl rfl (Nat.le_of_ble_eq_true rfl) (Nat.le_of_ble_eq_true rfl) (cc_3 _) (s_X3_wordTold htt hb3) (fun r h q => ?_)
      obtain ⟨rfl, rfl⟩ := q
      simp only [Option.toList, List.cons_append, List.nil_append]
      obtain ⟨hb4, hk⟩ := hk
      refine r_iret rfl rfl (nar_b hb4) ?_
      first | with_reducible exact fin_i he | exact fin_i he
    · rw [if_neg c_4_257] at he
      replace hk := hk.2 c_4_257
      by_cases c_4_258 : ((f_X3_kindNow fu s l) = 258)
      · rw [if_pos c_4_258] at he
        replace hk := hk.1 c_4_258
        refine r_tableIn (tgt := 68) rfl (by rw [c_4_258]; decide) (by rw [c_4_258]; decide) (by rw [c_4_258]; rfl) (by decide) ?_
        refine r_aload_n rfl rfl ?_
        refine r_aload_n rfl rfl ?_
        obtain ⟨hb5, hk⟩ := hk
        refine q_callV0 [_] _ rfl kY_X3_pickerTold kT_X3_pickerTold rfl rfl (Nat.le_of_ble_eq_true rfl) (Nat.le_of_ble_eq_true rfl) (cc_3 _) (s_X3_pickerTold htt hb5) (fun r h q => ?_)
        obtain ⟨rfl, rfl⟩ := q
        simp only [Option.toList, List.cons_append, List.nil_append]
        obtain ⟨hb6, hk⟩ := hk
        refine r_iret rfl rfl (nar_b hb6) ?_
        first | with_reducible exact fin_i he | exact fin_i he
      · rw [if_neg c_4_258] at he
        replace hk := hk.2 c_4_258
        by_cases c_4_259 : ((f_X3_kindNow fu s l) = 259)
        · rw [if_pos c_4_259] at he
          replace hk := hk.1 c_4_259
          refine r_tableIn (tgt := 92) rfl (by rw [c_4_259]; decide) (by rw [c_4_259]; decide) (by rw [c_4_259]; rfl) (by decide) ?_
          refine r_aload_n rfl rfl ?_
          refine r_iconst_ (a := 1) rfl (by decide) ?_
          obtain ⟨hb7, hk⟩ := hk
          refine q_callV0 [_] _ rfl kY_X3_stop kT_X3_stop rfl rfl (Nat.le_of_ble_eq_true rfl) (Nat.le_of_ble_eq_true rfl) (cc_3 _) (s_X3_stop hb7) (fun r h q => ?_)
          obtain ⟨rfl, rfl⟩ := q
          simp only [Option.toList, List.cons_append, List.nil_append]
          obtain ⟨hb8, hk⟩ := hk
          refine r_iret rfl rfl (nar_b hb8) ?_
          first | with_reducible exact fin_i he | exact fin_i he
        · rw [if_neg c_4_259] at he
          replace hk := hk.2 c_4_259
          by_cases c_4_260 : ((f_X3_kindNow fu s l) = 260)
          · rw [if_pos c_4_260] at he
            replace hk := hk.1 c_4_260
            refine r_tableIn (tgt := 92) rfl (by rw [c_4_260]; decide) (by rw [c_4_260]; decide) (by rw [c_4_260]; rfl) (by decide) ?_
            refine r_aload_n rfl rfl ?_
            refine r_iconst_ (a := 1) rfl (by decide) ?_
            obtain ⟨hb9, hk⟩ := hk
            refine q_callV0 [_] _ rfl kY_X3_stop kT_X3_stop rfl rfl (Nat.le_of_ble_eq_true rfl) (Nat.le_of_ble_eq_true rfl) (cc_3 _) (s_X3_stop hb9) (fun r h q => ?_)
            obtain ⟨rfl, rfl⟩ := q
            simp only [Option.toList, List.cons_append, List.nil_append]
            obtain ⟨hb10, hk⟩ := hk
            refine r_iret rfl rfl (nar_b hb10) ?_
            first | with_reducible exact fin_i he | exact fin_i he
          · rw [if_neg c_4_260] at he
            replace hk := hk.2 c_4_260
            by_cases c_4_261 : ((f_X3_kindNow fu s l) = 261)
            · rw [if_pos c_4_261] at he
              replace hk := hk.1 c_4_261
              refine r_tableIn (tgt := 92) rfl (by rw [c_4_261]; decide) (by rw [c_4_261]; decide) (by rw [c_4_261]; rfl) (by decide) ?_
              refine r_aload_n rfl rfl ?_
              refine r_iconst_ (a := 1) rfl (by decide) ?_
              obtain ⟨hb11, hk⟩ := hk
              refine q_callV0 [_] _ rfl kY_X3_stop kT_X3_stop rfl rfl (Nat.le_of_ble_eq_true rfl) (Nat.le_of_ble_eq_true rfl) (cc_3 _) (s_X3_stop hb11) (fun r h q => ?_)
              obtain ⟨rfl, rfl⟩ := q
              simp only [Option.toList, List.cons_append, List.nil_append]
              obtain ⟨hb12, hk⟩ := hk
              refine r_iret rfl rfl (nar_b hb12) ?_
              first | with_reducible exact fin_i he | exact fin_i he
            · rw [if_neg c_4_261] at he
              replace hk := hk.2 c_4_261
              by_cases c_4_262 : ((f_X3_kindNow fu s l) = 262)
              · rw [if_pos c_4_262] at he
                replace hk := hk.1 c_4_262
                refine r_tableIn (tgt := 74) rfl (by rw [c_4_262]; decide) (by rw [c_4_262]; decide) (by rw [c_4_262]; rfl) (by decide) ?_
                refine r_aload_n rfl rfl ?_
                refine r_aload_n rfl rfl ?_
                obtain ⟨hb13, hk⟩ := hk
                refine q_callV0 [_] _ rfl kY_X3_windTold kT_X3_windTold rfl rfl (Nat.le_of_ble_eq_true rfl) (Nat.le_of_ble_eq_true rfl) (cc_3 _) (s_X3_windTold htt hb13) (fun r h q => ?_)
                obtain ⟨rfl, rfl⟩ := q
                simp only [Option.toList, List.cons_append, List.nil_append]
                obtain ⟨hb14, hk⟩ := hk
                refine r_iret rfl rfl (nar_b hb14) ?_
                first | with_reducible exact fin_i he | exact fin_i he
              · rw [if_neg c_4_262] at he
                replace hk := hk.2 c_4_262
                by_cases c_4_263 : ((f_X3_kindNow fu s l) = 263)
                · rw [if_pos c_4_263] at he
                  replace hk := hk.1 c_4_263
                  refine r_tableIn (tgt := 80) rfl (by rw [c_4_263]; decide) (by rw [c_4_263]; decide) (by rw [c_4_263]; rfl) (by decide) ?_
                  refine r_aload_n rfl rfl ?_
                  refine r_aload_n rfl rfl ?_
                  obtain ⟨hb15, hk⟩ := hk
                  refine q_callV0 [_] _ rfl kY_X3_rainTold kT_X3_rainTold rfl rfl (Nat.le_of_ble_eq_true rfl) (Nat.le_of_ble_eq_true rfl) (cc_3 _) (s_X3_rainTold htt hb15) (fun r h q => ?_)
                  obtain ⟨rfl, rfl⟩ := q
                  simp only [Option.toList, List.cons_append, List.nil_append]
                  obtain ⟨hb16, hk⟩ := hk
                  refine r_iret rfl rfl (nar_b hb16) ?_
                  first | with_reducible exact fin_i he | exact fin_i he
                · rw [if_neg c_4_263] at he
                  replace hk := hk.2 c_4_263
                  by_cases c_4_264 : ((f_X3_kindNow fu s l) = 264)
                  · rw [if_pos c_4_264] at he
                    replace hk := hk.1 c_4_264
                    refine r_tableIn (tgt := 86) rfl (by rw [c_4_264]; decide) (by rw [c_4_264]; decide) (by rw [c_4_264]; rfl) (by decide) ?_
                    refine r_aload_n rfl rfl ?_
                    refine r_aload_n rfl rfl ?_
                    obtain ⟨hb17, hk⟩ := hk
                    refine q_callV0 [_] _ rfl kY_X3_seedTold kT_X3_seedTold rfl rfl (Nat.le_of_ble_eq_true rfl) (Nat.le_of_ble_eq_true rfl) (cc_3 _) (s_X3_seedTold htt hb17) (fun r h q => ?_)
                    obtain ⟨rfl, rfl⟩ := q
                    simp only [Option.toList, List.cons_append, List.nil_append]
                    obtain ⟨hb18, hk⟩ := hk
                    refine r_iret rfl rfl (nar_b hb18) ?_
                    first | with_reducible exact fin_i he | exact fin_i he
                  · rw [if_neg c_4_264] at he
                    replace hk := hk.2 c_4_264
                    refine r_tableOut (tgt := 92) rfl (by simp only [Int32.lt_iff_toInt_lt, Int32.le_iff_toInt_le, ← Int32.toInt_inj, ti_0, ti_1, ti_2, ti_3, ti_4, ti_5, ti_6, ti_7, ti_8, ti_9, ti_10, ti_11, ti_12, ti_13, ti_14, ti_15, ti_16, ti_17, ti_18, ti_19, ti_20, ti_21, ti_22, ti_23, ti_24, ti_25, ti_26, ti_27, ti_28, ti_29, ti_30, ti_31, ti_32, ti_33, ti_34, ti_35, ti_36, ti_37, ti_38, ti_39, ti_40, ti_41, ti_42, ti_43, ti_44, ti_45, ti_46, ti_47, ti_48, ti_49, ti_50, ti_51, ti_52, ti_53, ti_54, ti_55, ti_56, ti_57, ti_58, ti_59, ti_60, ti_61, ti_62, ti_63, ti_64, ti_79, ti_80, ti_90, ti_96, ti_97, ti_99, ti_100, ti_122, ti_128, ti_132, ti_136, ti_140, ti_141, ti_145, ti_255, ti_256, ti_257, ti_258, ti_259, ti_260, ti_261, ti_262, ti_263, ti_264, ti_265, ti_266, ti_267, ti_268, ti_269, ti_270, ti_271, ti_272, ti_273, ti_274, ti_275, ti_276, ti_277, ti_278, ti_400, ti_401, ti_408, ti_420, ti_840, ti_999, ti_1980, ti_2000, ti_9999, ti_10000, ti_10240, ti_1000000, ti_m1, ti_m2, ti_m3, ti_m4, ti_m5, ti_m6, ti_m7] at c_4_256 c_4_257 c_4_258 c_4_259 c_4_260 c_4_261 c_4_262 c_4_263 c_4_264; omega) (by decide) ?_
                    refine r_aload_n rfl rfl ?_
                    refine r_iconst_ (a := 1) rfl (by decide) ?_
                    obtain ⟨hb19, hk⟩ := hk
                    refine q_callV0 [_] _ rfl kY_X3_stop kT_X3_stop rfl rfl (Nat.le_of_ble_eq_true rfl) (Nat.le_of_ble_eq_true rfl) (cc_3 _) (s_X3_stop hb19) (fun r h q => ?_)
                    obtain ⟨rfl, rfl⟩ := q
                    simp only [Option.toList, List.cons_append, List.nil_append]
                    obtain ⟨hb20, hk⟩ := hk
                    refine r_iret rfl rfl (nar_b hb20) ?_
                    first | with_reducible exact fin_i he | exact fin_i he

def f_X12_hourGoes_28 (fu : Nat) : Nat → Int32 → fl_I → fl_L → fl_I × fl_L
  | 0, x1, s, l => (s, l)
  | n + 1, x1, s, l =>
    if ((s 74 (s 60 18).toNatClampNeg) ≤ x1) then ((wi (f_X12_blows fu s l).1 95 (140 : Int32).toNatClampNeg (((f_X12_blows fu s l).1 95 (140 : Int32).toNatClampNeg) + (1 : Int32))), (f_X12_blows fu s l).2) else f_X12_hourGoes_28 fu n (x1 + 1) (f_X12_picksUp fu x1 s l).1 (f_X12_picksUp fu x1 s l).2

def p_X12_hourGoes_28 (fu : Nat) : Nat → Int32 → fl_I → fl_L → Prop
  | 0, _, _, _ => False
  | n + 1, x1, s, l =>
    (vp_in (s 60 18) 2) ∧ ((((s 74 (s 60 18).toNatClampNeg) ≤ x1) → (p_X12_blows fu s l) ∧ True) ∧ (¬ ((s 74 (s 60 18).toNatClampNeg) ≤ x1) → (p_X12_picksUp fu x1 s l) ∧ p_X12_hourGoes_28 fu n (x1 + 1) (f_X12_picksUp fu x1 s l).1 (f_X12_picksUp fu x1 s l).2))

set_option maxRecDepth 100000 in
set_option maxHeartbeats 1000000 in
theorem lp_X12_hourGoes_28 {G : ab_G} {fu : Nat} {d : Nat} {D : fl_D} : ∀ (n : Nat) (x1 : Int32) (s : fl_I) (l : fl_L), p_X12_hourGoes_28 fu n x1 s l → ab_C G (d + 5) 0 0 M_X12_hourGoes 28 [some (.ref 60), some (.int x1)] [] (hp D s l) (rt none (hp D (f_X12_hourGoes_28 fu n x1 s l).1 (f_X12_hourGoes_28 fu n x1 s l).2)) := by
  intro n
  induction n with
  | zero => intro x1 s l hk; exact hk.elim
  | succ n ih =>
    intro x1 s l hk
    generalize he : f_X12_hourGoes_28 fu (n + 1) x1 s l = res
    unfold f_X12_hourGoes_28 at he
    unfold p_X12_hourGoes_28 at hk
    refine r_iload_n rfl rfl ?_
    refine r_aload_n rfl rfl ?_
    refine q_getfield rfl (cc_60 _) rfl ?_
    refine r_aload_n rfl rfl ?_
    refine q_getfield rfl (cc_60 _) rfl ?_
    obtain ⟨hb1, hk⟩ := hk
    refine q_iald rfl (cc_74 _) hb1 ?_
    refine r_icmp_ge rfl (fun c_38 => ?_) (fun c_38 => ?_)
    · rw [if_pos c_38] at he
      replace hk := hk.1 c_38
      refine r_aload_n rfl rfl ?_
      obtain ⟨hb2, hk⟩ := hk
      refine q_callV0 [] _ rfl kY_X12_blows kT_X12_blows rfl rfl (Nat.le_of_ble_eq_true rfl) (Nat.le_of_ble_eq_true rfl) (cc_60 _) (s_X12_blows hb2) (fun r h q => ?_)
      obtain ⟨rfl, rfl⟩ := q
      simp only [Option.toList, List.cons_append, List.nil_append]
      refine r_aload_n rfl rfl ?_
      refine q_getfield rfl (cc_60 _) rfl ?_
      refine r_sipush_ (a := 140) rfl (by decide) ?_
      refine r_dup2 rfl rfl rfl ?_
      refine q_iald rfl (cc_95 _) (by unfold vp_in; decide) ?_
      refine r_iconst_ (a := 1) rfl (by decide) ?_
      refine r_iadd rfl ?_
      refine w_iast rfl (cc_95 _) (by unfold vp_in; decide) ?_
      refine r_ret rfl rfl ?_
      first | with_reducible exact fin_v he | exact fin_v he
    · rw [if_neg c_38] at he
      replace hk := hk.2 c_38
      refine r_aload_n rfl rfl ?_
      refine r_iload_n rfl rfl ?_
      obtain ⟨hb3, hk⟩ := hk
      refine q_callV0 [_] _ rfl kY_X12_picksUp kT_X12_picksUp rfl rfl (Nat.le_of_ble_eq_true rfl) (Nat.le_of_ble_eq_true rfl) (cc_60 _) (s_X12_picksUp hb3) (fun r h q => ?_)
      obtain ⟨rfl, rfl⟩ := q
      simp only [Option.toList, List.cons_append, List.nil_append]
      refine r_iinc (b := x1 + 1) rfl rfl rfl (Nat.le_of_ble_eq_true rfl) rfl ?_
      refine r_goto rfl ?_
      subst he
      exact r_weak (L1 := [some (.ref 60), some (.int (x1 + 1))]) ⟨rfl, rfl, trivial⟩ (ih _ _ _ hk)

def f_X12_hourGoes_2 (fu : Nat) : Nat → Int32 → fl_I → fl_L → fl_I × fl_L
  | 0, x1, s, l => (s, l)
  | n + 1, x1, s, l =>
    if ((s 74 (s 60 18).toNatClampNeg) ≤ x1) then f_X12_hourGoes_28 fu fu (0 : Int32) s l else f_X12_hourGoes_2 fu n (x1 + 1) (f_X12_pickerGoes fu x1 s l).1 (f_X12_pickerGoes fu x1 s l).2

def p_X12_hourGoes_2 (fu : Nat) : Nat → Int32 → fl_I → fl_L → Prop
  | 0, _, _, _ => False
  | n + 1, x1, s, l =>
    (vp_in (s 60 18) 2) ∧ ((((s 74 (s 60 18).toNatClampNeg) ≤ x1) → p_X12_hourGoes_28 fu fu (0 : Int32) s l) ∧ (¬ ((s 74 (s 60 18).toNatClampNeg) ≤ x1) → (p_X12_pickerGoes fu x1 s l) ∧ p_X12_hourGoes_2 fu n (x1 + 1) (f_X12_pickerGoes fu x1 s l).1 (f_X12_pickerGoes fu x1 s l).2))

set_option maxRecDepth 100000 in
set_option maxHeartbeats 1000000 in
theorem lp_X12_hourGoes_2 {G : ab_G} {fu : Nat} {d : Nat} {D : fl_D} : ∀ (n : Nat) (x1 : Int32) (s : fl_I) (l : fl_L), p_X12_hourGoes_2 fu n x1 s l → ab_C G (d + 5) 0 0 M_X12_hourGoes 2 [some (.ref 60), some (.int x1)] [] (hp D s l) (rt none (hp D (f_X12_hourGoes_2 fu n x1 s l).1 (f_X12_hourGoes_2 fu n x1 s l).2)) := by
  intro n
  induction n with
  | zero => intro x1 s l hk; exact hk.elim
  | succ n ih =>
    intro x1 s l hk
    generalize he : f_X12_hourGoes_2 fu (n + 1) x1 s l = res
    unfold f_X12_hourGoes_2 at he
    unfold p_X12_hourGoes_2 at hk
    refine r_iload_n rfl rfl ?_
    refine r_aload_n rfl rfl ?_
    refine q_getfield rfl (cc_60 _) rfl ?_
    refine r_aload_n rfl rfl ?_
    refine q_getfield rfl (cc_60 _) rfl ?_
    obtain ⟨hb0, hk⟩ := hk
    refine q_iald rfl (cc_74 _) hb0 ?_
    refine r_icmp_ge rfl (fun c_12 => ?_) (fun c_12 => ?_)
    · rw [if_pos c_12] at he
      replace hk := hk.1 c_12
      refine r_iconst_ (a := 0) rfl (by decide) ?_
      refine r_istore_n rfl (Nat.le_of_ble_eq_true rfl) rfl ?_
      subst he
      exact r_weak (L1 := [some (.ref 60), some (.int (0 : Int32))]) ⟨rfl, rfl, trivial⟩ (lp_X12_hourGoes_28 fu _ _ _ hk)
    · rw [if_neg c_12] at he
      replace hk := hk.2 c_12
      refine r_aload_n rfl rfl ?_
      refine r_iload_n rfl rfl ?_
      obtain ⟨hb4, hk⟩ := hk
      refine q_callV0 [_] _ rfl kY_X12_pickerGoes kT_X12_pickerGoes rfl rfl (Nat.le_of_ble_eq_true rfl) (Nat.le_of_ble_eq_true rfl) (cc_60 _) (s_X12_pickerGoes hb4) (fun r h q => ?_)
      obtain ⟨rfl, rfl⟩ := q
      simp only [Option.toList, List.cons_append, List.nil_append]
      refine r_iinc (b := x1 + 1) rfl rfl rfl (Nat.le_of_ble_eq_true rfl) rfl ?_
      refine r_goto rfl ?_
      subst he
      exact r_weak (L1 := [some (.ref 60), some (.int (x1 + 1))]) ⟨rfl, rfl, trivial⟩ (ih _ _ _ hk)

def f_X12_hourGoes (fu : Nat) (s : fl_I) (l : fl_L) : fl_I × fl_L :=
  f_X12_hourGoes_2 fu fu (0 : Int32) s l

def p_X12_hourGoes (fu : Nat) (s : fl_I) (l : fl_L) : Prop :=
  p_X12_hourGoes_2 fu fu (0 : Int32) s l

set_option maxRecDepth 100000 in
set_option maxHeartbeats 1000000 in
theorem s_X12_hourGoes {G : ab_G} {fu : Nat} {d : Nat} {D : fl_D} {s : fl_I} {l : fl_L}  (hk : p_X12_hourGoes fu s l) : ab_C G (d + 5) 0 0 M_X12_hourGoes 0 (ab_ent [.ref 60]) [] (hp D s l) (rt none (hp D (f_X12_hourGoes fu s l).1 (f_X12_hourGoes fu s l).2)) := by
  generalize he : (f_X12_hourGoes fu s l) = res
  unfold f_X12_hourGoes at he
  unfold p_X12_hourGoes at hk
  refine r_weak (L1 := [some (.ref 60), none]) ⟨rfl, trivial⟩ ?_
  refine r_iconst_ (a := 0) rfl (by decide) ?_
  refine r_istore_n rfl (Nat.le_of_ble_eq_true rfl) rfl ?_
  subst he
  exact r_weak (L1 := [some (.ref 60), some (.int (0 : Int32))]) ⟨rfl, rfl, trivial⟩ (lp_X12_hourGoes_2 fu _ _ _ hk)

