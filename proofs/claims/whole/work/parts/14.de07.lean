def f_X12_written (v0 : Int32) (v1 : Int32) (s : fl_I) (l : fl_L) : Int32 :=
  if ((f_X12_in v0 (0 : Int32) (s 60 65)) = 0) then (-1 : Int32) else if ((f_X12_in v1 (0 : Int32) (1 : Int32)) = 0) then (-1 : Int32) else if (v1 = 0) then (f_X12_bits (f_X12_writtenBits v0 s l)) else (f_X12_writtenBits v0 s l)

def p_X12_written (v0 : Int32) (v1 : Int32) (s : fl_I) (l : fl_L) : Prop :=
  (p_X12_in v0 (0 : Int32) (s 60 65)) ∧ ((((f_X12_in v0 (0 : Int32) (s 60 65)) = 0) → True) ∧ (¬ ((f_X12_in v0 (0 : Int32) (s 60 65)) = 0) → (p_X12_in v1 (0 : Int32) (1 : Int32)) ∧ ((((f_X12_in v1 (0 : Int32) (1 : Int32)) = 0) → True) ∧ (¬ ((f_X12_in v1 (0 : Int32) (1 : Int32)) = 0) → (p_X12_writtenBits v0 s l) ∧ (((v1 = 0) → (p_X12_bits (f_X12_writtenBits v0 s l)) ∧ True) ∧ (¬ (v1 = 0) → True))))))

set_option maxRecDepth 100000 in
set_option maxHeartbeats 4000000 in
theorem s_X12_written {G : ab_G} {d : Nat} {D : fl_D} {s : fl_I} {l : fl_L} {v0 : Int32} {v1 : Int32} (hk : p_X12_written v0 v1 s l) : ab_C G (d + 3) 0 0 M_X12_written 0 (ab_ent [.ref 60, .int v0, .int v1]) [] (hp D s l) (rt (some (.int (f_X12_written v0 v1 s l))) (hp D s l)) := by
  generalize he : (f_X12_written v0 v1 s l) = res
  unfold f_X12_written at he
  unfold p_X12_written at hk
  refine r_weak (L1 := [some (.ref 60), some (.int v0), some (.int v1), none]) ⟨rfl, rfl, rfl, trivial⟩ ?_
  refine r_iload_n rfl rfl ?_
  refine r_iconst_ (a := 0) rfl (by decide) ?_
  refine r_aload_n rfl rfl ?_
  refine q_getfield rfl (cc_60 _) rfl ?_
  obtain ⟨hb0, hk⟩ := hk
  refine r_callS0 [_, _, _] _ rfl kY_X12_in kT_X12_in rfl rfl (Nat.le_of_ble_eq_true rfl) (Nat.le_of_ble_eq_true rfl) (s_X12_in hb0) (fun r h q => ?_)
  obtain ⟨rfl, rfl⟩ := q
  simp only [Option.toList, List.cons_append, List.nil_append]
  refine r_if_eq rfl (fun c_9 => ?_) (fun c_9 => ?_)
  · rw [if_pos c_9] at he
    replace hk := hk.1 c_9
    refine r_iconst_ (a := -1) rfl (by decide) ?_
    refine r_iret rfl rfl rfl ?_
    subst he
    exact ⟨rfl, rfl⟩
  · rw [if_neg c_9] at he
    replace hk := hk.2 c_9
    refine r_iload_n rfl rfl ?_
    refine r_iconst_ (a := 0) rfl (by decide) ?_
    refine r_iconst_ (a := 1) rfl (by decide) ?_
    obtain ⟨hb1, hk⟩ := hk
    refine r_callS0 [_, _, _] _ rfl kY_X12_in kT_X12_in rfl rfl (Nat.le_of_ble_eq_true rfl) (Nat.le_of_ble_eq_true rfl) (s_X12_in hb1) (fun r h q => ?_)
    obtain ⟨rfl, rfl⟩ := q
    simp only [Option.toList, List.cons_append, List.nil_append]
    refine r_if_ne rfl (fun c_18 => ?_) (fun c_18 => ?_)
    · rw [if_neg c_18] at he
      replace hk := hk.2 c_18
      refine r_aload_n rfl rfl ?_
      refine r_iload_n rfl rfl ?_
      obtain ⟨hb2, hk⟩ := hk
      refine q_callV0 [_] _ rfl kY_X12_writtenBits kT_X12_writtenBits rfl rfl (Nat.le_of_ble_eq_true rfl) (Nat.le_of_ble_eq_true rfl) (cc_60 _) (s_X12_writtenBits hb2) (fun r h q => ?_)
      obtain ⟨rfl, rfl⟩ := q
      simp only [Option.toList, List.cons_append, List.nil_append]
      refine r_istore_n rfl (Nat.le_of_ble_eq_true rfl) rfl ?_
      refine r_iload_n rfl rfl ?_
      refine r_if_ne rfl (fun c_30 => ?_) (fun c_30 => ?_)
      · rw [if_neg c_30] at he
        replace hk := hk.2 c_30
        refine r_iload_n rfl rfl ?_
        refine r_iret rfl rfl rfl ?_
        subst he
        exact ⟨rfl, rfl⟩
      · rw [if_pos c_30] at he
        replace hk := hk.1 c_30
        refine r_iload_n rfl rfl ?_
        obtain ⟨hb3, hk⟩ := hk
        refine r_callS0 [_] _ rfl kY_X12_bits kT_X12_bits rfl rfl (Nat.le_of_ble_eq_true rfl) (Nat.le_of_ble_eq_true rfl) (s_X12_bits hb3) (fun r h q => ?_)
        obtain ⟨rfl, rfl⟩ := q
        simp only [Option.toList, List.cons_append, List.nil_append]
        refine r_goto rfl ?_
        refine r_iret rfl rfl rfl ?_
        subst he
        exact ⟨rfl, rfl⟩
    · rw [if_pos c_18] at he
      replace hk := hk.1 c_18
      refine r_iconst_ (a := -1) rfl (by decide) ?_
      refine r_iret rfl rfl rfl ?_
      subst he
      exact ⟨rfl, rfl⟩

def f_X0_makes_4 : Nat → Int32 → Int32 → Nat → fl_I → fl_L → Int32 × fl_I × fl_L
  | 0, x2, x3, t, s, l => (0, s, l)
  | n + 1, x2, x3, t, s, l =>
    if ((s t 1) ≤ x3) then (x2, s, l) else if ((f_X0_lacks (l (t + 2) x3.toNatClampNeg) s l).1 = 0) then f_X0_makes_4 n (x2 ||| ((1 : Int32) <<< (x3 &&& 31))) (x3 + 1) t (f_X0_lacks (l (t + 2) x3.toNatClampNeg) s l).2.1 (f_X0_lacks (l (t + 2) x3.toNatClampNeg) s l).2.2 else f_X0_makes_4 n x2 (x3 + 1) t (f_X0_lacks (l (t + 2) x3.toNatClampNeg) s l).2.1 (f_X0_lacks (l (t + 2) x3.toNatClampNeg) s l).2.2

def p_X0_makes_4 : Nat → Int32 → Int32 → Nat → fl_I → fl_L → Prop
  | 0, _, _, _, _, _ => False
  | n + 1, x2, x3, t, s, l =>
    ((((s t 1) ≤ x3) → True) ∧ (¬ ((s t 1) ≤ x3) → (vp_in x3 8) ∧ (p_X0_lacks (l (t + 2) x3.toNatClampNeg) s l) ∧ ((((f_X0_lacks (l (t + 2) x3.toNatClampNeg) s l).1 = 0) → p_X0_makes_4 n (x2 ||| ((1 : Int32) <<< (x3 &&& 31))) (x3 + 1) t (f_X0_lacks (l (t + 2) x3.toNatClampNeg) s l).2.1 (f_X0_lacks (l (t + 2) x3.toNatClampNeg) s l).2.2) ∧ (¬ ((f_X0_lacks (l (t + 2) x3.toNatClampNeg) s l).1 = 0) → p_X0_makes_4 n x2 (x3 + 1) t (f_X0_lacks (l (t + 2) x3.toNatClampNeg) s l).2.1 (f_X0_lacks (l (t + 2) x3.toNatClampNeg) s l).2.2))))

set_option maxRecDepth 100000 in
set_option maxHeartbeats 4000000 in
theorem lp_X0_makes_4 {G : ab_G} {d : Nat} {D : fl_D} {t : Nat} (htt : isT t) : ∀ (n : Nat) (x2 : Int32) (x3 : Int32) (s : fl_I) (l : fl_L), p_X0_makes_4 n x2 x3 t s l → ab_C G (d + 4) 0 0 M_X0_makes 4 [some (.ref 55), some (.ref t), some (.int x2), some (.int x3)] [] (hp D s l) (rt (some (.int (f_X0_makes_4 n x2 x3 t s l).1)) (hp D (f_X0_makes_4 n x2 x3 t s l).2.1 (f_X0_makes_4 n x2 x3 t s l).2.2)) := by
  intro n
  induction n with
  | zero => intro x2 x3 s l hk; exact hk.elim
  | succ n ih =>
    intro x2 x3 s l hk
    generalize he : f_X0_makes_4 (n + 1) x2 x3 t s l = res
    unfold f_X0_makes_4 at he
    unfold p_X0_makes_4 at hk
    refine r_iload_n rfl rfl ?_
    refine r_aload_n rfl rfl ?_
    refine q_getfield rfl (cT_0 htt) rfl ?_
    refine r_icmp_ge rfl (fun c_9 => ?_) (fun c_9 => ?_)
    · rw [if_pos c_9] at he
      replace hk := hk.1 c_9
      refine r_iload_n rfl rfl ?_
      refine r_iret rfl rfl rfl ?_
      subst he
      exact ⟨rfl, rfl⟩
    · rw [if_neg c_9] at he
      replace hk := hk.2 c_9
      refine r_aload_n rfl rfl ?_
      refine r_aload_n rfl rfl ?_
      refine q_getfield rfl (cT_0 htt) rfl ?_
      refine r_iload_n rfl rfl ?_
      obtain ⟨hb0, hk⟩ := hk
      refine q_lald rfl (cT_2 htt) hb0 ?_
      obtain ⟨hb1, hk⟩ := hk
      refine q_callV0 [_] _ rfl kY_X0_lacks kT_X0_lacks rfl rfl (Nat.le_of_ble_eq_true rfl) (Nat.le_of_ble_eq_true rfl) (cc_55 _) (s_X0_lacks hb1) (fun r h q => ?_)
      obtain ⟨rfl, rfl⟩ := q
      simp only [Option.toList, List.cons_append, List.nil_append]
      refine r_if_ne rfl (fun c_22 => ?_) (fun c_22 => ?_)
      · rw [if_neg c_22] at he
        replace hk := hk.2 c_22
        refine r_iinc (b := x3 + 1) rfl rfl rfl (Nat.le_of_ble_eq_true rfl) rfl ?_
        refine r_goto rfl ?_
        subst he
        exact r_weak (L1 := [some (.ref 55), some (.ref t), some (.int x2), some (.int (x3 + 1))]) ⟨rfl, rfl, rfl, rfl, trivial⟩ (ih _ _ _ _ hk)
      · rw [if_pos c_22] at he
        replace hk := hk.1 c_22
        refine r_iload_n rfl rfl ?_
        refine r_iconst_ (a := 1) rfl (by decide) ?_
        refine r_iload_n rfl rfl ?_
        refine r_ishl rfl ?_
        refine r_ior rfl ?_
        refine r_istore_n rfl (Nat.le_of_ble_eq_true rfl) rfl ?_
        refine r_iinc (b := x3 + 1) rfl rfl rfl (Nat.le_of_ble_eq_true rfl) rfl ?_
        refine r_goto rfl ?_
        subst he
        exact r_weak (L1 := [some (.ref 55), some (.ref t), some (.int (x2 ||| ((1 : Int32) <<< (x3 &&& 31)))), some (.int (x3 + 1))]) ⟨rfl, rfl, rfl, rfl, trivial⟩ (ih _ _ _ _ hk)

def f_X0_makes (t : Nat) (s : fl_I) (l : fl_L) : Int32 × fl_I × fl_L :=
  f_X0_makes_4 fu (0 : Int32) (0 : Int32) t s l

def p_X0_makes (t : Nat) (s : fl_I) (l : fl_L) : Prop :=
  p_X0_makes_4 fu (0 : Int32) (0 : Int32) t s l

set_option maxRecDepth 100000 in
set_option maxHeartbeats 4000000 in
theorem s_X0_makes {G : ab_G} {d : Nat} {D : fl_D} {s : fl_I} {l : fl_L} {t : Nat} (htt : isT t)  (hk : p_X0_makes t s l) : ab_C G (d + 4) 0 0 M_X0_makes 0 (ab_ent [.ref 55, .ref t]) [] (hp D s l) (rt (some (.int (f_X0_makes t s l).1)) (hp D (f_X0_makes t s l).2.1 (f_X0_makes t s l).2.2)) := by
  generalize he : (f_X0_makes t s l) = res
  unfold f_X0_makes at he
  unfold p_X0_makes at hk
  refine r_weak (L1 := [some (.ref 55), some (.ref t), none, none]) ⟨rfl, rfl, trivial⟩ ?_
  refine r_iconst_ (a := 0) rfl (by decide) ?_
  refine r_istore_n rfl (Nat.le_of_ble_eq_true rfl) rfl ?_
  refine r_iconst_ (a := 0) rfl (by decide) ?_
  refine r_istore_n rfl (Nat.le_of_ble_eq_true rfl) rfl ?_
  subst he
  exact r_weak (L1 := [some (.ref 55), some (.ref t), some (.int (0 : Int32)), some (.int (0 : Int32))]) ⟨rfl, rfl, rfl, rfl, trivial⟩ (lp_X0_makes_4 htt fu _ _ _ _ hk)

def f_X0_mostAtOnce_4 : Nat → Int32 → Int32 → Nat → fl_I → fl_L → Int32 × fl_I × fl_L
  | 0, x2, x3, t, s, l => (0, s, l)
  | n + 1, x2, x3, t, s, l =>
    if (((1 : Int32) <<< ((s t 1) &&& 31)) ≤ x3) then (x2, s, l) else if ((f_J6_bitCount_0f7a4 x3) ≤ (f_J6_bitCount_0f7a4 x2)) then f_X0_mostAtOnce_4 n x2 (x3 + 1) t s l else if ((f_X0_makesAtOnce x3 t s l).1 = 0) then f_X0_mostAtOnce_4 n x2 (x3 + 1) t (f_X0_makesAtOnce x3 t s l).2.1 (f_X0_makesAtOnce x3 t s l).2.2 else f_X0_mostAtOnce_4 n x3 (x3 + 1) t (f_X0_makesAtOnce x3 t s l).2.1 (f_X0_makesAtOnce x3 t s l).2.2

def p_X0_mostAtOnce_4 : Nat → Int32 → Int32 → Nat → fl_I → fl_L → Prop
  | 0, _, _, _, _, _ => False
  | n + 1, x2, x3, t, s, l =>
    (((((1 : Int32) <<< ((s t 1) &&& 31)) ≤ x3) → True) ∧ (¬ (((1 : Int32) <<< ((s t 1) &&& 31)) ≤ x3) → (p_J6_bitCount_0f7a4 x3) ∧ (p_J6_bitCount_0f7a4 x2) ∧ ((((f_J6_bitCount_0f7a4 x3) ≤ (f_J6_bitCount_0f7a4 x2)) → p_X0_mostAtOnce_4 n x2 (x3 + 1) t s l) ∧ (¬ ((f_J6_bitCount_0f7a4 x3) ≤ (f_J6_bitCount_0f7a4 x2)) → (p_X0_makesAtOnce x3 t s l) ∧ ((((f_X0_makesAtOnce x3 t s l).1 = 0) → p_X0_mostAtOnce_4 n x2 (x3 + 1) t (f_X0_makesAtOnce x3 t s l).2.1 (f_X0_makesAtOnce x3 t s l).2.2) ∧ (¬ ((f_X0_makesAtOnce x3 t s l).1 = 0) → p_X0_mostAtOnce_4 n x3 (x3 + 1) t (f_X0_makesAtOnce x3 t s l).2.1 (f_X0_makesAtOnce x3 t s l).2.2))))))

set_option maxRecDepth 100000 in
set_option maxHeartbeats 4000000 in
theorem lp_X0_mostAtOnce_4 {G : ab_G} {d : Nat} {D : fl_D} {t : Nat} (htt : isT t) : ∀ (n : Nat) (x2 : Int32) (x3 : Int32) (s : fl_I) (l : fl_L), p_X0_mostAtOnce_4 n x2 x3 t s l → ab_C G (d + 4) 0 0 M_X0_mostAtOnce 4 [some (.ref 55), some (.ref t), some (.int x2), some (.int x3)] [] (hp D s l) (rt (some (.int (f_X0_mostAtOnce_4 n x2 x3 t s l).1)) (hp D (f_X0_mostAtOnce_4 n x2 x3 t s l).2.1 (f_X0_mostAtOnce_4 n x2 x3 t s l).2.2)) := by
  intro n
  induction n with
  | zero => intro x2 x3 s l hk; exact hk.elim
  | succ n ih =>
    intro x2 x3 s l hk
    generalize he : f_X0_mostAtOnce_4 (n + 1) x2 x3 t s l = res
    unfold f_X0_mostAtOnce_4 at he
    unfold p_X0_mostAtOnce_4 at hk
    refine r_iload_n rfl rfl ?_
    refine r_iconst_ (a := 1) rfl (by decide) ?_
    refine r_aload_n rfl rfl ?_
    refine q_getfield rfl (cT_0 htt) rfl ?_
    refine r_ishl rfl ?_
    refine r_icmp_ge rfl (fun c_11 => ?_) (fun c_11 => ?_)
    · rw [if_pos c_11] at he
      replace hk := hk.1 c_11
      refine r_iload_n rfl rfl ?_
      refine r_iret rfl rfl rfl ?_
      subst he
      exact ⟨rfl, rfl⟩
    · rw [if_neg c_11] at he
      replace hk := hk.2 c_11
      refine r_iload_n rfl rfl ?_
      obtain ⟨hb0, hk⟩ := hk
      refine r_callS0 [_] _ rfl kY_J6_bitCount_0f7a4 kT_J6_bitCount_0f7a4 rfl rfl (Nat.le_of_ble_eq_true rfl) (Nat.le_of_ble_eq_true rfl) (s_J6_bitCount_0f7a4 hb0) (fun r h q => ?_)
      obtain ⟨rfl, rfl⟩ := q
      simp only [Option.toList, List.cons_append, List.nil_append]
      refine r_iload_n rfl rfl ?_
      obtain ⟨hb1, hk⟩ := hk
      refine r_callS0 [_] _ rfl kY_J6_bitCount_0f7a4 kT_J6_bitCount_0f7a4 rfl rfl (Nat.le_of_ble_eq_true rfl) (Nat.le_of_ble_eq_true rfl) (s_J6_bitCount_0f7a4 hb1) (fun r h q => ?_)
      obtain ⟨rfl, rfl⟩ := q
      simp only [Option.toList, List.cons_append, List.nil_append]
      refine r_icmp_le rfl (fun c_22 => ?_) (fun c_22 => ?_)
      · rw [if_pos c_22] at he
        replace hk := hk.1 c_22
        refine r_iinc (b := x3 + 1) rfl rfl rfl (Nat.le_of_ble_eq_true rfl) rfl ?_
        refine r_goto rfl ?_
        subst he
        exact r_weak (L1 := [some (.ref 55), some (.ref t), some (.int x2), some (.int (x3 + 1))]) ⟨rfl, rfl, rfl, rfl, trivial⟩ (ih _ _ _ _ hk)
      · rw [if_neg c_22] at he
        replace hk := hk.2 c_22
        refine r_aload_n rfl rfl ?_
        refine r_aload_n rfl rfl ?_
        refine r_iload_n rfl rfl ?_
        obtain ⟨hb2, hk⟩ := hk
        refine q_callV0 [_, _] _ rfl kY_X0_makesAtOnce kT_X0_makesAtOnce rfl rfl (Nat.le_of_ble_eq_true rfl) (Nat.le_of_ble_eq_true rfl) (cc_55 _) (s_X0_makesAtOnce htt hb2) (fun r h q => ?_)
        obtain ⟨rfl, rfl⟩ := q
        simp only [Option.toList, List.cons_append, List.nil_append]
        refine r_if_eq rfl (fun c_31 => ?_) (fun c_31 => ?_)
        · rw [if_pos c_31] at he
          replace hk := hk.1 c_31
          refine r_iinc (b := x3 + 1) rfl rfl rfl (Nat.le_of_ble_eq_true rfl) rfl ?_
          refine r_goto rfl ?_
          subst he
          exact r_weak (L1 := [some (.ref 55), some (.ref t), some (.int x2), some (.int (x3 + 1))]) ⟨rfl, rfl, rfl, rfl, trivial⟩ (ih _ _ _ _ hk)
        · rw [if_neg c_31] at he
          replace hk := hk.2 c_31
          refine r_iload_n rfl rfl ?_
          refine r_istore_n rfl (Nat.le_of_ble_eq_true rfl) rfl ?_
          refine r_iinc (b := x3 + 1) rfl rfl rfl (Nat.le_of_ble_eq_true rfl) rfl ?_
          refine r_goto rfl ?_
          subst he
          exact r_weak (L1 := [some (.ref 55), some (.ref t), some (.int x3), some (.int (x3 + 1))]) ⟨rfl, rfl, rfl, rfl, trivial⟩ (ih _ _ _ _ hk)

def f_X0_mostAtOnce (t : Nat) (s : fl_I) (l : fl_L) : Int32 × fl_I × fl_L :=
  f_X0_mostAtOnce_4 fu (0 : Int32) (1 : Int32) t s l

def p_X0_mostAtOnce (t : Nat) (s : fl_I) (l : fl_L) : Prop :=
  p_X0_mostAtOnce_4 fu (0 : Int32) (1 : Int32) t s l

set_option maxRecDepth 100000 in
set_option maxHeartbeats 4000000 in
theorem s_X0_mostAtOnce {G : ab_G} {d : Nat} {D : fl_D} {s : fl_I} {l : fl_L} {t : Nat} (htt : isT t)  (hk : p_X0_mostAtOnce t s l) : ab_C G (d + 4) 0 0 M_X0_mostAtOnce 0 (ab_ent [.ref 55, .ref t]) [] (hp D s l) (rt (some (.int (f_X0_mostAtOnce t s l).1)) (hp D (f_X0_mostAtOnce t s l).2.1 (f_X0_mostAtOnce t s l).2.2)) := by
  generalize he : (f_X0_mostAtOnce t s l) = res
  unfold f_X0_mostAtOnce at he
  unfold p_X0_mostAtOnce at hk
  refine r_weak (L1 := [some (.ref 55), some (.ref t), none, none]) ⟨rfl, rfl, trivial⟩ ?_
  refine r_iconst_ (a := 0) rfl (by decide) ?_
  refine r_istore_n rfl (Nat.le_of_ble_eq_true rfl) rfl ?_
  refine r_iconst_ (a := 1) rfl (by decide) ?_
  refine r_istore_n rfl (Nat.le_of_ble_eq_true rfl) rfl ?_
  subst he
  exact r_weak (L1 := [some (.ref 55), some (.ref t), some (.int (0 : Int32)), some (.int (1 : Int32))]) ⟨rfl, rfl, rfl, rfl, trivial⟩ (lp_X0_mostAtOnce_4 htt fu _ _ _ _ hk)

def f_X7_left_5 : Nat → Int32 → Int32 → Int32 → Nat → fl_I → fl_L → Int32
  | 0, _, _, _, _, _, _ => 0
  | n + 1, x2, x3, x4, t, s, l =>
    if ((s t 1) ≤ x4) then x3 else if ((f_X7_agrees (l (t + 2) x4.toNatClampNeg) x2 s l) = 0) then f_X7_left_5 n x2 x3 (x4 + 1) t s l else f_X7_left_5 n x2 (x3 ||| ((1 : Int32) <<< (x4 &&& 31))) (x4 + 1) t s l

def p_X7_left_5 : Nat → Int32 → Int32 → Int32 → Nat → fl_I → fl_L → Prop
  | 0, _, _, _, _, _, _ => False
  | n + 1, x2, x3, x4, t, s, l =>
    ((((s t 1) ≤ x4) → True) ∧ (¬ ((s t 1) ≤ x4) → (vp_in x4 8) ∧ (p_X7_agrees (l (t + 2) x4.toNatClampNeg) x2 s l) ∧ ((((f_X7_agrees (l (t + 2) x4.toNatClampNeg) x2 s l) = 0) → p_X7_left_5 n x2 x3 (x4 + 1) t s l) ∧ (¬ ((f_X7_agrees (l (t + 2) x4.toNatClampNeg) x2 s l) = 0) → p_X7_left_5 n x2 (x3 ||| ((1 : Int32) <<< (x4 &&& 31))) (x4 + 1) t s l))))

set_option maxRecDepth 100000 in
set_option maxHeartbeats 4000000 in
theorem lp_X7_left_5 {G : ab_G} {d : Nat} {D : fl_D} {s : fl_I} {l : fl_L} {t : Nat} (htt : isT t) : ∀ (n : Nat) (x2 : Int32) (x3 : Int32) (x4 : Int32), p_X7_left_5 n x2 x3 x4 t s l → ab_C G (d + 3) 0 0 M_X7_left 5 [some (.ref 57), some (.ref t), some (.int x2), some (.int x3), some (.int x4)] [] (hp D s l) (rt (some (.int (f_X7_left_5 n x2 x3 x4 t s l))) (hp D s l)) := by
  intro n
  induction n with
  | zero => intro x2 x3 x4 hk; exact hk.elim
  | succ n ih =>
    intro x2 x3 x4 hk
    generalize he : f_X7_left_5 (n + 1) x2 x3 x4 t s l = res
    unfold f_X7_left_5 at he
    unfold p_X7_left_5 at hk
    refine r_iload rfl rfl ?_
    refine r_aload_n rfl rfl ?_
    refine q_getfield rfl (cT_0 htt) rfl ?_
    refine r_icmp_ge rfl (fun c_11 => ?_) (fun c_11 => ?_)
    · rw [if_pos c_11] at he
      replace hk := hk.1 c_11
      refine r_iload_n rfl rfl ?_
      refine r_iret rfl rfl rfl ?_
      subst he
      exact ⟨rfl, rfl⟩
    · rw [if_neg c_11] at he
      replace hk := hk.2 c_11
      refine r_aload_n rfl rfl ?_
      refine r_aload_n rfl rfl ?_
      refine q_getfield rfl (cT_0 htt) rfl ?_
      refine r_iload rfl rfl ?_
      obtain ⟨hb0, hk⟩ := hk
      refine q_lald rfl (cT_2 htt) hb0 ?_
      refine r_iload_n rfl rfl ?_
      obtain ⟨hb1, hk⟩ := hk
      refine q_callV0 [_, _] _ rfl kY_X7_agrees kT_X7_agrees rfl rfl (Nat.le_of_ble_eq_true rfl) (Nat.le_of_ble_eq_true rfl) (cc_57 _) (s_X7_agrees hb1) (fun r h q => ?_)
      obtain ⟨rfl, rfl⟩ := q
      simp only [Option.toList, List.cons_append, List.nil_append]
      refine r_if_eq rfl (fun c_26 => ?_) (fun c_26 => ?_)
      · rw [if_pos c_26] at he
        replace hk := hk.1 c_26
        refine r_iinc (b := x4 + 1) rfl rfl rfl (Nat.le_of_ble_eq_true rfl) rfl ?_
        refine r_goto rfl ?_
        subst he
        exact r_weak (L1 := [some (.ref 57), some (.ref t), some (.int x2), some (.int x3), some (.int (x4 + 1))]) ⟨rfl, rfl, rfl, rfl, rfl, trivial⟩ (ih _ _ _ hk)
      · rw [if_neg c_26] at he
        replace hk := hk.2 c_26
        refine r_iload_n rfl rfl ?_
        refine r_iconst_ (a := 1) rfl (by decide) ?_
        refine r_iload rfl rfl ?_
        refine r_ishl rfl ?_
        refine r_ior rfl ?_
        refine r_istore_n rfl (Nat.le_of_ble_eq_true rfl) rfl ?_
        refine r_iinc (b := x4 + 1) rfl rfl rfl (Nat.le_of_ble_eq_true rfl) rfl ?_
        refine r_goto rfl ?_
        subst he
        exact r_weak (L1 := [some (.ref 57), some (.ref t), some (.int x2), some (.int (x3 ||| ((1 : Int32) <<< (x4 &&& 31)))), some (.int (x4 + 1))]) ⟨rfl, rfl, rfl, rfl, rfl, trivial⟩ (ih _ _ _ hk)

def f_X7_left (v1 : Int32) (t : Nat) (s : fl_I) (l : fl_L) : Int32 :=
  f_X7_left_5 fu v1 (0 : Int32) (0 : Int32) t s l

def p_X7_left (v1 : Int32) (t : Nat) (s : fl_I) (l : fl_L) : Prop :=
  p_X7_left_5 fu v1 (0 : Int32) (0 : Int32) t s l

set_option maxRecDepth 100000 in
set_option maxHeartbeats 4000000 in
theorem s_X7_left {G : ab_G} {d : Nat} {D : fl_D} {s : fl_I} {l : fl_L} {t : Nat} (htt : isT t) {v1 : Int32} (hk : p_X7_left v1 t s l) : ab_C G (d + 3) 0 0 M_X7_left 0 (ab_ent [.ref 57, .ref t, .int v1]) [] (hp D s l) (rt (some (.int (f_X7_left v1 t s l))) (hp D s l)) := by
  generalize he : (f_X7_left v1 t s l) = res
  unfold f_X7_left at he
  unfold p_X7_left at hk
  refine r_weak (L1 := [some (.ref 57), some (.ref t), some (.int v1), none, none]) ⟨rfl, rfl, rfl, trivial⟩ ?_
  refine r_iconst_ (a := 0) rfl (by decide) ?_
  refine r_istore_n rfl (Nat.le_of_ble_eq_true rfl) rfl ?_
  refine r_iconst_ (a := 0) rfl (by decide) ?_
  refine r_istore rfl (Nat.le_of_ble_eq_true rfl) rfl ?_
  subst he
  exact r_weak (L1 := [some (.ref 57), some (.ref t), some (.int v1), some (.int (0 : Int32)), some (.int (0 : Int32))]) ⟨rfl, rfl, rfl, rfl, rfl, trivial⟩ (lp_X7_left_5 htt fu _ _ _ hk)

def f_X9_owed_6 : Nat → Int32 → Int32 → Int32 → Nat → Nat → fl_I → fl_L → Int32 × fl_I × fl_L
  | 0, x3, x4, x5, t, a, s, l => (0, s, l)
  | n + 1, x3, x4, x5, t, a, s, l =>
    if ((s a 1) ≤ x5) then (x4, s, l) else if ((f_X10_holder x5 a s l) = x3) then f_X9_owed_6 n x3 (x4 + (f_X11_money (f_X1_pays x3 x5 t a s l).1)) (x5 + 1) t a (f_X1_pays x3 x5 t a s l).2.1 (f_X1_pays x3 x5 t a s l).2.2 else f_X9_owed_6 n x3 x4 (x5 + 1) t a s l

def p_X9_owed_6 : Nat → Int32 → Int32 → Int32 → Nat → Nat → fl_I → fl_L → Prop
  | 0, _, _, _, _, _, _, _ => False
  | n + 1, x3, x4, x5, t, a, s, l =>
    ((((s a 1) ≤ x5) → True) ∧ (¬ ((s a 1) ≤ x5) → (p_X10_holder x5 a s l) ∧ ((((f_X10_holder x5 a s l) = x3) → (p_X1_pays x3 x5 t a s l) ∧ (p_X11_money (f_X1_pays x3 x5 t a s l).1) ∧ p_X9_owed_6 n x3 (x4 + (f_X11_money (f_X1_pays x3 x5 t a s l).1)) (x5 + 1) t a (f_X1_pays x3 x5 t a s l).2.1 (f_X1_pays x3 x5 t a s l).2.2) ∧ (¬ ((f_X10_holder x5 a s l) = x3) → p_X9_owed_6 n x3 x4 (x5 + 1) t a s l))))

set_option maxRecDepth 100000 in
set_option maxHeartbeats 4000000 in
theorem lp_X9_owed_6 {G : ab_G} {d : Nat} {D : fl_D} {t : Nat} (htt : isT t) {a : Nat} (hya : isY D a) : ∀ (n : Nat) (x3 : Int32) (x4 : Int32) (x5 : Int32) (s : fl_I) (l : fl_L), p_X9_owed_6 n x3 x4 x5 t a s l → ab_C G (d + 3) 0 0 M_X9_owed 6 [some (.ref 46), some (.ref t), some (.ref a), some (.int x3), some (.int x4), some (.int x5)] [] (hp D s l) (rt (some (.int (f_X9_owed_6 n x3 x4 x5 t a s l).1)) (hp D (f_X9_owed_6 n x3 x4 x5 t a s l).2.1 (f_X9_owed_6 n x3 x4 x5 t a s l).2.2)) := by
  intro n
  induction n with
  | zero => intro x3 x4 x5 s l hk; exact hk.elim
  | succ n ih =>
    intro x3 x4 x5 s l hk
    generalize he : f_X9_owed_6 (n + 1) x3 x4 x5 t a s l = res
    unfold f_X9_owed_6 at he
    unfold p_X9_owed_6 at hk
    refine r_iload rfl rfl ?_
    refine r_aload_n rfl rfl ?_
    refine q_getfield rfl (cY_0 hya) rfl ?_
    refine r_icmp_ge rfl (fun c_12 => ?_) (fun c_12 => ?_)
    · rw [if_pos c_12] at he
      replace hk := hk.1 c_12
      refine r_iload rfl rfl ?_
      refine r_iret rfl rfl rfl ?_
      subst he
      exact ⟨rfl, rfl⟩
    · rw [if_neg c_12] at he
      replace hk := hk.2 c_12
      refine r_aload_n rfl rfl ?_
      refine r_iload rfl rfl ?_
      obtain ⟨hb0, hk⟩ := hk
      refine q_callV0 [_] _ rfl kY_X10_holder kT_X10_holder rfl rfl (Nat.le_of_ble_eq_true rfl) (Nat.le_of_ble_eq_true rfl) (cY_0 hya) (s_X10_holder hya hb0) (fun r h q => ?_)
      obtain ⟨rfl, rfl⟩ := q
      simp only [Option.toList, List.cons_append, List.nil_append]
      refine r_iload_n rfl rfl ?_
      refine r_icmp_ne rfl (fun c_22 => ?_) (fun c_22 => ?_)
      · rw [if_neg c_22] at he
        replace hk := hk.2 c_22
        refine r_iinc (b := x5 + 1) rfl rfl rfl (Nat.le_of_ble_eq_true rfl) rfl ?_
        refine r_goto rfl ?_
        subst he
        exact r_weak (L1 := [some (.ref 46), some (.ref t), some (.ref a), some (.int x3), some (.int x4), some (.int (x5 + 1))]) ⟨rfl, rfl, rfl, rfl, rfl, rfl, trivial⟩ (ih _ _ _ _ _ hk)
      · rw [if_pos c_22] at he
        replace hk := hk.1 c_22
        refine r_iload rfl rfl ?_
        refine r_aload_n rfl rfl ?_
        refine q_getfield rfl (cc_46 _) rfl ?_
        refine r_aload_n rfl rfl ?_
        refine r_aload_n rfl rfl ?_
        refine r_iload_n rfl rfl ?_
        refine r_iload rfl rfl ?_
        obtain ⟨hb1, hk⟩ := hk
        refine q_callV0 [_, _, _, _] _ rfl kY_X1_pays kT_X1_pays rfl rfl (Nat.le_of_ble_eq_true rfl) (Nat.le_of_ble_eq_true rfl) (cc_47 _) (s_X1_pays htt hya hb1) (fun r h q => ?_)
        obtain ⟨rfl, rfl⟩ := q
        simp only [Option.toList, List.cons_append, List.nil_append]
        obtain ⟨hb2, hk⟩ := hk
        refine r_callSN0 [_] _ rfl kY_X11_money kT_X11_money rfl rfl (Nat.le_of_ble_eq_true rfl) (Nat.le_of_ble_eq_true rfl) (s_X11_money hb2) (fun r h q => ?_)
        obtain ⟨rfl, rfl⟩ := q
        simp only [Option.toList, List.cons_append, List.nil_append]
        refine r_iadd rfl ?_
        refine r_istore rfl (Nat.le_of_ble_eq_true rfl) rfl ?_
        refine r_iinc (b := x5 + 1) rfl rfl rfl (Nat.le_of_ble_eq_true rfl) rfl ?_
        refine r_goto rfl ?_
        subst he
        exact r_weak (L1 := [some (.ref 46), some (.ref t), some (.ref a), some (.int x3), some (.int (x4 + (f_X11_money (f_X1_pays x3 x5 t a s l).1))), some (.int (x5 + 1))]) ⟨rfl, rfl, rfl, rfl, rfl, rfl, trivial⟩ (ih _ _ _ _ _ hk)

def f_X9_owed (v2 : Int32) (t : Nat) (a : Nat) (s : fl_I) (l : fl_L) : Int32 × fl_I × fl_L :=
  f_X9_owed_6 fu v2 (0 : Int32) (0 : Int32) t a s l

def p_X9_owed (v2 : Int32) (t : Nat) (a : Nat) (s : fl_I) (l : fl_L) : Prop :=
  p_X9_owed_6 fu v2 (0 : Int32) (0 : Int32) t a s l

set_option maxRecDepth 100000 in
set_option maxHeartbeats 4000000 in
theorem s_X9_owed {G : ab_G} {d : Nat} {D : fl_D} {s : fl_I} {l : fl_L} {t : Nat} (htt : isT t) {a : Nat} (hya : isY D a) {v2 : Int32} (hk : p_X9_owed v2 t a s l) : ab_C G (d + 3) 0 0 M_X9_owed 0 (ab_ent [.ref 46, .ref t, .ref a, .int v2]) [] (hp D s l) (rt (some (.int (f_X9_owed v2 t a s l).1)) (hp D (f_X9_owed v2 t a s l).2.1 (f_X9_owed v2 t a s l).2.2)) := by
  generalize he : (f_X9_owed v2 t a s l) = res
  unfold f_X9_owed at he
  unfold p_X9_owed at hk
  refine r_weak (L1 := [some (.ref 46), some (.ref t), some (.ref a), some (.int v2), none, none]) ⟨rfl, rfl, rfl, rfl, trivial⟩ ?_
  refine r_iconst_ (a := 0) rfl (by decide) ?_
  refine r_istore rfl (Nat.le_of_ble_eq_true rfl) rfl ?_
  refine r_iconst_ (a := 0) rfl (by decide) ?_
  refine r_istore rfl (Nat.le_of_ble_eq_true rfl) rfl ?_
  subst he
  exact r_weak (L1 := [some (.ref 46), some (.ref t), some (.ref a), some (.int v2), some (.int (0 : Int32)), some (.int (0 : Int32))]) ⟨rfl, rfl, rfl, rfl, rfl, rfl, trivial⟩ (lp_X9_owed_6 htt hya fu _ _ _ _ _ hk)

def f_X11_together (v0 : Int32) (D : fl_D) (s : fl_I) (l : fl_L) : Int32 × fl_I × fl_L :=
  if (v0 < 0) then ((-1 : Int32), s, l) else if (v0 ≤ (1 : Int32)) then if (v0 = 0) then ((f_J6_bitCount_0f7a4 (f_X0_mostAtOnce (if D.2.2.1 then 20 else 9) (f_X0_gather (5 : Int32) (if D.2.2.1 then 20 else 9) 31 s l).1 (f_X0_gather (5 : Int32) (if D.2.2.1 then 20 else 9) 31 s l).2).1), (f_X0_mostAtOnce (if D.2.2.1 then 20 else 9) (f_X0_gather (5 : Int32) (if D.2.2.1 then 20 else 9) 31 s l).1 (f_X0_gather (5 : Int32) (if D.2.2.1 then 20 else 9) 31 s l).2).2.1, (f_X0_mostAtOnce (if D.2.2.1 then 20 else 9) (f_X0_gather (5 : Int32) (if D.2.2.1 then 20 else 9) 31 s l).1 (f_X0_gather (5 : Int32) (if D.2.2.1 then 20 else 9) 31 s l).2).2.2) else ((f_X0_mostAtOnce (if D.2.2.1 then 20 else 9) (f_X0_gather (5 : Int32) (if D.2.2.1 then 20 else 9) 31 s l).1 (f_X0_gather (5 : Int32) (if D.2.2.1 then 20 else 9) 31 s l).2).1, (f_X0_mostAtOnce (if D.2.2.1 then 20 else 9) (f_X0_gather (5 : Int32) (if D.2.2.1 then 20 else 9) 31 s l).1 (f_X0_gather (5 : Int32) (if D.2.2.1 then 20 else 9) 31 s l).2).2.1, (f_X0_mostAtOnce (if D.2.2.1 then 20 else 9) (f_X0_gather (5 : Int32) (if D.2.2.1 then 20 else 9) 31 s l).1 (f_X0_gather (5 : Int32) (if D.2.2.1 then 20 else 9) 31 s l).2).2.2) else ((-1 : Int32), s, l)

def p_X11_together (v0 : Int32) (D : fl_D) (s : fl_I) (l : fl_L) : Prop :=
  (((v0 < 0) → True) ∧ (¬ (v0 < 0) → (((v0 ≤ (1 : Int32)) → (p_X0_gather (5 : Int32) (if D.2.2.1 then 20 else 9) 31 s l) ∧ (p_X0_mostAtOnce (if D.2.2.1 then 20 else 9) (f_X0_gather (5 : Int32) (if D.2.2.1 then 20 else 9) 31 s l).1 (f_X0_gather (5 : Int32) (if D.2.2.1 then 20 else 9) 31 s l).2) ∧ (((v0 = 0) → (p_J6_bitCount_0f7a4 (f_X0_mostAtOnce (if D.2.2.1 then 20 else 9) (f_X0_gather (5 : Int32) (if D.2.2.1 then 20 else 9) 31 s l).1 (f_X0_gather (5 : Int32) (if D.2.2.1 then 20 else 9) 31 s l).2).1) ∧ True) ∧ (¬ (v0 = 0) → True))) ∧ (¬ (v0 ≤ (1 : Int32)) → True))))

set_option maxRecDepth 100000 in
set_option maxHeartbeats 4000000 in
theorem s_X11_together {G : ab_G} {d : Nat} {D : fl_D} {s : fl_I} {l : fl_L} {v0 : Int32} (hk : p_X11_together v0 D s l) : ab_C G (d + 5) 0 0 M_X11_together 0 (ab_ent [.ref 0, .int v0]) [] (hp D s l) (rt (some (.int (f_X11_together v0 D s l).1)) (hp D (f_X11_together v0 D s l).2.1 (f_X11_together v0 D s l).2.2)) := by
  generalize he : (f_X11_together v0 D s l) = res
  unfold f_X11_together at he
  unfold p_X11_together at hk
  refine r_weak (L1 := [some (.ref 0), some (.int v0), none]) ⟨rfl, rfl, trivial⟩ ?_
  refine r_iload_n rfl rfl ?_
  refine r_if_lt rfl (fun c_1 => ?_) (fun c_1 => ?_)
  · rw [if_pos c_1] at he
    replace hk := hk.1 c_1
    refine r_iconst_ (a := -1) rfl (by decide) ?_
    refine r_iret rfl rfl rfl ?_
    subst he
    exact ⟨rfl, rfl⟩
  · rw [if_neg c_1] at he
    replace hk := hk.2 c_1
    refine r_iload_n rfl rfl ?_
    refine r_iconst_ (a := 1) rfl (by decide) ?_
    refine r_icmp_le rfl (fun c_6 => ?_) (fun c_6 => ?_)
    · rw [if_pos c_6] at he
      replace hk := hk.1 c_6
      refine r_aload_n rfl rfl ?_
      refine q_getfield rfl (cc_0 _) rfl ?_
      refine r_aload_n rfl rfl ?_
      refine q_getfield rfl (cc_0 _) rfl ?_
      refine r_aload_n rfl rfl ?_
      refine q_getfield rfl (cc_0 _) rfl ?_
      refine r_iconst_ (a := 5) rfl (by decide) ?_
      obtain ⟨hb0, hk⟩ := hk
      refine q_callV0 [_, _, _] _ rfl kY_X0_gather kT_X0_gather rfl rfl (Nat.le_of_ble_eq_true rfl) (Nat.le_of_ble_eq_true rfl) (cc_55 _) (s_X0_gather (isT_l _) (Or.inl rfl) hb0) (fun r h q => ?_)
      obtain ⟨rfl, rfl⟩ := q
      simp only [Option.toList, List.cons_append, List.nil_append]
      refine r_aload_n rfl rfl ?_
      refine q_getfield rfl (cc_0 _) rfl ?_
      refine r_aload_n rfl rfl ?_
      refine q_getfield rfl (cc_0 _) rfl ?_
      obtain ⟨hb1, hk⟩ := hk
      refine q_callV0 [_] _ rfl kY_X0_mostAtOnce kT_X0_mostAtOnce rfl rfl (Nat.le_of_ble_eq_true rfl) (Nat.le_of_ble_eq_true rfl) (cc_55 _) (s_X0_mostAtOnce (isT_l _) hb1) (fun r h q => ?_)
      obtain ⟨rfl, rfl⟩ := q
      simp only [Option.toList, List.cons_append, List.nil_append]
      refine r_istore_n rfl (Nat.le_of_ble_eq_true rfl) rfl ?_
      refine r_iload_n rfl rfl ?_
      refine r_if_ne rfl (fun c_40 => ?_) (fun c_40 => ?_)
      · rw [if_neg c_40] at he
        replace hk := hk.2 c_40
        refine r_iload_n rfl rfl ?_
        refine r_iret rfl rfl rfl ?_
        subst he
        exact ⟨rfl, rfl⟩
      · rw [if_pos c_40] at he
        replace hk := hk.1 c_40
        refine r_iload_n rfl rfl ?_
        obtain ⟨hb2, hk⟩ := hk
        refine r_callS0 [_] _ rfl kY_J6_bitCount_0f7a4 kT_J6_bitCount_0f7a4 rfl rfl (Nat.le_of_ble_eq_true rfl) (Nat.le_of_ble_eq_true rfl) (s_J6_bitCount_0f7a4 hb2) (fun r h q => ?_)
        obtain ⟨rfl, rfl⟩ := q
        simp only [Option.toList, List.cons_append, List.nil_append]
        refine r_goto rfl ?_
        refine r_iret rfl rfl rfl ?_
        subst he
        exact ⟨rfl, rfl⟩
    · rw [if_neg c_6] at he
      replace hk := hk.2 c_6
      refine r_iconst_ (a := -1) rfl (by decide) ?_
      refine r_iret rfl rfl rfl ?_
      subst he
      exact ⟨rfl, rfl⟩

def f_X11_written (v0 : Int32) (v1 : Int32) (D : fl_D) (s : fl_I) (l : fl_L) : Int32 :=
  if (v0 < 0) then (-1 : Int32) else if ((s 57 0) < v0) then (-1 : Int32) else if (v1 < 0) then (-1 : Int32) else if (v1 ≤ (1 : Int32)) then if (v1 = 0) then (f_J6_bitCount_0f7a4 (f_X7_left v0 (if D.2.2.1 then 20 else 9) s l)) else (f_X7_left v0 (if D.2.2.1 then 20 else 9) s l) else (-1 : Int32)

def p_X11_written (v0 : Int32) (v1 : Int32) (D : fl_D) (s : fl_I) (l : fl_L) : Prop :=
  (((v0 < 0) → True) ∧ (¬ (v0 < 0) → ((((s 57 0) < v0) → True) ∧ (¬ ((s 57 0) < v0) → (((v1 < 0) → True) ∧ (¬ (v1 < 0) → (((v1 ≤ (1 : Int32)) → (p_X7_left v0 (if D.2.2.1 then 20 else 9) s l) ∧ (((v1 = 0) → (p_J6_bitCount_0f7a4 (f_X7_left v0 (if D.2.2.1 then 20 else 9) s l)) ∧ True) ∧ (¬ (v1 = 0) → True))) ∧ (¬ (v1 ≤ (1 : Int32)) → True))))))))

set_option maxRecDepth 100000 in
set_option maxHeartbeats 4000000 in
theorem s_X11_written {G : ab_G} {d : Nat} {D : fl_D} {s : fl_I} {l : fl_L} {v0 : Int32} {v1 : Int32} (hk : p_X11_written v0 v1 D s l) : ab_C G (d + 4) 0 0 M_X11_written 0 (ab_ent [.ref 0, .int v0, .int v1]) [] (hp D s l) (rt (some (.int (f_X11_written v0 v1 D s l))) (hp D s l)) := by
  generalize he : (f_X11_written v0 v1 D s l) = res
  unfold f_X11_written at he
  unfold p_X11_written at hk
  refine r_weak (L1 := [some (.ref 0), some (.int v0), some (.int v1), none]) ⟨rfl, rfl, rfl, trivial⟩ ?_
  refine r_iload_n rfl rfl ?_
  refine r_if_lt rfl (fun c_1 => ?_) (fun c_1 => ?_)
  · rw [if_pos c_1] at he
    replace hk := hk.1 c_1
    refine r_iconst_ (a := -1) rfl (by decide) ?_
    refine r_iret rfl rfl rfl ?_
    subst he
    exact ⟨rfl, rfl⟩
  · rw [if_neg c_1] at he
    replace hk := hk.2 c_1
    refine r_iload_n rfl rfl ?_
    refine r_aload_n rfl rfl ?_
    refine q_getfield rfl (cc_0 _) rfl ?_
    refine q_getfield rfl (cc_57 _) rfl ?_
    refine r_icmp_gt rfl (fun c_12 => ?_) (fun c_12 => ?_)
    · rw [if_pos c_12] at he
      replace hk := hk.1 c_12
      refine r_iconst_ (a := -1) rfl (by decide) ?_
      refine r_iret rfl rfl rfl ?_
      subst he
      exact ⟨rfl, rfl⟩
    · rw [if_neg c_12] at he
      replace hk := hk.2 c_12
      refine r_iload_n rfl rfl ?_
      refine r_if_lt rfl (fun c_16 => ?_) (fun c_16 => ?_)
      · rw [if_pos c_16] at he
        replace hk := hk.1 c_16
        refine r_iconst_ (a := -1) rfl (by decide) ?_
        refine r_iret rfl rfl rfl ?_
        subst he
        exact ⟨rfl, rfl⟩
      · rw [if_neg c_16] at he
        replace hk := hk.2 c_16
        refine r_iload_n rfl rfl ?_
        refine r_iconst_ (a := 1) rfl (by decide) ?_
        refine r_icmp_le rfl (fun c_21 => ?_) (fun c_21 => ?_)
        · rw [if_pos c_21] at he
          replace hk := hk.1 c_21
          refine r_aload_n rfl rfl ?_
          refine q_getfield rfl (cc_0 _) rfl ?_
          refine r_aload_n rfl rfl ?_
          refine q_getfield rfl (cc_0 _) rfl ?_
          refine r_iload_n rfl rfl ?_
          obtain ⟨hb0, hk⟩ := hk
          refine q_callV0 [_, _] _ rfl kY_X7_left kT_X7_left rfl rfl (Nat.le_of_ble_eq_true rfl) (Nat.le_of_ble_eq_true rfl) (cc_57 _) (s_X7_left (isT_l _) hb0) (fun r h q => ?_)
          obtain ⟨rfl, rfl⟩ := q
          simp only [Option.toList, List.cons_append, List.nil_append]
          refine r_istore_n rfl (Nat.le_of_ble_eq_true rfl) rfl ?_
          refine r_iload_n rfl rfl ?_
          refine r_if_ne rfl (fun c_40 => ?_) (fun c_40 => ?_)
          · rw [if_neg c_40] at he
            replace hk := hk.2 c_40
            refine r_iload_n rfl rfl ?_
            refine r_iret rfl rfl rfl ?_
            subst he
            exact ⟨rfl, rfl⟩
          · rw [if_pos c_40] at he
            replace hk := hk.1 c_40
            refine r_iload_n rfl rfl ?_
            obtain ⟨hb1, hk⟩ := hk
            refine r_callS0 [_] _ rfl kY_J6_bitCount_0f7a4 kT_J6_bitCount_0f7a4 rfl rfl (Nat.le_of_ble_eq_true rfl) (Nat.le_of_ble_eq_true rfl) (s_J6_bitCount_0f7a4 hb1) (fun r h q => ?_)
            obtain ⟨rfl, rfl⟩ := q
            simp only [Option.toList, List.cons_append, List.nil_append]
            refine r_goto rfl ?_
            refine r_iret rfl rfl rfl ?_
            subst he
            exact ⟨rfl, rfl⟩
        · rw [if_neg c_21] at he
          replace hk := hk.2 c_21
          refine r_iconst_ (a := -1) rfl (by decide) ?_
          refine r_iret rfl rfl rfl ?_
          subst he
          exact ⟨rfl, rfl⟩

def f_X3_windTold (t : Nat) (s : fl_I) (l : fl_L) : Int32 × fl_I × fl_L :=
  if ((f_X3_take (262 : Int32) s l).1 = 0) then ((0 : Int32), (f_X3_take (262 : Int32) s l).2.1, (f_X3_take (262 : Int32) s l).2.2) else if ((f_X3_takeStep (f_X3_take (262 : Int32) s l).2.1 (f_X3_take (262 : Int32) s l).2.2).1 = 0) then ((0 : Int32), (f_X3_takeStep (f_X3_take (262 : Int32) s l).2.1 (f_X3_take (262 : Int32) s l).2.2).2.1, (f_X3_takeStep (f_X3_take (262 : Int32) s l).2.1 (f_X3_take (262 : Int32) s l).2.2).2.2) else if ((f_X3_takeStep (f_X3_takeStep (f_X3_take (262 : Int32) s l).2.1 (f_X3_take (262 : Int32) s l).2.2).2.1 (f_X3_takeStep (f_X3_take (262 : Int32) s l).2.1 (f_X3_take (262 : Int32) s l).2.2).2.2).1 = 0) then ((0 : Int32), (f_X3_takeStep (f_X3_takeStep (f_X3_take (262 : Int32) s l).2.1 (f_X3_take (262 : Int32) s l).2.2).2.1 (f_X3_takeStep (f_X3_take (262 : Int32) s l).2.1 (f_X3_take (262 : Int32) s l).2.2).2.2).2.1, (f_X3_takeStep (f_X3_takeStep (f_X3_take (262 : Int32) s l).2.1 (f_X3_take (262 : Int32) s l).2.2).2.1 (f_X3_takeStep (f_X3_take (262 : Int32) s l).2.1 (f_X3_take (262 : Int32) s l).2.2).2.2).2.2) else if ((f_X3_take (59 : Int32) (f_X3_takeStep (f_X3_takeStep (f_X3_take (262 : Int32) s l).2.1 (f_X3_take (262 : Int32) s l).2.2).2.1 (f_X3_takeStep (f_X3_take (262 : Int32) s l).2.1 (f_X3_take (262 : Int32) s l).2.2).2.2).2.1 (f_X3_takeStep (f_X3_takeStep (f_X3_take (262 : Int32) s l).2.1 (f_X3_take (262 : Int32) s l).2.2).2.1 (f_X3_takeStep (f_X3_take (262 : Int32) s l).2.1 (f_X3_take (262 : Int32) s l).2.2).2.2).2.2).1 = 0) then ((0 : Int32), (f_X3_take (59 : Int32) (f_X3_takeStep (f_X3_takeStep (f_X3_take (262 : Int32) s l).2.1 (f_X3_take (262 : Int32) s l).2.2).2.1 (f_X3_takeStep (f_X3_take (262 : Int32) s l).2.1 (f_X3_take (262 : Int32) s l).2.2).2.2).2.1 (f_X3_takeStep (f_X3_takeStep (f_X3_take (262 : Int32) s l).2.1 (f_X3_take (262 : Int32) s l).2.2).2.1 (f_X3_takeStep (f_X3_take (262 : Int32) s l).2.1 (f_X3_take (262 : Int32) s l).2.2).2.2).2.2).2.1, (f_X3_take (59 : Int32) (f_X3_takeStep (f_X3_takeStep (f_X3_take (262 : Int32) s l).2.1 (f_X3_take (262 : Int32) s l).2.2).2.1 (f_X3_takeStep (f_X3_take (262 : Int32) s l).2.1 (f_X3_take (262 : Int32) s l).2.2).2.2).2.1 (f_X3_takeStep (f_X3_takeStep (f_X3_take (262 : Int32) s l).2.1 (f_X3_take (262 : Int32) s l).2.2).2.1 (f_X3_takeStep (f_X3_take (262 : Int32) s l).2.1 (f_X3_take (262 : Int32) s l).2.2).2.2).2.2).2.2) else ((1 : Int32), (wi (wi (f_X3_take (59 : Int32) (f_X3_takeStep (f_X3_takeStep (f_X3_take (262 : Int32) s l).2.1 (f_X3_take (262 : Int32) s l).2.2).2.1 (f_X3_takeStep (f_X3_take (262 : Int32) s l).2.1 (f_X3_take (262 : Int32) s l).2.2).2.2).2.1 (f_X3_takeStep (f_X3_takeStep (f_X3_take (262 : Int32) s l).2.1 (f_X3_take (262 : Int32) s l).2.2).2.1 (f_X3_takeStep (f_X3_take (262 : Int32) s l).2.1 (f_X3_take (262 : Int32) s l).2.2).2.2).2.2).2.1 t 15 ((f_X3_takeStep (f_X3_take (262 : Int32) s l).2.1 (f_X3_take (262 : Int32) s l).2.2).2.1 3 6)) t 16 ((wi (f_X3_take (59 : Int32) (f_X3_takeStep (f_X3_takeStep (f_X3_take (262 : Int32) s l).2.1 (f_X3_take (262 : Int32) s l).2.2).2.1 (f_X3_takeStep (f_X3_take (262 : Int32) s l).2.1 (f_X3_take (262 : Int32) s l).2.2).2.2).2.1 (f_X3_takeStep (f_X3_takeStep (f_X3_take (262 : Int32) s l).2.1 (f_X3_take (262 : Int32) s l).2.2).2.1 (f_X3_takeStep (f_X3_take (262 : Int32) s l).2.1 (f_X3_take (262 : Int32) s l).2.2).2.2).2.2).2.1 t 15 ((f_X3_takeStep (f_X3_take (262 : Int32) s l).2.1 (f_X3_take (262 : Int32) s l).2.2).2.1 3 6)) 3 6)), (f_X3_take (59 : Int32) (f_X3_takeStep (f_X3_takeStep (f_X3_take (262 : Int32) s l).2.1 (f_X3_take (262 : Int32) s l).2.2).2.1 (f_X3_takeStep (f_X3_take (262 : Int32) s l).2.1 (f_X3_take (262 : Int32) s l).2.2).2.2).2.1 (f_X3_takeStep (f_X3_takeStep (f_X3_take (262 : Int32) s l).2.1 (f_X3_take (262 : Int32) s l).2.2).2.1 (f_X3_takeStep (f_X3_take (262 : Int32) s l).2.1 (f_X3_take (262 : Int32) s l).2.2).2.2).2.2).2.2)

def p_X3_windTold (t : Nat) (s : fl_I) (l : fl_L) : Prop :=
  (p_X3_take (262 : Int32) s l) ∧ ((((f_X3_take (262 : Int32) s l).1 = 0) → True) ∧ (¬ ((f_X3_take (262 : Int32) s l).1 = 0) → (p_X3_takeStep (f_X3_take (262 : Int32) s l).2.1 (f_X3_take (262 : Int32) s l).2.2) ∧ ((((f_X3_takeStep (f_X3_take (262 : Int32) s l).2.1 (f_X3_take (262 : Int32) s l).2.2).1 = 0) → True) ∧ (¬ ((f_X3_takeStep (f_X3_take (262 : Int32) s l).2.1 (f_X3_take (262 : Int32) s l).2.2).1 = 0) → (p_X3_takeStep (f_X3_takeStep (f_X3_take (262 : Int32) s l).2.1 (f_X3_take (262 : Int32) s l).2.2).2.1 (f_X3_takeStep (f_X3_take (262 : Int32) s l).2.1 (f_X3_take (262 : Int32) s l).2.2).2.2) ∧ ((((f_X3_takeStep (f_X3_takeStep (f_X3_take (262 : Int32) s l).2.1 (f_X3_take (262 : Int32) s l).2.2).2.1 (f_X3_takeStep (f_X3_take (262 : Int32) s l).2.1 (f_X3_take (262 : Int32) s l).2.2).2.2).1 = 0) → True) ∧ (¬ ((f_X3_takeStep (f_X3_takeStep (f_X3_take (262 : Int32) s l).2.1 (f_X3_take (262 : Int32) s l).2.2).2.1 (f_X3_takeStep (f_X3_take (262 : Int32) s l).2.1 (f_X3_take (262 : Int32) s l).2.2).2.2).1 = 0) → (p_X3_take (59 : Int32) (f_X3_takeStep (f_X3_takeStep (f_X3_take (262 : Int32) s l).2.1 (f_X3_take (262 : Int32) s l).2.2).2.1 (f_X3_takeStep (f_X3_take (262 : Int32) s l).2.1 (f_X3_take (262 : Int32) s l).2.2).2.2).2.1 (f_X3_takeStep (f_X3_takeStep (f_X3_take (262 : Int32) s l).2.1 (f_X3_take (262 : Int32) s l).2.2).2.1 (f_X3_takeStep (f_X3_take (262 : Int32) s l).2.1 (f_X3_take (262 : Int32) s l).2.2).2.2).2.2) ∧ ((((f_X3_take (59 : Int32) (f_X3_takeStep (f_X3_takeStep (f_X3_take (262 : Int32) s l).2.1 (f_X3_take (262 : Int32) s l).2.2).2.1 (f_X3_takeStep (f_X3_take (262 : Int32) s l).2.1 (f_X3_take (262 : Int32) s l).2.2).2.2).2.1 (f_X3_takeStep (f_X3_takeStep (f_X3_take (262 : Int32) s l).2.1 (f_X3_take (262 : Int32) s l).2.2).2.1 (f_X3_takeStep (f_X3_take (262 : Int32) s l).2.1 (f_X3_take (262 : Int32) s l).2.2).2.2).2.2).1 = 0) → True) ∧ (¬ ((f_X3_take (59 : Int32) (f_X3_takeStep (f_X3_takeStep (f_X3_take (262 : Int32) s l).2.1 (f_X3_take (262 : Int32) s l).2.2).2.1 (f_X3_takeStep (f_X3_take (262 : Int32) s l).2.1 (f_X3_take (262 : Int32) s l).2.2).2.2).2.1 (f_X3_takeStep (f_X3_takeStep (f_X3_take (262 : Int32) s l).2.1 (f_X3_take (262 : Int32) s l).2.2).2.1 (f_X3_takeStep (f_X3_take (262 : Int32) s l).2.1 (f_X3_take (262 : Int32) s l).2.2).2.2).2.2).1 = 0) → True))))))))

set_option maxRecDepth 100000 in
set_option maxHeartbeats 4000000 in
theorem s_X3_windTold {G : ab_G} {d : Nat} {D : fl_D} {s : fl_I} {l : fl_L} {t : Nat} (htt : isT t)  (hk : p_X3_windTold t s l) : ab_C G (d + 4) 0 0 M_X3_windTold 0 (ab_ent [.ref 3, .ref t]) [] (hp D s l) (rt (some (.int (f_X3_windTold t s l).1)) (hp D (f_X3_windTold t s l).2.1 (f_X3_windTold t s l).2.2)) := by
  generalize he : (f_X3_windTold t s l) = res
  unfold f_X3_windTold at he
  unfold p_X3_windTold at hk
  refine r_weak (L1 := [some (.ref 3), some (.ref t), none]) ⟨rfl, rfl, trivial⟩ ?_
  refine r_aload_n rfl rfl ?_
  refine r_sipush_ (a := 262) rfl (by decide) ?_
  obtain ⟨hb0, hk⟩ := hk
  refine q_callV0 [_] _ rfl kY_X3_take kT_X3_take rfl rfl (Nat.le_of_ble_eq_true rfl) (Nat.le_of_ble_eq_true rfl) (cc_3 _) (s_X3_take hb0) (fun r h q => ?_)
  obtain ⟨rfl, rfl⟩ := q
  simp only [Option.toList, List.cons_append, List.nil_append]
  refine r_if_eq rfl (fun c_7 => ?_) (fun c_7 => ?_)
  · rw [if_pos c_7] at he
    replace hk := hk.1 c_7
    refine r_iconst_ (a := 0) rfl (by decide) ?_
    refine r_iret rfl rfl rfl ?_
    subst he
    exact ⟨rfl, rfl⟩
  · rw [if_neg c_7] at he
    replace hk := hk.2 c_7
    refine r_aload_n rfl rfl ?_
    obtain ⟨hb1, hk⟩ := hk
    refine q_callV0 [] _ rfl kY_X3_takeStep kT_X3_takeStep rfl rfl (Nat.le_of_ble_eq_true rfl) (Nat.le_of_ble_eq_true rfl) (cc_3 _) (s_X3_takeStep hb1) (fun r h q => ?_)
    obtain ⟨rfl, rfl⟩ := q
    simp only [Option.toList, List.cons_append, List.nil_append]
    refine r_if_ne rfl (fun c_14 => ?_) (fun c_14 => ?_)
    · rw [if_neg c_14] at he
      replace hk := hk.2 c_14
      refine r_aload_n rfl rfl ?_
      refine q_getfield rfl (cc_3 _) rfl ?_
      refine r_istore_n rfl (Nat.le_of_ble_eq_true rfl) rfl ?_
      refine r_aload_n rfl rfl ?_
      obtain ⟨hb2, hk⟩ := hk
      refine q_callV0 [] _ rfl kY_X3_takeStep kT_X3_takeStep rfl rfl (Nat.le_of_ble_eq_true rfl) (Nat.le_of_ble_eq_true rfl) (cc_3 _) (s_X3_takeStep hb2) (fun r h q => ?_)
      obtain ⟨rfl, rfl⟩ := q
      simp only [Option.toList, List.cons_append, List.nil_append]
      refine r_if_eq rfl (fun c_28 => ?_) (fun c_28 => ?_)
      · rw [if_pos c_28] at he
        replace hk := hk.1 c_28
        refine r_iconst_ (a := 0) rfl (by decide) ?_
        refine r_iret rfl rfl rfl ?_
        subst he
        exact ⟨rfl, rfl⟩
      · rw [if_neg c_28] at he
        replace hk := hk.2 c_28
        refine r_aload_n rfl rfl ?_
        refine r_bipush_ (a := 59) rfl (by decide) ?_
        obtain ⟨hb3, hk⟩ := hk
        refine q_callV0 [_] _ rfl kY_X3_take kT_X3_take rfl rfl (Nat.le_of_ble_eq_true rfl) (Nat.le_of_ble_eq_true rfl) (cc_3 _) (s_X3_take hb3) (fun r h q => ?_)
        obtain ⟨rfl, rfl⟩ := q
        simp only [Option.toList, List.cons_append, List.nil_append]
        refine r_if_ne rfl (fun c_37 => ?_) (fun c_37 => ?_)
        · rw [if_neg c_37] at he
          replace hk := hk.2 c_37
          refine r_aload_n rfl rfl ?_
          refine r_iload_n rfl rfl ?_
          refine w_put rfl (cT_0 htt) ff_5_15 ft_5_15 (Nat.le_of_ble_eq_true rfl) rfl ?_
          refine r_aload_n rfl rfl ?_
          refine r_aload_n rfl rfl ?_
          refine q_getfield rfl (cc_3 _) rfl ?_
          refine w_put rfl (cT_0 htt) ff_5_16 ft_5_16 (Nat.le_of_ble_eq_true rfl) rfl ?_
          refine r_iconst_ (a := 1) rfl (by decide) ?_
          refine r_iret rfl rfl rfl ?_
          subst he
          exact ⟨rfl, rfl⟩
        · rw [if_pos c_37] at he
          replace hk := hk.1 c_37
          refine r_iconst_ (a := 0) rfl (by decide) ?_
          refine r_iret rfl rfl rfl ?_
          subst he
          exact ⟨rfl, rfl⟩
    · rw [if_pos c_14] at he
      replace hk := hk.1 c_14
      refine r_iconst_ (a := 0) rfl (by decide) ?_
      refine r_iret rfl rfl rfl ?_
      subst he
      exact ⟨rfl, rfl⟩

def f_X11_missing (v0 : Int32) (v1 : Int32) (D : fl_D) (s : fl_I) (l : fl_L) : Int32 × fl_I × fl_L :=
  if (v0 < 0) then ((-1 : Int32), s, l) else if ((s (if D.2.2.1 then 20 else 9) 1) ≤ v0) then ((-1 : Int32), s, l) else if ((f_X11_isHeap v1 s l) = 0) then ((-1 : Int32), s, l) else ((f_X0_lacks ((f_X0_gather v1 (if D.2.2.1 then 20 else 9) 31 s l).2 ((if D.2.2.1 then 20 else 9) + 2) v0.toNatClampNeg) (f_X0_gather v1 (if D.2.2.1 then 20 else 9) 31 s l).1 (f_X0_gather v1 (if D.2.2.1 then 20 else 9) 31 s l).2).1, (f_X0_lacks ((f_X0_gather v1 (if D.2.2.1 then 20 else 9) 31 s l).2 ((if D.2.2.1 then 20 else 9) + 2) v0.toNatClampNeg) (f_X0_gather v1 (if D.2.2.1 then 20 else 9) 31 s l).1 (f_X0_gather v1 (if D.2.2.1 then 20 else 9) 31 s l).2).2.1, (f_X0_lacks ((f_X0_gather v1 (if D.2.2.1 then 20 else 9) 31 s l).2 ((if D.2.2.1 then 20 else 9) + 2) v0.toNatClampNeg) (f_X0_gather v1 (if D.2.2.1 then 20 else 9) 31 s l).1 (f_X0_gather v1 (if D.2.2.1 then 20 else 9) 31 s l).2).2.2)

def p_X11_missing (v0 : Int32) (v1 : Int32) (D : fl_D) (s : fl_I) (l : fl_L) : Prop :=
  (((v0 < 0) → True) ∧ (¬ (v0 < 0) → ((((s (if D.2.2.1 then 20 else 9) 1) ≤ v0) → True) ∧ (¬ ((s (if D.2.2.1 then 20 else 9) 1) ≤ v0) → (p_X11_isHeap v1 s l) ∧ ((((f_X11_isHeap v1 s l) = 0) → True) ∧ (¬ ((f_X11_isHeap v1 s l) = 0) → (p_X0_gather v1 (if D.2.2.1 then 20 else 9) 31 s l) ∧ (vp_in v0 8) ∧ (p_X0_lacks ((f_X0_gather v1 (if D.2.2.1 then 20 else 9) 31 s l).2 ((if D.2.2.1 then 20 else 9) + 2) v0.toNatClampNeg) (f_X0_gather v1 (if D.2.2.1 then 20 else 9) 31 s l).1 (f_X0_gather v1 (if D.2.2.1 then 20 else 9) 31 s l).2) ∧ True))))))

set_option maxRecDepth 100000 in
set_option maxHeartbeats 4000000 in
theorem s_X11_missing {G : ab_G} {d : Nat} {D : fl_D} {s : fl_I} {l : fl_L} {v0 : Int32} {v1 : Int32} (hk : p_X11_missing v0 v1 D s l) : ab_C G (d + 4) 0 0 M_X11_missing 0 (ab_ent [.ref 0, .int v0, .int v1]) [] (hp D s l) (rt (some (.int (f_X11_missing v0 v1 D s l).1)) (hp D (f_X11_missing v0 v1 D s l).2.1 (f_X11_missing v0 v1 D s l).2.2)) := by
  generalize he : (f_X11_missing v0 v1 D s l) = res
  unfold f_X11_missing at he
  unfold p_X11_missing at hk
  refine r_weak (L1 := [some (.ref 0), some (.int v0), some (.int v1)]) ⟨rfl, rfl, rfl, trivial⟩ ?_
  refine r_iload_n rfl rfl ?_
  refine r_if_lt rfl (fun c_1 => ?_) (fun c_1 => ?_)
  · rw [if_pos c_1] at he
    replace hk := hk.1 c_1
    refine r_iconst_ (a := -1) rfl (by decide) ?_
    refine r_iret rfl rfl rfl ?_
    subst he
    exact ⟨rfl, rfl⟩
  · rw [if_neg c_1] at he
    replace hk := hk.2 c_1
    refine r_iload_n rfl rfl ?_
    refine r_aload_n rfl rfl ?_
    refine q_getfield rfl (cc_0 _) rfl ?_
    refine q_getfield rfl (cT_0 (isT_l _)) rfl ?_
    refine r_icmp_ge rfl (fun c_12 => ?_) (fun c_12 => ?_)
    · rw [if_pos c_12] at he
      replace hk := hk.1 c_12
      refine r_iconst_ (a := -1) rfl (by decide) ?_
      refine r_iret rfl rfl rfl ?_
      subst he
      exact ⟨rfl, rfl⟩
    · rw [if_neg c_12] at he
      replace hk := hk.2 c_12
      refine r_aload_n rfl rfl ?_
      refine r_iload_n rfl rfl ?_
      obtain ⟨hb0, hk⟩ := hk
      refine q_callV0 [_] _ rfl kY_X11_isHeap kT_X11_isHeap rfl rfl (Nat.le_of_ble_eq_true rfl) (Nat.le_of_ble_eq_true rfl) (cc_0 _) (s_X11_isHeap hb0) (fun r h q => ?_)
      obtain ⟨rfl, rfl⟩ := q
      simp only [Option.toList, List.cons_append, List.nil_append]
      refine r_if_ne rfl (fun c_20 => ?_) (fun c_20 => ?_)
      · rw [if_neg c_20] at he
        replace hk := hk.2 c_20
        refine r_aload_n rfl rfl ?_
        refine q_getfield rfl (cc_0 _) rfl ?_
        refine r_aload_n rfl rfl ?_
        refine q_getfield rfl (cc_0 _) rfl ?_
        refine r_aload_n rfl rfl ?_
        refine q_getfield rfl (cc_0 _) rfl ?_
        refine r_iload_n rfl rfl ?_
        obtain ⟨hb1, hk⟩ := hk
        refine q_callV0 [_, _, _] _ rfl kY_X0_gather kT_X0_gather rfl rfl (Nat.le_of_ble_eq_true rfl) (Nat.le_of_ble_eq_true rfl) (cc_55 _) (s_X0_gather (isT_l _) (Or.inl rfl) hb1) (fun r h q => ?_)
        obtain ⟨rfl, rfl⟩ := q
        simp only [Option.toList, List.cons_append, List.nil_append]
        refine r_aload_n rfl rfl ?_
        refine q_getfield rfl (cc_0 _) rfl ?_
        refine r_aload_n rfl rfl ?_
        refine q_getfield rfl (cc_0 _) rfl ?_
        refine q_getfield rfl (cT_0 (isT_l _)) rfl ?_
        refine r_iload_n rfl rfl ?_
        obtain ⟨hb2, hk⟩ := hk
        refine q_lald rfl (cT_2 (isT_l _)) hb2 ?_
        obtain ⟨hb3, hk⟩ := hk
        refine q_callV0 [_] _ rfl kY_X0_lacks kT_X0_lacks rfl rfl (Nat.le_of_ble_eq_true rfl) (Nat.le_of_ble_eq_true rfl) (cc_55 _) (s_X0_lacks hb3) (fun r h q => ?_)
        obtain ⟨rfl, rfl⟩ := q
        simp only [Option.toList, List.cons_append, List.nil_append]
        refine r_iret rfl rfl rfl ?_
        subst he
        exact ⟨rfl, rfl⟩
      · rw [if_pos c_20] at he
        replace hk := hk.1 c_20
        refine r_iconst_ (a := -1) rfl (by decide) ?_
        refine r_iret rfl rfl rfl ?_
        subst he
        exact ⟨rfl, rfl⟩

def f_X9_goOn_3 : Nat → Int32 → Int32 → Int32 → Nat → Nat → fl_I → fl_L → fl_I × fl_L
  | 0, x3, x4, x5, t, a, s, l => (s, l)
  | n + 1, x3, x4, x5, t, a, s, l =>
    if (x3 ≤ x5) then (s, l) else if (x4 = (-1 : Int32)) then f_X9_goOn_3 n x3 x4 (x5 + 1) t a (wi (f_X9_blow t a (f_X9_pickUp t a (f_X9_walk a s l).1 (f_X9_walk a s l).2).1 (f_X9_pickUp t a (f_X9_walk a s l).1 (f_X9_walk a s l).2).2).1 a 0 (((f_X9_blow t a (f_X9_pickUp t a (f_X9_walk a s l).1 (f_X9_walk a s l).2).1 (f_X9_pickUp t a (f_X9_walk a s l).1 (f_X9_walk a s l).2).2).1 a 0) + (1 : Int32))) (f_X9_blow t a (f_X9_pickUp t a (f_X9_walk a s l).1 (f_X9_walk a s l).2).1 (f_X9_pickUp t a (f_X9_walk a s l).1 (f_X9_walk a s l).2).2).2 else if ((f_X11_rains x4 ((f_X9_pickUp t a (f_X9_walk a s l).1 (f_X9_walk a s l).2).1 a 0) t (f_X9_pickUp t a (f_X9_walk a s l).1 (f_X9_walk a s l).2).1 (f_X9_pickUp t a (f_X9_walk a s l).1 (f_X9_walk a s l).2).2) = 0) then f_X9_goOn_3 n x3 x4 (x5 + 1) t a (wi (f_X9_blow t a (f_X9_pickUp t a (f_X9_walk a s l).1 (f_X9_walk a s l).2).1 (f_X9_pickUp t a (f_X9_walk a s l).1 (f_X9_walk a s l).2).2).1 a 0 (((f_X9_blow t a (f_X9_pickUp t a (f_X9_walk a s l).1 (f_X9_walk a s l).2).1 (f_X9_pickUp t a (f_X9_walk a s l).1 (f_X9_walk a s l).2).2).1 a 0) + (1 : Int32))) (f_X9_blow t a (f_X9_pickUp t a (f_X9_walk a s l).1 (f_X9_walk a s l).2).1 (f_X9_pickUp t a (f_X9_walk a s l).1 (f_X9_walk a s l).2).2).2 else f_X9_goOn_3 n x3 x4 (x5 + 1) t a (wi (f_X9_lieOn a (f_X9_pickUp t a (f_X9_walk a s l).1 (f_X9_walk a s l).2).1 (f_X9_pickUp t a (f_X9_walk a s l).1 (f_X9_walk a s l).2).2).1 a 0 (((f_X9_lieOn a (f_X9_pickUp t a (f_X9_walk a s l).1 (f_X9_walk a s l).2).1 (f_X9_pickUp t a (f_X9_walk a s l).1 (f_X9_walk a s l).2).2).1 a 0) + (1 : Int32))) (f_X9_lieOn a (f_X9_pickUp t a (f_X9_walk a s l).1 (f_X9_walk a s l).2).1 (f_X9_pickUp t a (f_X9_walk a s l).1 (f_X9_walk a s l).2).2).2

def p_X9_goOn_3 : Nat → Int32 → Int32 → Int32 → Nat → Nat → fl_I → fl_L → Prop
  | 0, _, _, _, _, _, _, _ => False
  | n + 1, x3, x4, x5, t, a, s, l =>
    (((x3 ≤ x5) → True) ∧ (¬ (x3 ≤ x5) → (p_X9_walk a s l) ∧ (p_X9_pickUp t a (f_X9_walk a s l).1 (f_X9_walk a s l).2) ∧ (((x4 = (-1 : Int32)) → (p_X9_blow t a (f_X9_pickUp t a (f_X9_walk a s l).1 (f_X9_walk a s l).2).1 (f_X9_pickUp t a (f_X9_walk a s l).1 (f_X9_walk a s l).2).2) ∧ p_X9_goOn_3 n x3 x4 (x5 + 1) t a (wi (f_X9_blow t a (f_X9_pickUp t a (f_X9_walk a s l).1 (f_X9_walk a s l).2).1 (f_X9_pickUp t a (f_X9_walk a s l).1 (f_X9_walk a s l).2).2).1 a 0 (((f_X9_blow t a (f_X9_pickUp t a (f_X9_walk a s l).1 (f_X9_walk a s l).2).1 (f_X9_pickUp t a (f_X9_walk a s l).1 (f_X9_walk a s l).2).2).1 a 0) + (1 : Int32))) (f_X9_blow t a (f_X9_pickUp t a (f_X9_walk a s l).1 (f_X9_walk a s l).2).1 (f_X9_pickUp t a (f_X9_walk a s l).1 (f_X9_walk a s l).2).2).2) ∧ (¬ (x4 = (-1 : Int32)) → (p_X11_rains x4 ((f_X9_pickUp t a (f_X9_walk a s l).1 (f_X9_walk a s l).2).1 a 0) t (f_X9_pickUp t a (f_X9_walk a s l).1 (f_X9_walk a s l).2).1 (f_X9_pickUp t a (f_X9_walk a s l).1 (f_X9_walk a s l).2).2) ∧ ((((f_X11_rains x4 ((f_X9_pickUp t a (f_X9_walk a s l).1 (f_X9_walk a s l).2).1 a 0) t (f_X9_pickUp t a (f_X9_walk a s l).1 (f_X9_walk a s l).2).1 (f_X9_pickUp t a (f_X9_walk a s l).1 (f_X9_walk a s l).2).2) = 0) → (p_X9_blow t a (f_X9_pickUp t a (f_X9_walk a s l).1 (f_X9_walk a s l).2).1 (f_X9_pickUp t a (f_X9_walk a s l).1 (f_X9_walk a s l).2).2) ∧ p_X9_goOn_3 n x3 x4 (x5 + 1) t a (wi (f_X9_blow t a (f_X9_pickUp t a (f_X9_walk a s l).1 (f_X9_walk a s l).2).1 (f_X9_pickUp t a (f_X9_walk a s l).1 (f_X9_walk a s l).2).2).1 a 0 (((f_X9_blow t a (f_X9_pickUp t a (f_X9_walk a s l).1 (f_X9_walk a s l).2).1 (f_X9_pickUp t a (f_X9_walk a s l).1 (f_X9_walk a s l).2).2).1 a 0) + (1 : Int32))) (f_X9_blow t a (f_X9_pickUp t a (f_X9_walk a s l).1 (f_X9_walk a s l).2).1 (f_X9_pickUp t a (f_X9_walk a s l).1 (f_X9_walk a s l).2).2).2) ∧ (¬ ((f_X11_rains x4 ((f_X9_pickUp t a (f_X9_walk a s l).1 (f_X9_walk a s l).2).1 a 0) t (f_X9_pickUp t a (f_X9_walk a s l).1 (f_X9_walk a s l).2).1 (f_X9_pickUp t a (f_X9_walk a s l).1 (f_X9_walk a s l).2).2) = 0) → (p_X9_lieOn a (f_X9_pickUp t a (f_X9_walk a s l).1 (f_X9_walk a s l).2).1 (f_X9_pickUp t a (f_X9_walk a s l).1 (f_X9_walk a s l).2).2) ∧ p_X9_goOn_3 n x3 x4 (x5 + 1) t a (wi (f_X9_lieOn a (f_X9_pickUp t a (f_X9_walk a s l).1 (f_X9_walk a s l).2).1 (f_X9_pickUp t a (f_X9_walk a s l).1 (f_X9_walk a s l).2).2).1 a 0 (((f_X9_lieOn a (f_X9_pickUp t a (f_X9_walk a s l).1 (f_X9_walk a s l).2).1 (f_X9_pickUp t a (f_X9_walk a s l).1 (f_X9_walk a s l).2).2).1 a 0) + (1 : Int32))) (f_X9_lieOn a (f_X9_pickUp t a (f_X9_walk a s l).1 (f_X9_walk a s l).2).1 (f_X9_pickUp t a (f_X9_walk a s l).1 (f_X9_walk a s l).2).2).2))))))

set_option maxRecDepth 100000 in
set_option maxHeartbeats 4000000 in
theorem lp_X9_goOn_3 {G : ab_G} {d : Nat} {D : fl_D} {t : Nat} (htt : isT t) {a : Nat} (hya : isY D a) : ∀ (n : Nat) (x3 : Int32) (x4 : Int32) (x5 : Int32) (s : fl_I) (l : fl_L), p_X9_goOn_3 n x3 x4 x5 t a s l → ab_C G (d + 4) 0 0 M_X9_goOn 3 [some (.ref 46), some (.ref t), some (.ref a), some (.int x3), some (.int x4), some (.int x5)] [] (hp D s l) (rt none (hp D (f_X9_goOn_3 n x3 x4 x5 t a s l).1 (f_X9_goOn_3 n x3 x4 x5 t a s l).2)) := by
  intro n
  induction n with
  | zero => intro x3 x4 x5 s l hk; exact hk.elim
  | succ n ih =>
    intro x3 x4 x5 s l hk
    generalize he : f_X9_goOn_3 (n + 1) x3 x4 x5 t a s l = res
    unfold f_X9_goOn_3 at he
    unfold p_X9_goOn_3 at hk
    refine r_iload rfl rfl ?_
    refine r_iload_n rfl rfl ?_
    refine r_icmp_ge rfl (fun c_6 => ?_) (fun c_6 => ?_)
    · rw [if_pos c_6] at he
      replace hk := hk.1 c_6
      refine r_ret rfl rfl ?_
      subst he
      exact ⟨rfl, rfl⟩
    · rw [if_neg c_6] at he
      replace hk := hk.2 c_6
      refine r_aload_n rfl rfl ?_
      obtain ⟨hb0, hk⟩ := hk
      refine r_callS0 [_] _ rfl kY_X9_walk kT_X9_walk rfl rfl (Nat.le_of_ble_eq_true rfl) (Nat.le_of_ble_eq_true rfl) (s_X9_walk hya hb0) (fun r h q => ?_)
      obtain ⟨rfl, rfl⟩ := q
      simp only [Option.toList, List.cons_append, List.nil_append]
      refine r_aload_n rfl rfl ?_
      refine r_aload_n rfl rfl ?_
      obtain ⟨hb1, hk⟩ := hk
      refine r_callS0 [_, _] _ rfl kY_X9_pickUp kT_X9_pickUp rfl rfl (Nat.le_of_ble_eq_true rfl) (Nat.le_of_ble_eq_true rfl) (s_X9_pickUp htt hya hb1) (fun r h q => ?_)
      obtain ⟨rfl, rfl⟩ := q
      simp only [Option.toList, List.cons_append, List.nil_append]
      refine r_iload rfl rfl ?_
      refine r_iconst_ (a := -1) rfl (by decide) ?_
      refine r_icmp_eq rfl (fun c_21 => ?_) (fun c_21 => ?_)
      · rw [if_pos c_21] at he
        replace hk := hk.1 c_21
        refine r_aload_n rfl rfl ?_
        refine r_aload_n rfl rfl ?_
        refine r_aload_n rfl rfl ?_
        obtain ⟨hb2, hk⟩ := hk
        refine q_callV0 [_, _] _ rfl kY_X9_blow kT_X9_blow rfl rfl (Nat.le_of_ble_eq_true rfl) (Nat.le_of_ble_eq_true rfl) (cc_46 _) (s_X9_blow htt hya hb2) (fun r h q => ?_)
        obtain ⟨rfl, rfl⟩ := q
        simp only [Option.toList, List.cons_append, List.nil_append]
        refine r_aload_n rfl rfl ?_
        refine r_dup rfl rfl ?_
        refine q_getfield rfl (cY_0 hya) rfl ?_
        refine r_iconst_ (a := 1) rfl (by decide) ?_
        refine r_iadd rfl ?_
        refine w_put rfl (cY_0 hya) ff_10_0 ft_10_0 (Nat.le_of_ble_eq_true rfl) rfl ?_
        refine r_iinc (b := x5 + 1) rfl rfl rfl (Nat.le_of_ble_eq_true rfl) rfl ?_
        refine r_goto rfl ?_
        subst he
        exact r_weak (L1 := [some (.ref 46), some (.ref t), some (.ref a), some (.int x3), some (.int x4), some (.int (x5 + 1))]) ⟨rfl, rfl, rfl, rfl, rfl, rfl, trivial⟩ (ih _ _ _ _ _ hk)
      · rw [if_neg c_21] at he
        replace hk := hk.2 c_21
        refine r_aload_n rfl rfl ?_
        refine r_iload rfl rfl ?_
        refine r_aload_n rfl rfl ?_
        refine q_getfield rfl (cY_0 hya) rfl ?_
        obtain ⟨hb3, hk⟩ := hk
        refine r_callSN0 [_, _, _] _ rfl kY_X11_rains kT_X11_rains rfl rfl (Nat.le_of_ble_eq_true rfl) (Nat.le_of_ble_eq_true rfl) (s_X11_rains htt hb3) (fun r h q => ?_)
        obtain ⟨rfl, rfl⟩ := q
        simp only [Option.toList, List.cons_append, List.nil_append]
        refine r_if_eq rfl (fun c_34 => ?_) (fun c_34 => ?_)
        · rw [if_pos c_34] at he
          replace hk := hk.1 c_34
          refine r_aload_n rfl rfl ?_
          refine r_aload_n rfl rfl ?_
          refine r_aload_n rfl rfl ?_
          obtain ⟨hb4, hk⟩ := hk
          refine q_callV0 [_, _] _ rfl kY_X9_blow kT_X9_blow rfl rfl (Nat.le_of_ble_eq_true rfl) (Nat.le_of_ble_eq_true rfl) (cc_46 _) (s_X9_blow htt hya hb4) (fun r h q => ?_)
          obtain ⟨rfl, rfl⟩ := q
          simp only [Option.toList, List.cons_append, List.nil_append]
          refine r_aload_n rfl rfl ?_
          refine r_dup rfl rfl ?_
          refine q_getfield rfl (cY_0 hya) rfl ?_
          refine r_iconst_ (a := 1) rfl (by decide) ?_
          refine r_iadd rfl ?_
          refine w_put rfl (cY_0 hya) ff_10_0 ft_10_0 (Nat.le_of_ble_eq_true rfl) rfl ?_
          refine r_iinc (b := x5 + 1) rfl rfl rfl (Nat.le_of_ble_eq_true rfl) rfl ?_
          refine r_goto rfl ?_
          subst he
          exact r_weak (L1 := [some (.ref 46), some (.ref t), some (.ref a), some (.int x3), some (.int x4), some (.int (x5 + 1))]) ⟨rfl, rfl, rfl, rfl, rfl, rfl, trivial⟩ (ih _ _ _ _ _ hk)
        · rw [if_neg c_34] at he
          replace hk := hk.2 c_34
          refine r_aload_n rfl rfl ?_
          obtain ⟨hb5, hk⟩ := hk
          refine r_callS0 [_] _ rfl kY_X9_lieOn kT_X9_lieOn rfl rfl (Nat.le_of_ble_eq_true rfl) (Nat.le_of_ble_eq_true rfl) (s_X9_lieOn hya hb5) (fun r h q => ?_)
          obtain ⟨rfl, rfl⟩ := q
          simp only [Option.toList, List.cons_append, List.nil_append]
          refine r_goto rfl ?_
          refine r_aload_n rfl rfl ?_
          refine r_dup rfl rfl ?_
          refine q_getfield rfl (cY_0 hya) rfl ?_
          refine r_iconst_ (a := 1) rfl (by decide) ?_
          refine r_iadd rfl ?_
          refine w_put rfl (cY_0 hya) ff_10_0 ft_10_0 (Nat.le_of_ble_eq_true rfl) rfl ?_
          refine r_iinc (b := x5 + 1) rfl rfl rfl (Nat.le_of_ble_eq_true rfl) rfl ?_
          refine r_goto rfl ?_
          subst he
          exact r_weak (L1 := [some (.ref 46), some (.ref t), some (.ref a), some (.int x3), some (.int x4), some (.int (x5 + 1))]) ⟨rfl, rfl, rfl, rfl, rfl, rfl, trivial⟩ (ih _ _ _ _ _ hk)

def f_X9_goOn (v2 : Int32) (v3 : Int32) (t : Nat) (a : Nat) (s : fl_I) (l : fl_L) : fl_I × fl_L :=
  f_X9_goOn_3 fu v2 v3 (0 : Int32) t a s l

def p_X9_goOn (v2 : Int32) (v3 : Int32) (t : Nat) (a : Nat) (s : fl_I) (l : fl_L) : Prop :=
  p_X9_goOn_3 fu v2 v3 (0 : Int32) t a s l

set_option maxRecDepth 100000 in
set_option maxHeartbeats 4000000 in
theorem s_X9_goOn {G : ab_G} {d : Nat} {D : fl_D} {s : fl_I} {l : fl_L} {t : Nat} (htt : isT t) {a : Nat} (hya : isY D a) {v2 : Int32} {v3 : Int32} (hk : p_X9_goOn v2 v3 t a s l) : ab_C G (d + 4) 0 0 M_X9_goOn 0 (ab_ent [.ref 46, .ref t, .ref a, .int v2, .int v3]) [] (hp D s l) (rt none (hp D (f_X9_goOn v2 v3 t a s l).1 (f_X9_goOn v2 v3 t a s l).2)) := by
  generalize he : (f_X9_goOn v2 v3 t a s l) = res
  unfold f_X9_goOn at he
  unfold p_X9_goOn at hk
  refine r_weak (L1 := [some (.ref 46), some (.ref t), some (.ref a), some (.int v2), some (.int v3), none]) ⟨rfl, rfl, rfl, rfl, rfl, trivial⟩ ?_
  refine r_iconst_ (a := 0) rfl (by decide) ?_
  refine r_istore rfl (Nat.le_of_ble_eq_true rfl) rfl ?_
  subst he
  exact r_weak (L1 := [some (.ref 46), some (.ref t), some (.ref a), some (.int v2), some (.int v3), some (.int (0 : Int32))]) ⟨rfl, rfl, rfl, rfl, rfl, rfl, trivial⟩ (lp_X9_goOn_3 htt hya fu _ _ _ _ _ hk)

def f_X9_takesOfAll_13 : Nat → Int32 → Int32 → Nat → Nat → fl_I → fl_L → Int32 × fl_I × fl_L
  | 0, x3, x4, t, a, s, l => (0, s, l)
  | n + 1, x3, x4, t, a, s, l =>
    if ((s a 1) ≤ x4) then (x3, s, l) else if ((80 : Int32) ≤ (s (a + 1) x4.toNatClampNeg)) then f_X9_takesOfAll_13 n x3 (x4 + 1) t a s l else f_X9_takesOfAll_13 n (x3 + (f_X11_money (f_X1_ofPiece (1 : Int32) x4 (s 50 (s (a + 1) x4.toNatClampNeg).toNatClampNeg) t a s l).1)) (x4 + 1) t a (f_X1_ofPiece (1 : Int32) x4 (s 50 (s (a + 1) x4.toNatClampNeg).toNatClampNeg) t a s l).2.1 (f_X1_ofPiece (1 : Int32) x4 (s 50 (s (a + 1) x4.toNatClampNeg).toNatClampNeg) t a s l).2.2

def p_X9_takesOfAll_13 : Nat → Int32 → Int32 → Nat → Nat → fl_I → fl_L → Prop
  | 0, _, _, _, _, _, _ => False
  | n + 1, x3, x4, t, a, s, l =>
    ((((s a 1) ≤ x4) → True) ∧ (¬ ((s a 1) ≤ x4) → (vp_in x4 32) ∧ ((((80 : Int32) ≤ (s (a + 1) x4.toNatClampNeg)) → p_X9_takesOfAll_13 n x3 (x4 + 1) t a s l) ∧ (¬ ((80 : Int32) ≤ (s (a + 1) x4.toNatClampNeg)) → (vp_in (s (a + 1) x4.toNatClampNeg) 80) ∧ (p_X1_ofPiece (1 : Int32) x4 (s 50 (s (a + 1) x4.toNatClampNeg).toNatClampNeg) t a s l) ∧ (p_X11_money (f_X1_ofPiece (1 : Int32) x4 (s 50 (s (a + 1) x4.toNatClampNeg).toNatClampNeg) t a s l).1) ∧ p_X9_takesOfAll_13 n (x3 + (f_X11_money (f_X1_ofPiece (1 : Int32) x4 (s 50 (s (a + 1) x4.toNatClampNeg).toNatClampNeg) t a s l).1)) (x4 + 1) t a (f_X1_ofPiece (1 : Int32) x4 (s 50 (s (a + 1) x4.toNatClampNeg).toNatClampNeg) t a s l).2.1 (f_X1_ofPiece (1 : Int32) x4 (s 50 (s (a + 1) x4.toNatClampNeg).toNatClampNeg) t a s l).2.2))))

set_option maxRecDepth 100000 in
set_option maxHeartbeats 4000000 in
theorem lp_X9_takesOfAll_13 {G : ab_G} {d : Nat} {D : fl_D} {t : Nat} (htt : isT t) {a : Nat} (hya : isY D a) : ∀ (n : Nat) (x3 : Int32) (x4 : Int32) (s : fl_I) (l : fl_L), p_X9_takesOfAll_13 n x3 x4 t a s l → ab_C G (d + 3) 0 0 M_X9_takesOfAll 13 [some (.ref 46), some (.ref t), some (.ref a), some (.int x3), some (.int x4), none] [] (hp D s l) (rt (some (.int (f_X9_takesOfAll_13 n x3 x4 t a s l).1)) (hp D (f_X9_takesOfAll_13 n x3 x4 t a s l).2.1 (f_X9_takesOfAll_13 n x3 x4 t a s l).2.2)) := by
  intro n
  induction n with
  | zero => intro x3 x4 s l hk; exact hk.elim
  | succ n ih =>
    intro x3 x4 s l hk
    generalize he : f_X9_takesOfAll_13 (n + 1) x3 x4 t a s l = res
    unfold f_X9_takesOfAll_13 at he
    unfold p_X9_takesOfAll_13 at hk
    refine r_iload rfl rfl ?_
    refine r_aload_n rfl rfl ?_
    refine q_getfield rfl (cY_0 hya) rfl ?_
    refine r_icmp_ge rfl (fun c_19 => ?_) (fun c_19 => ?_)
    · rw [if_pos c_19] at he
      replace hk := hk.1 c_19
      refine r_iload_n rfl rfl ?_
      refine r_iret rfl rfl rfl ?_
      subst he
      exact ⟨rfl, rfl⟩
    · rw [if_neg c_19] at he
      replace hk := hk.2 c_19
      refine r_aload_n rfl rfl ?_
      refine q_getfield rfl (cY_0 hya) rfl ?_
      refine r_iload rfl rfl ?_
      obtain ⟨hb1, hk⟩ := hk
      refine q_iald rfl (cY_1 hya) hb1 ?_
      refine r_istore rfl (Nat.le_of_ble_eq_true rfl) rfl ?_
      refine r_iload rfl rfl ?_
      refine r_bipush_ (a := 80) rfl (by decide) ?_
      refine r_icmp_ge rfl (fun c_35 => ?_) (fun c_35 => ?_)
      · rw [if_pos c_35] at he
        replace hk := hk.1 c_35
        refine r_iinc (b := x4 + 1) rfl rfl rfl (Nat.le_of_ble_eq_true rfl) rfl ?_
        refine r_goto rfl ?_
        subst he
        exact r_weak (L1 := [some (.ref 46), some (.ref t), some (.ref a), some (.int x3), some (.int (x4 + 1)), none]) ⟨rfl, rfl, rfl, rfl, rfl, trivial⟩ (ih _ _ _ _ hk)
      · rw [if_neg c_35] at he
        replace hk := hk.2 c_35
        refine r_iload_n rfl rfl ?_
        refine r_aload_n rfl rfl ?_
        refine q_getfield rfl (cc_46 _) rfl ?_
        refine r_iconst_ (a := 1) rfl (by decide) ?_
        refine r_aload_n rfl rfl ?_
        refine r_aload_n rfl rfl ?_
        refine r_iload rfl rfl ?_
        refine r_aload_n rfl rfl ?_
        refine q_getfield rfl (cc_46 _) rfl ?_
        refine r_iload rfl rfl ?_
        obtain ⟨hb2, hk⟩ := hk
        refine q_iald rfl (cc_50 _) hb2 ?_
        obtain ⟨hb3, hk⟩ := hk
        refine q_callV0 [_, _, _, _, _] _ rfl kY_X1_ofPiece kT_X1_ofPiece rfl rfl (Nat.le_of_ble_eq_true rfl) (Nat.le_of_ble_eq_true rfl) (cc_47 _) (s_X1_ofPiece htt hya hb3) (fun r h q => ?_)
        obtain ⟨rfl, rfl⟩ := q
        simp only [Option.toList, List.cons_append, List.nil_append]
        obtain ⟨hb4, hk⟩ := hk
        refine r_callSN0 [_] _ rfl kY_X11_money kT_X11_money rfl rfl (Nat.le_of_ble_eq_true rfl) (Nat.le_of_ble_eq_true rfl) (s_X11_money hb4) (fun r h q => ?_)
        obtain ⟨rfl, rfl⟩ := q
        simp only [Option.toList, List.cons_append, List.nil_append]
        refine r_iadd rfl ?_
        refine r_istore_n rfl (Nat.le_of_ble_eq_true rfl) rfl ?_
        refine r_iinc (b := x4 + 1) rfl rfl rfl (Nat.le_of_ble_eq_true rfl) rfl ?_
        refine r_goto rfl ?_
        subst he
        exact r_weak (L1 := [some (.ref 46), some (.ref t), some (.ref a), some (.int (x3 + (f_X11_money (f_X1_ofPiece (1 : Int32) x4 (s 50 (s (a + 1) x4.toNatClampNeg).toNatClampNeg) t a s l).1))), some (.int (x4 + 1)), none]) ⟨rfl, rfl, rfl, rfl, rfl, trivial⟩ (ih _ _ _ _ hk)

def f_X9_takesOfAll (t : Nat) (a : Nat) (s : fl_I) (l : fl_L) : Int32 × fl_I × fl_L :=
  f_X9_takesOfAll_13 fu (0 : Int32) (0 : Int32) t a (f_X10_countAll a 50 s l).1 (f_X10_countAll a 50 s l).2

def p_X9_takesOfAll (t : Nat) (a : Nat) (s : fl_I) (l : fl_L) : Prop :=
  (p_X10_countAll a 50 s l) ∧ p_X9_takesOfAll_13 fu (0 : Int32) (0 : Int32) t a (f_X10_countAll a 50 s l).1 (f_X10_countAll a 50 s l).2

set_option maxRecDepth 100000 in
set_option maxHeartbeats 4000000 in
theorem s_X9_takesOfAll {G : ab_G} {d : Nat} {D : fl_D} {s : fl_I} {l : fl_L} {t : Nat} (htt : isT t) {a : Nat} (hya : isY D a)  (hk : p_X9_takesOfAll t a s l) : ab_C G (d + 3) 0 0 M_X9_takesOfAll 0 (ab_ent [.ref 46, .ref t, .ref a]) [] (hp D s l) (rt (some (.int (f_X9_takesOfAll t a s l).1)) (hp D (f_X9_takesOfAll t a s l).2.1 (f_X9_takesOfAll t a s l).2.2)) := by
  generalize he : (f_X9_takesOfAll t a s l) = res
  unfold f_X9_takesOfAll at he
  unfold p_X9_takesOfAll at hk
  refine r_weak (L1 := [some (.ref 46), some (.ref t), some (.ref a), none, none, none]) ⟨rfl, rfl, rfl, trivial⟩ ?_
  refine r_aload_n rfl rfl ?_
  refine r_aload_n rfl rfl ?_
  refine q_getfield rfl (cc_46 _) rfl ?_
  obtain ⟨hb0, hk⟩ := hk
  refine q_callV0 [_] _ rfl kY_X10_countAll kT_X10_countAll rfl rfl (Nat.le_of_ble_eq_true rfl) (Nat.le_of_ble_eq_true rfl) (cY_0 hya) (s_X10_countAll hya (cc_50 _) hb0) (fun r h q => ?_)
  obtain ⟨rfl, rfl⟩ := q
  simp only [Option.toList, List.cons_append, List.nil_append]
  refine r_iconst_ (a := 0) rfl (by decide) ?_
  refine r_istore_n rfl (Nat.le_of_ble_eq_true rfl) rfl ?_
  refine r_iconst_ (a := 0) rfl (by decide) ?_
  refine r_istore rfl (Nat.le_of_ble_eq_true rfl) rfl ?_
  subst he
  exact r_weak (L1 := [some (.ref 46), some (.ref t), some (.ref a), some (.int (0 : Int32)), some (.int (0 : Int32)), none]) ⟨rfl, rfl, rfl, rfl, rfl, trivial⟩ (lp_X9_takesOfAll_13 htt hya fu _ _ _ _ hk)

def f_X12_paysOf (v0 : Int32) (v1 : Int32) (s : fl_I) (l : fl_L) : Int32 × fl_I × fl_L :=
  ((f_X12_within (f_X12_lawTells (2 : Int32) (1 : Int32) (wi (wi (wi (wi (f_X12_looks s l).1 92 (0 : Int32).toNatClampNeg ((f_X12_looks s l).1 96 v1.toNatClampNeg)) 92 (5 : Int32).toNatClampNeg ((wi (f_X12_looks s l).1 92 (0 : Int32).toNatClampNeg ((f_X12_looks s l).1 96 v1.toNatClampNeg)) 78 (((4 : Int32) * ((wi (f_X12_looks s l).1 92 (0 : Int32).toNatClampNeg ((f_X12_looks s l).1 96 v1.toNatClampNeg)) 60 18)) + v0).toNatClampNeg)) 92 (6 : Int32).toNatClampNeg (f_X12_inHat v0 (wi (wi (f_X12_looks s l).1 92 (0 : Int32).toNatClampNeg ((f_X12_looks s l).1 96 v1.toNatClampNeg)) 92 (5 : Int32).toNatClampNeg ((wi (f_X12_looks s l).1 92 (0 : Int32).toNatClampNeg ((f_X12_looks s l).1 96 v1.toNatClampNeg)) 78 (((4 : Int32) * ((wi (f_X12_looks s l).1 92 (0 : Int32).toNatClampNeg ((f_X12_looks s l).1 96 v1.toNatClampNeg)) 60 18)) + v0).toNatClampNeg)) (f_X12_looks s l).2)) 92 (8 : Int32).toNatClampNeg v0) (f_X12_looks s l).2).1 (0 : Int32) (99 : Int32)), (f_X12_lawTells (2 : Int32) (1 : Int32) (wi (wi (wi (wi (f_X12_looks s l).1 92 (0 : Int32).toNatClampNeg ((f_X12_looks s l).1 96 v1.toNatClampNeg)) 92 (5 : Int32).toNatClampNeg ((wi (f_X12_looks s l).1 92 (0 : Int32).toNatClampNeg ((f_X12_looks s l).1 96 v1.toNatClampNeg)) 78 (((4 : Int32) * ((wi (f_X12_looks s l).1 92 (0 : Int32).toNatClampNeg ((f_X12_looks s l).1 96 v1.toNatClampNeg)) 60 18)) + v0).toNatClampNeg)) 92 (6 : Int32).toNatClampNeg (f_X12_inHat v0 (wi (wi (f_X12_looks s l).1 92 (0 : Int32).toNatClampNeg ((f_X12_looks s l).1 96 v1.toNatClampNeg)) 92 (5 : Int32).toNatClampNeg ((wi (f_X12_looks s l).1 92 (0 : Int32).toNatClampNeg ((f_X12_looks s l).1 96 v1.toNatClampNeg)) 78 (((4 : Int32) * ((wi (f_X12_looks s l).1 92 (0 : Int32).toNatClampNeg ((f_X12_looks s l).1 96 v1.toNatClampNeg)) 60 18)) + v0).toNatClampNeg)) (f_X12_looks s l).2)) 92 (8 : Int32).toNatClampNeg v0) (f_X12_looks s l).2).2.1, (f_X12_lawTells (2 : Int32) (1 : Int32) (wi (wi (wi (wi (f_X12_looks s l).1 92 (0 : Int32).toNatClampNeg ((f_X12_looks s l).1 96 v1.toNatClampNeg)) 92 (5 : Int32).toNatClampNeg ((wi (f_X12_looks s l).1 92 (0 : Int32).toNatClampNeg ((f_X12_looks s l).1 96 v1.toNatClampNeg)) 78 (((4 : Int32) * ((wi (f_X12_looks s l).1 92 (0 : Int32).toNatClampNeg ((f_X12_looks s l).1 96 v1.toNatClampNeg)) 60 18)) + v0).toNatClampNeg)) 92 (6 : Int32).toNatClampNeg (f_X12_inHat v0 (wi (wi (f_X12_looks s l).1 92 (0 : Int32).toNatClampNeg ((f_X12_looks s l).1 96 v1.toNatClampNeg)) 92 (5 : Int32).toNatClampNeg ((wi (f_X12_looks s l).1 92 (0 : Int32).toNatClampNeg ((f_X12_looks s l).1 96 v1.toNatClampNeg)) 78 (((4 : Int32) * ((wi (f_X12_looks s l).1 92 (0 : Int32).toNatClampNeg ((f_X12_looks s l).1 96 v1.toNatClampNeg)) 60 18)) + v0).toNatClampNeg)) (f_X12_looks s l).2)) 92 (8 : Int32).toNatClampNeg v0) (f_X12_looks s l).2).2.2)

def p_X12_paysOf (v0 : Int32) (v1 : Int32) (s : fl_I) (l : fl_L) : Prop :=
  (p_X12_looks s l) ∧ (vp_in v1 32) ∧ (vp_in (((4 : Int32) * ((wi (f_X12_looks s l).1 92 (0 : Int32).toNatClampNeg ((f_X12_looks s l).1 96 v1.toNatClampNeg)) 60 18)) + v0) 8) ∧ (p_X12_inHat v0 (wi (wi (f_X12_looks s l).1 92 (0 : Int32).toNatClampNeg ((f_X12_looks s l).1 96 v1.toNatClampNeg)) 92 (5 : Int32).toNatClampNeg ((wi (f_X12_looks s l).1 92 (0 : Int32).toNatClampNeg ((f_X12_looks s l).1 96 v1.toNatClampNeg)) 78 (((4 : Int32) * ((wi (f_X12_looks s l).1 92 (0 : Int32).toNatClampNeg ((f_X12_looks s l).1 96 v1.toNatClampNeg)) 60 18)) + v0).toNatClampNeg)) (f_X12_looks s l).2) ∧ (p_X12_lawTells (2 : Int32) (1 : Int32) (wi (wi (wi (wi (f_X12_looks s l).1 92 (0 : Int32).toNatClampNeg ((f_X12_looks s l).1 96 v1.toNatClampNeg)) 92 (5 : Int32).toNatClampNeg ((wi (f_X12_looks s l).1 92 (0 : Int32).toNatClampNeg ((f_X12_looks s l).1 96 v1.toNatClampNeg)) 78 (((4 : Int32) * ((wi (f_X12_looks s l).1 92 (0 : Int32).toNatClampNeg ((f_X12_looks s l).1 96 v1.toNatClampNeg)) 60 18)) + v0).toNatClampNeg)) 92 (6 : Int32).toNatClampNeg (f_X12_inHat v0 (wi (wi (f_X12_looks s l).1 92 (0 : Int32).toNatClampNeg ((f_X12_looks s l).1 96 v1.toNatClampNeg)) 92 (5 : Int32).toNatClampNeg ((wi (f_X12_looks s l).1 92 (0 : Int32).toNatClampNeg ((f_X12_looks s l).1 96 v1.toNatClampNeg)) 78 (((4 : Int32) * ((wi (f_X12_looks s l).1 92 (0 : Int32).toNatClampNeg ((f_X12_looks s l).1 96 v1.toNatClampNeg)) 60 18)) + v0).toNatClampNeg)) (f_X12_looks s l).2)) 92 (8 : Int32).toNatClampNeg v0) (f_X12_looks s l).2) ∧ (p_X12_within (f_X12_lawTells (2 : Int32) (1 : Int32) (wi (wi (wi (wi (f_X12_looks s l).1 92 (0 : Int32).toNatClampNeg ((f_X12_looks s l).1 96 v1.toNatClampNeg)) 92 (5 : Int32).toNatClampNeg ((wi (f_X12_looks s l).1 92 (0 : Int32).toNatClampNeg ((f_X12_looks s l).1 96 v1.toNatClampNeg)) 78 (((4 : Int32) * ((wi (f_X12_looks s l).1 92 (0 : Int32).toNatClampNeg ((f_X12_looks s l).1 96 v1.toNatClampNeg)) 60 18)) + v0).toNatClampNeg)) 92 (6 : Int32).toNatClampNeg (f_X12_inHat v0 (wi (wi (f_X12_looks s l).1 92 (0 : Int32).toNatClampNeg ((f_X12_looks s l).1 96 v1.toNatClampNeg)) 92 (5 : Int32).toNatClampNeg ((wi (f_X12_looks s l).1 92 (0 : Int32).toNatClampNeg ((f_X12_looks s l).1 96 v1.toNatClampNeg)) 78 (((4 : Int32) * ((wi (f_X12_looks s l).1 92 (0 : Int32).toNatClampNeg ((f_X12_looks s l).1 96 v1.toNatClampNeg)) 60 18)) + v0).toNatClampNeg)) (f_X12_looks s l).2)) 92 (8 : Int32).toNatClampNeg v0) (f_X12_looks s l).2).1 (0 : Int32) (99 : Int32)) ∧ True

set_option maxRecDepth 100000 in
set_option maxHeartbeats 4000000 in
theorem s_X12_paysOf {G : ab_G} {d : Nat} {D : fl_D} {s : fl_I} {l : fl_L} {v0 : Int32} {v1 : Int32} (hk : p_X12_paysOf v0 v1 s l) : ab_C G (d + 2) 0 0 M_X12_paysOf 0 (ab_ent [.ref 60, .int v0, .int v1]) [] (hp D s l) (rt (some (.int (f_X12_paysOf v0 v1 s l).1)) (hp D (f_X12_paysOf v0 v1 s l).2.1 (f_X12_paysOf v0 v1 s l).2.2)) := by
  generalize he : (f_X12_paysOf v0 v1 s l) = res
  unfold f_X12_paysOf at he
  unfold p_X12_paysOf at hk
  refine r_weak (L1 := [some (.ref 60), some (.int v0), some (.int v1)]) ⟨rfl, rfl, rfl, trivial⟩ ?_
  refine r_aload_n rfl rfl ?_
  obtain ⟨hb0, hk⟩ := hk
  refine q_callV0 [] _ rfl kY_X12_looks kT_X12_looks rfl rfl (Nat.le_of_ble_eq_true rfl) (Nat.le_of_ble_eq_true rfl) (cc_60 _) (s_X12_looks hb0) (fun r h q => ?_)
  obtain ⟨rfl, rfl⟩ := q
  simp only [Option.toList, List.cons_append, List.nil_append]
  refine r_aload_n rfl rfl ?_
  refine q_getfield rfl (cc_60 _) rfl ?_
  refine r_iconst_ (a := 0) rfl (by decide) ?_
  refine r_aload_n rfl rfl ?_
  refine q_getfield rfl (cc_60 _) rfl ?_
  refine r_iload_n rfl rfl ?_
  obtain ⟨hb1, hk⟩ := hk
  refine q_iald rfl (cc_96 _) hb1 ?_
  refine w_iast rfl (cc_92 _) (by unfold vp_in; decide) ?_
  refine r_aload_n rfl rfl ?_
  refine q_getfield rfl (cc_60 _) rfl ?_
  refine r_iconst_ (a := 5) rfl (by decide) ?_
  refine r_aload_n rfl rfl ?_
  refine q_getfield rfl (cc_60 _) rfl ?_
  refine r_iconst_ (a := 4) rfl (by decide) ?_
  refine r_aload_n rfl rfl ?_
  refine q_getfield rfl (cc_60 _) rfl ?_
  refine r_imul rfl ?_
  refine r_iload_n rfl rfl ?_
  refine r_iadd rfl ?_
  obtain ⟨hb2, hk⟩ := hk
  refine q_iald rfl (cc_78 _) hb2 ?_
  refine w_iast rfl (cc_92 _) (by unfold vp_in; decide) ?_
  refine r_aload_n rfl rfl ?_
  refine q_getfield rfl (cc_60 _) rfl ?_
  refine r_bipush_ (a := 6) rfl (by decide) ?_
  refine r_aload_n rfl rfl ?_
  refine r_iload_n rfl rfl ?_
  obtain ⟨hb3, hk⟩ := hk
  refine q_callV0 [_] _ rfl kY_X12_inHat kT_X12_inHat rfl rfl (Nat.le_of_ble_eq_true rfl) (Nat.le_of_ble_eq_true rfl) (cc_60 _) (s_X12_inHat hb3) (fun r h q => ?_)
  obtain ⟨rfl, rfl⟩ := q
  simp only [Option.toList, List.cons_append, List.nil_append]
  refine w_iast rfl (cc_92 _) (by unfold vp_in; decide) ?_
  refine r_aload_n rfl rfl ?_
  refine q_getfield rfl (cc_60 _) rfl ?_
  refine r_bipush_ (a := 8) rfl (by decide) ?_
  refine r_iload_n rfl rfl ?_
  refine w_iast rfl (cc_92 _) (by unfold vp_in; decide) ?_
  refine r_aload_n rfl rfl ?_
  refine r_iconst_ (a := 2) rfl (by decide) ?_
  refine r_iconst_ (a := 1) rfl (by decide) ?_
  obtain ⟨hb4, hk⟩ := hk
  refine q_callV0 [_, _] _ rfl kY_X12_lawTells kT_X12_lawTells rfl rfl (Nat.le_of_ble_eq_true rfl) (Nat.le_of_ble_eq_true rfl) (cc_60 _) (s_X12_lawTells hb4) (fun r h q => ?_)
  obtain ⟨rfl, rfl⟩ := q
  simp only [Option.toList, List.cons_append, List.nil_append]
  refine r_iconst_ (a := 0) rfl (by decide) ?_
  refine r_bipush_ (a := 99) rfl (by decide) ?_
  obtain ⟨hb5, hk⟩ := hk
  refine r_callS0 [_, _, _] _ rfl kY_X12_within kT_X12_within rfl rfl (Nat.le_of_ble_eq_true rfl) (Nat.le_of_ble_eq_true rfl) (s_X12_within hb5) (fun r h q => ?_)
  obtain ⟨rfl, rfl⟩ := q
  simp only [Option.toList, List.cons_append, List.nil_append]
  refine r_iret rfl rfl rfl ?_
  subst he
  exact ⟨rfl, rfl⟩

def f_X3_letterTold_49 (t : Nat) (s : fl_I) (l : fl_L) : Int32 × fl_I × fl_L :=
    ((0 : Int32), s, l)

def p_X3_letterTold_49 (t : Nat) (s : fl_I) (l : fl_L) : Prop :=
    True

set_option maxRecDepth 100000 in
set_option maxHeartbeats 4000000 in
theorem lp_X3_letterTold_49 {G : ab_G} {d : Nat} {D : fl_D} {t : Nat} (htt : isT t) : ∀ (s : fl_I) (l : fl_L), p_X3_letterTold_49  t s l → ab_C G (d + 3) 0 0 M_X3_letterTold 49 [none, none, none] [] (hp D s l) (rt (some (.int (f_X3_letterTold_49  t s l).1)) (hp D (f_X3_letterTold_49  t s l).2.1 (f_X3_letterTold_49  t s l).2.2)) := by
  intro  s l hk
  generalize he : f_X3_letterTold_49  t s l = res
  unfold f_X3_letterTold_49 at he
  unfold p_X3_letterTold_49 at hk
  refine r_iconst_ (a := 0) rfl (by decide) ?_
  refine r_iret rfl rfl rfl ?_
  subst he
  exact ⟨rfl, rfl⟩

def f_X3_letterTold_75 (t : Nat) (s : fl_I) (l : fl_L) : Int32 × fl_I × fl_L :=
    ((0 : Int32), s, l)

def p_X3_letterTold_75 (t : Nat) (s : fl_I) (l : fl_L) : Prop :=
    True

set_option maxRecDepth 100000 in
set_option maxHeartbeats 4000000 in
theorem lp_X3_letterTold_75 {G : ab_G} {d : Nat} {D : fl_D} {t : Nat} (htt : isT t) : ∀ (s : fl_I) (l : fl_L), p_X3_letterTold_75  t s l → ab_C G (d + 3) 0 0 M_X3_letterTold 75 [none, none, none] [] (hp D s l) (rt (some (.int (f_X3_letterTold_75  t s l).1)) (hp D (f_X3_letterTold_75  t s l).2.1 (f_X3_letterTold_75  t s l).2.2)) := by
  intro  s l hk
  generalize he : f_X3_letterTold_75  t s l = res
  unfold f_X3_letterTold_75 at he
  unfold p_X3_letterTold_75 at hk
  refine r_iconst_ (a := 0) rfl (by decide) ?_
  refine r_iret rfl rfl rfl ?_
  subst he
  exact ⟨rfl, rfl⟩

def f_X3_letterTold_90 (t : Nat) (s : fl_I) (l : fl_L) : Int32 × fl_I × fl_L :=
    ((1 : Int32), s, l)

def p_X3_letterTold_90 (t : Nat) (s : fl_I) (l : fl_L) : Prop :=
    True

set_option maxRecDepth 100000 in
set_option maxHeartbeats 4000000 in
theorem lp_X3_letterTold_90 {G : ab_G} {d : Nat} {D : fl_D} {t : Nat} (htt : isT t) : ∀ (s : fl_I) (l : fl_L), p_X3_letterTold_90  t s l → ab_C G (d + 3) 0 0 M_X3_letterTold 90 [none, none, none] [] (hp D s l) (rt (some (.int (f_X3_letterTold_90  t s l).1)) (hp D (f_X3_letterTold_90  t s l).2.1 (f_X3_letterTold_90  t s l).2.2)) := by
  intro  s l hk
  generalize he : f_X3_letterTold_90  t s l = res
  unfold f_X3_letterTold_90 at he
  unfold p_X3_letterTold_90 at hk
  refine r_iconst_ (a := 1) rfl (by decide) ?_
  refine r_iret rfl rfl rfl ?_
  subst he
  exact ⟨rfl, rfl⟩

def f_X3_letterTold_72 (x2 : Int32) (y0 : Int32) (t : Nat) (s : fl_I) (l : fl_L) : Int32 × fl_I × fl_L :=
    if (y0 = 0) then f_X3_letterTold_75  t s l else f_X3_letterTold_90  t (f_X5_addLetter (l 3 7) x2 (s 3 6) t s l).1 (f_X5_addLetter (l 3 7) x2 (s 3 6) t s l).2

def p_X3_letterTold_72 (x2 : Int32) (y0 : Int32) (t : Nat) (s : fl_I) (l : fl_L) : Prop :=
    (((y0 = 0) → p_X3_letterTold_75  t s l) ∧ (¬ (y0 = 0) → (p_X5_addLetter (l 3 7) x2 (s 3 6) t s l) ∧ p_X3_letterTold_90  t (f_X5_addLetter (l 3 7) x2 (s 3 6) t s l).1 (f_X5_addLetter (l 3 7) x2 (s 3 6) t s l).2))

set_option maxRecDepth 100000 in
set_option maxHeartbeats 4000000 in
theorem lp_X3_letterTold_72 {G : ab_G} {d : Nat} {D : fl_D} {t : Nat} (htt : isT t) : ∀ (x2 : Int32) (y0 : Int32) (s : fl_I) (l : fl_L), p_X3_letterTold_72 x2 y0 t s l → ab_C G (d + 3) 0 0 M_X3_letterTold 72 [some (.ref 3), some (.ref t), some (.int x2)] [.int y0] (hp D s l) (rt (some (.int (f_X3_letterTold_72 x2 y0 t s l).1)) (hp D (f_X3_letterTold_72 x2 y0 t s l).2.1 (f_X3_letterTold_72 x2 y0 t s l).2.2)) := by
  intro x2 y0 s l hk
  generalize he : f_X3_letterTold_72 x2 y0 t s l = res
  unfold f_X3_letterTold_72 at he
  unfold p_X3_letterTold_72 at hk
  refine r_if_ne rfl (fun c_72 => ?_) (fun c_72 => ?_)
  · rw [if_neg c_72] at he
    replace hk := hk.2 c_72
    refine r_aload_n rfl rfl ?_
    refine r_aload_n rfl rfl ?_
    refine q_getfield rfl (cc_3 _) rfl ?_
    refine r_iload_n rfl rfl ?_
    refine r_aload_n rfl rfl ?_
    refine q_getfield rfl (cc_3 _) rfl ?_
    obtain ⟨hb5, hk⟩ := hk
    refine q_callV0 [_, _, _] _ rfl kY_X5_addLetter kT_X5_addLetter rfl rfl (Nat.le_of_ble_eq_true rfl) (Nat.le_of_ble_eq_true rfl) (cT_0 htt) (s_X5_addLetter htt hb5) (fun r h q => ?_)
    obtain ⟨rfl, rfl⟩ := q
    simp only [Option.toList, List.cons_append, List.nil_append]
    subst he
    exact r_weak (L1 := [none, none, none]) trivial (lp_X3_letterTold_90 htt _ _ hk)
  · rw [if_pos c_72] at he
    replace hk := hk.1 c_72
    subst he
    exact r_weak (L1 := [none, none, none]) trivial (lp_X3_letterTold_75 htt _ _ hk)

def f_X3_letterTold_63 (x2 : Int32) (y0 : Int32) (t : Nat) (s : fl_I) (l : fl_L) : Int32 × fl_I × fl_L :=
    if (y0 = 0) then f_X3_letterTold_75  t s l else f_X3_letterTold_72 x2 (f_X3_take (59 : Int32) s l).1 t (f_X3_take (59 : Int32) s l).2.1 (f_X3_take (59 : Int32) s l).2.2

def p_X3_letterTold_63 (x2 : Int32) (y0 : Int32) (t : Nat) (s : fl_I) (l : fl_L) : Prop :=
    (((y0 = 0) → p_X3_letterTold_75  t s l) ∧ (¬ (y0 = 0) → (p_X3_take (59 : Int32) s l) ∧ p_X3_letterTold_72 x2 (f_X3_take (59 : Int32) s l).1 t (f_X3_take (59 : Int32) s l).2.1 (f_X3_take (59 : Int32) s l).2.2))

set_option maxRecDepth 100000 in
set_option maxHeartbeats 4000000 in
theorem lp_X3_letterTold_63 {G : ab_G} {d : Nat} {D : fl_D} {t : Nat} (htt : isT t) : ∀ (x2 : Int32) (y0 : Int32) (s : fl_I) (l : fl_L), p_X3_letterTold_63 x2 y0 t s l → ab_C G (d + 3) 0 0 M_X3_letterTold 63 [some (.ref 3), some (.ref t), some (.int x2)] [.int y0] (hp D s l) (rt (some (.int (f_X3_letterTold_63 x2 y0 t s l).1)) (hp D (f_X3_letterTold_63 x2 y0 t s l).2.1 (f_X3_letterTold_63 x2 y0 t s l).2.2)) := by
  intro x2 y0 s l hk
  generalize he : f_X3_letterTold_63 x2 y0 t s l = res
  unfold f_X3_letterTold_63 at he
  unfold p_X3_letterTold_63 at hk
  refine r_if_eq rfl (fun c_63 => ?_) (fun c_63 => ?_)
  · rw [if_pos c_63] at he
    replace hk := hk.1 c_63
    subst he
    exact r_weak (L1 := [none, none, none]) trivial (lp_X3_letterTold_75 htt _ _ hk)
  · rw [if_neg c_63] at he
    replace hk := hk.2 c_63
    refine r_aload_n rfl rfl ?_
    refine r_bipush_ (a := 59) rfl (by decide) ?_
    obtain ⟨hb4, hk⟩ := hk
    refine q_callV0 [_] _ rfl kY_X3_take kT_X3_take rfl rfl (Nat.le_of_ble_eq_true rfl) (Nat.le_of_ble_eq_true rfl) (cc_3 _) (s_X3_take hb4) (fun r h q => ?_)
    obtain ⟨rfl, rfl⟩ := q
    simp only [Option.toList, List.cons_append, List.nil_append]
    subst he
    exact r_weak (L1 := [some (.ref 3), some (.ref t), some (.int x2)]) ⟨rfl, rfl, rfl, trivial⟩ (lp_X3_letterTold_72 htt _ _ _ _ hk)

def f_X3_letterTold_46 (y0 : Int32) (t : Nat) (s : fl_I) (l : fl_L) : Int32 × fl_I × fl_L :=
    if (y0 = 0) then f_X3_letterTold_49  t s l else f_X3_letterTold_63 (s 3 6) (f_X3_takeInt (0 : Int32) (7 : Int32) s l).1 t (f_X3_takeInt (0 : Int32) (7 : Int32) s l).2.1 (f_X3_takeInt (0 : Int32) (7 : Int32) s l).2.2

def p_X3_letterTold_46 (y0 : Int32) (t : Nat) (s : fl_I) (l : fl_L) : Prop :=
    (((y0 = 0) → p_X3_letterTold_49  t s l) ∧ (¬ (y0 = 0) → (p_X3_takeInt (0 : Int32) (7 : Int32) s l) ∧ p_X3_letterTold_63 (s 3 6) (f_X3_takeInt (0 : Int32) (7 : Int32) s l).1 t (f_X3_takeInt (0 : Int32) (7 : Int32) s l).2.1 (f_X3_takeInt (0 : Int32) (7 : Int32) s l).2.2))

set_option maxRecDepth 100000 in
set_option maxHeartbeats 4000000 in
theorem lp_X3_letterTold_46 {G : ab_G} {d : Nat} {D : fl_D} {t : Nat} (htt : isT t) : ∀ (y0 : Int32) (s : fl_I) (l : fl_L), p_X3_letterTold_46 y0 t s l → ab_C G (d + 3) 0 0 M_X3_letterTold 46 [some (.ref 3), some (.ref t), none] [.int y0] (hp D s l) (rt (some (.int (f_X3_letterTold_46 y0 t s l).1)) (hp D (f_X3_letterTold_46 y0 t s l).2.1 (f_X3_letterTold_46 y0 t s l).2.2)) := by
  intro y0 s l hk
  generalize he : f_X3_letterTold_46 y0 t s l = res
  unfold f_X3_letterTold_46 at he
  unfold p_X3_letterTold_46 at hk
  refine r_if_ne rfl (fun c_46 => ?_) (fun c_46 => ?_)
  · rw [if_neg c_46] at he
    replace hk := hk.2 c_46
    refine r_aload_n rfl rfl ?_
    refine q_getfield rfl (cc_3 _) rfl ?_
    refine r_istore_n rfl (Nat.le_of_ble_eq_true rfl) rfl ?_
    refine r_aload_n rfl rfl ?_
    refine r_iconst_ (a := 0) rfl (by decide) ?_
    refine r_bipush_ (a := 7) rfl (by decide) ?_
    obtain ⟨hb3, hk⟩ := hk
    refine q_callV0 [_, _] _ rfl kY_X3_takeInt kT_X3_takeInt rfl rfl (Nat.le_of_ble_eq_true rfl) (Nat.le_of_ble_eq_true rfl) (cc_3 _) (s_X3_takeInt hb3) (fun r h q => ?_)
    obtain ⟨rfl, rfl⟩ := q
    simp only [Option.toList, List.cons_append, List.nil_append]
    subst he
    exact r_weak (L1 := [some (.ref 3), some (.ref t), some (.int (s 3 6))]) ⟨rfl, rfl, rfl, trivial⟩ (lp_X3_letterTold_63 htt _ _ _ _ hk)
  · rw [if_pos c_46] at he
    replace hk := hk.1 c_46
    subst he
    exact r_weak (L1 := [none, none, none]) trivial (lp_X3_letterTold_49 htt _ _ hk)

def f_X3_letterTold_36 (y0 : Int32) (t : Nat) (s : fl_I) (l : fl_L) : Int32 × fl_I × fl_L :=
    if (y0 = 0) then f_X3_letterTold_49  t s l else f_X3_letterTold_46 (f_X3_takeInt (0 : Int32) (9 : Int32) s l).1 t (f_X3_takeInt (0 : Int32) (9 : Int32) s l).2.1 (f_X3_takeInt (0 : Int32) (9 : Int32) s l).2.2

def p_X3_letterTold_36 (y0 : Int32) (t : Nat) (s : fl_I) (l : fl_L) : Prop :=
    (((y0 = 0) → p_X3_letterTold_49  t s l) ∧ (¬ (y0 = 0) → (p_X3_takeInt (0 : Int32) (9 : Int32) s l) ∧ p_X3_letterTold_46 (f_X3_takeInt (0 : Int32) (9 : Int32) s l).1 t (f_X3_takeInt (0 : Int32) (9 : Int32) s l).2.1 (f_X3_takeInt (0 : Int32) (9 : Int32) s l).2.2))

set_option maxRecDepth 100000 in
set_option maxHeartbeats 4000000 in
theorem lp_X3_letterTold_36 {G : ab_G} {d : Nat} {D : fl_D} {t : Nat} (htt : isT t) : ∀ (y0 : Int32) (s : fl_I) (l : fl_L), p_X3_letterTold_36 y0 t s l → ab_C G (d + 3) 0 0 M_X3_letterTold 36 [some (.ref 3), some (.ref t), none] [.int y0] (hp D s l) (rt (some (.int (f_X3_letterTold_36 y0 t s l).1)) (hp D (f_X3_letterTold_36 y0 t s l).2.1 (f_X3_letterTold_36 y0 t s l).2.2)) := by
  intro y0 s l hk
  generalize he : f_X3_letterTold_36 y0 t s l = res
  unfold f_X3_letterTold_36 at he
  unfold p_X3_letterTold_36 at hk
  refine r_if_eq rfl (fun c_36 => ?_) (fun c_36 => ?_)
  · rw [if_pos c_36] at he
    replace hk := hk.1 c_36
    subst he
    exact r_weak (L1 := [none, none, none]) trivial (lp_X3_letterTold_49 htt _ _ hk)
  · rw [if_neg c_36] at he
    replace hk := hk.2 c_36
    refine r_aload_n rfl rfl ?_
    refine r_iconst_ (a := 0) rfl (by decide) ?_
    refine r_bipush_ (a := 9) rfl (by decide) ?_
    obtain ⟨hb2, hk⟩ := hk
    refine q_callV0 [_, _] _ rfl kY_X3_takeInt kT_X3_takeInt rfl rfl (Nat.le_of_ble_eq_true rfl) (Nat.le_of_ble_eq_true rfl) (cc_3 _) (s_X3_takeInt hb2) (fun r h q => ?_)
    obtain ⟨rfl, rfl⟩ := q
    simp only [Option.toList, List.cons_append, List.nil_append]
    subst he
    exact r_weak (L1 := [some (.ref 3), some (.ref t), none]) ⟨rfl, rfl, trivial⟩ (lp_X3_letterTold_46 htt _ _ _ hk)

def f_X3_letterTold_21 (y0 : Int32) (t : Nat) (s : fl_I) (l : fl_L) : Int32 × fl_I × fl_L :=
    if (y0 = 0) then f_X3_letterTold_49  t s l else f_X3_letterTold_36 (f_X3_takeName (s t 0) (t + 1) 4 s l).1 t (f_X3_takeName (s t 0) (t + 1) 4 s l).2.1 (f_X3_takeName (s t 0) (t + 1) 4 s l).2.2

def p_X3_letterTold_21 (y0 : Int32) (t : Nat) (s : fl_I) (l : fl_L) : Prop :=
    (((y0 = 0) → p_X3_letterTold_49  t s l) ∧ (¬ (y0 = 0) → (p_X3_takeName (s t 0) (t + 1) 4 s l) ∧ p_X3_letterTold_36 (f_X3_takeName (s t 0) (t + 1) 4 s l).1 t (f_X3_takeName (s t 0) (t + 1) 4 s l).2.1 (f_X3_takeName (s t 0) (t + 1) 4 s l).2.2))

set_option maxRecDepth 100000 in
set_option maxHeartbeats 4000000 in
theorem lp_X3_letterTold_21 {G : ab_G} {d : Nat} {D : fl_D} {t : Nat} (htt : isT t) : ∀ (y0 : Int32) (s : fl_I) (l : fl_L), p_X3_letterTold_21 y0 t s l → ab_C G (d + 3) 0 0 M_X3_letterTold 21 [some (.ref 3), some (.ref t), none] [.int y0] (hp D s l) (rt (some (.int (f_X3_letterTold_21 y0 t s l).1)) (hp D (f_X3_letterTold_21 y0 t s l).2.1 (f_X3_letterTold_21 y0 t s l).2.2)) := by
  intro y0 s l hk
  generalize he : f_X3_letterTold_21 y0 t s l = res
  unfold f_X3_letterTold_21 at he
  unfold p_X3_letterTold_21 at hk
  refine r_if_eq rfl (fun c_21 => ?_) (fun c_21 => ?_)
  · rw [if_pos c_21] at he
    replace hk := hk.1 c_21
    subst he
    exact r_weak (L1 := [none, none, none]) trivial (lp_X3_letterTold_49 htt _ _ hk)
  · rw [if_neg c_21] at he
    replace hk := hk.2 c_21
    refine r_aload_n rfl rfl ?_
    refine r_aload_n rfl rfl ?_
    refine q_getfield rfl (cT_0 htt) rfl ?_
    refine r_aload_n rfl rfl ?_
    refine q_getfield rfl (cT_0 htt) rfl ?_
    obtain ⟨hb1, hk⟩ := hk
    refine q_callV0 [_, _] _ rfl kY_X3_takeName kT_X3_takeName rfl rfl (Nat.le_of_ble_eq_true rfl) (Nat.le_of_ble_eq_true rfl) (cc_3 _) (s_X3_takeName (cT_1 htt) hb1) (fun r h q => ?_)
    obtain ⟨rfl, rfl⟩ := q
    simp only [Option.toList, List.cons_append, List.nil_append]
    subst he
    exact r_weak (L1 := [some (.ref 3), some (.ref t), none]) ⟨rfl, rfl, trivial⟩ (lp_X3_letterTold_36 htt _ _ _ hk)

def f_X3_letterTold_13 (y0 : Int32) (t : Nat) (s : fl_I) (l : fl_L) : Int32 × fl_I × fl_L :=
    (y0, s, l)

def p_X3_letterTold_13 (y0 : Int32) (t : Nat) (s : fl_I) (l : fl_L) : Prop :=
    (y0 = 0 ∨ y0 = 1) ∧ True

set_option maxRecDepth 100000 in
set_option maxHeartbeats 4000000 in
theorem lp_X3_letterTold_13 {G : ab_G} {d : Nat} {D : fl_D} {t : Nat} (htt : isT t) : ∀ (y0 : Int32) (s : fl_I) (l : fl_L), p_X3_letterTold_13 y0 t s l → ab_C G (d + 3) 0 0 M_X3_letterTold 13 [none, none, none] [.int y0] (hp D s l) (rt (some (.int (f_X3_letterTold_13 y0 t s l).1)) (hp D (f_X3_letterTold_13 y0 t s l).2.1 (f_X3_letterTold_13 y0 t s l).2.2)) := by
  intro y0 s l hk
  generalize he : f_X3_letterTold_13 y0 t s l = res
  unfold f_X3_letterTold_13 at he
  unfold p_X3_letterTold_13 at hk
  obtain ⟨hb7, hk⟩ := hk
  refine r_iret rfl rfl (nar_b hb7) ?_
  subst he
  exact ⟨rfl, rfl⟩

def f_X3_letterTold (t : Nat) (s : fl_I) (l : fl_L) : Int32 × fl_I × fl_L :=
  if ((s t 0) < (4 : Int32)) then f_X3_letterTold_21 (f_X3_take (256 : Int32) s l).1 t (f_X3_take (256 : Int32) s l).2.1 (f_X3_take (256 : Int32) s l).2.2 else f_X3_letterTold_13 (f_X3_stop (2 : Int32) s l).1 t (f_X3_stop (2 : Int32) s l).2.1 (f_X3_stop (2 : Int32) s l).2.2

def p_X3_letterTold (t : Nat) (s : fl_I) (l : fl_L) : Prop :=
  ((((s t 0) < (4 : Int32)) → (p_X3_take (256 : Int32) s l) ∧ p_X3_letterTold_21 (f_X3_take (256 : Int32) s l).1 t (f_X3_take (256 : Int32) s l).2.1 (f_X3_take (256 : Int32) s l).2.2) ∧ (¬ ((s t 0) < (4 : Int32)) → (p_X3_stop (2 : Int32) s l) ∧ p_X3_letterTold_13 (f_X3_stop (2 : Int32) s l).1 t (f_X3_stop (2 : Int32) s l).2.1 (f_X3_stop (2 : Int32) s l).2.2))

set_option maxRecDepth 100000 in
set_option maxHeartbeats 4000000 in
theorem s_X3_letterTold {G : ab_G} {d : Nat} {D : fl_D} {s : fl_I} {l : fl_L} {t : Nat} (htt : isT t)  (hk : p_X3_letterTold t s l) : ab_C G (d + 3) 0 0 M_X3_letterTold 0 (ab_ent [.ref 3, .ref t]) [] (hp D s l) (rt (some (.int (f_X3_letterTold t s l).1)) (hp D (f_X3_letterTold t s l).2.1 (f_X3_letterTold t s l).2.2)) := by
  generalize he : (f_X3_letterTold t s l) = res
  unfold f_X3_letterTold at he
  unfold p_X3_letterTold at hk
  refine r_weak (L1 := [some (.ref 3), some (.ref t), none]) ⟨rfl, rfl, trivial⟩ ?_
  refine r_aload_n rfl rfl ?_
  refine q_getfield rfl (cT_0 htt) rfl ?_
  refine r_iconst_ (a := 4) rfl (by decide) ?_
  refine r_icmp_lt rfl (fun c_5 => ?_) (fun c_5 => ?_)
  · rw [if_pos c_5] at he
    replace hk := hk.1 c_5
    refine r_aload_n rfl rfl ?_
    refine r_sipush_ (a := 256) rfl (by decide) ?_
    obtain ⟨hb0, hk⟩ := hk
    refine q_callV0 [_] _ rfl kY_X3_take kT_X3_take rfl rfl (Nat.le_of_ble_eq_true rfl) (Nat.le_of_ble_eq_true rfl) (cc_3 _) (s_X3_take hb0) (fun r h q => ?_)
    obtain ⟨rfl, rfl⟩ := q
    simp only [Option.toList, List.cons_append, List.nil_append]
    subst he
    exact r_weak (L1 := [some (.ref 3), some (.ref t), none]) ⟨rfl, rfl, trivial⟩ (lp_X3_letterTold_21 htt _ _ _ hk)
  · rw [if_neg c_5] at he
    replace hk := hk.2 c_5
    refine r_aload_n rfl rfl ?_
    refine r_iconst_ (a := 2) rfl (by decide) ?_
    obtain ⟨hb6, hk⟩ := hk
    refine q_callV0 [_] _ rfl kY_X3_stop kT_X3_stop rfl rfl (Nat.le_of_ble_eq_true rfl) (Nat.le_of_ble_eq_true rfl) (cc_3 _) (s_X3_stop hb6) (fun r h q => ?_)
    obtain ⟨rfl, rfl⟩ := q
    simp only [Option.toList, List.cons_append, List.nil_append]
    subst he
    exact r_weak (L1 := [none, none, none]) trivial (lp_X3_letterTold_13 htt _ _ _ hk)

def f_X11_pieceIn (v0 : Int32) (v1 : Int32) (v2 : Int32) (D : fl_D) (s : fl_I) (l : fl_L) : Int32 × fl_I × fl_L :=
  if ((f_X11_isPiece v0 s l) = 0) then ((-1 : Int32), s, l) else if (v1 < 0) then ((-1 : Int32), s, l) else if ((40 : Int32) < v1) then ((-1 : Int32), s, l) else if (v2 < 0) then ((-1 : Int32), s, l) else if (v2 ≤ (2 : Int32)) then if (v2 = (2 : Int32)) then ((f_X10_holder v0 37 (f_X9_goOn v1 ((f_X10_copy 37 31 s l).1 (if D.2.2.1 then 20 else 9) 18) (if D.2.2.1 then 20 else 9) 37 (f_X10_copy 37 31 s l).1 (f_X10_copy 37 31 s l).2).1 (f_X9_goOn v1 ((f_X10_copy 37 31 s l).1 (if D.2.2.1 then 20 else 9) 18) (if D.2.2.1 then 20 else 9) 37 (f_X10_copy 37 31 s l).1 (f_X10_copy 37 31 s l).2).2), (f_X9_goOn v1 ((f_X10_copy 37 31 s l).1 (if D.2.2.1 then 20 else 9) 18) (if D.2.2.1 then 20 else 9) 37 (f_X10_copy 37 31 s l).1 (f_X10_copy 37 31 s l).2).1, (f_X9_goOn v1 ((f_X10_copy 37 31 s l).1 (if D.2.2.1 then 20 else 9) 18) (if D.2.2.1 then 20 else 9) 37 (f_X10_copy 37 31 s l).1 (f_X10_copy 37 31 s l).2).2) else if (v2 = 0) then (((f_X10_cellOf v0 37 (f_X9_goOn v1 ((f_X10_copy 37 31 s l).1 (if D.2.2.1 then 20 else 9) 18) (if D.2.2.1 then 20 else 9) 37 (f_X10_copy 37 31 s l).1 (f_X10_copy 37 31 s l).2).1 (f_X9_goOn v1 ((f_X10_copy 37 31 s l).1 (if D.2.2.1 then 20 else 9) 18) (if D.2.2.1 then 20 else 9) 37 (f_X10_copy 37 31 s l).1 (f_X10_copy 37 31 s l).2).2) - (f_X10_cellOf v0 37 (f_X9_goOn v1 ((f_X10_copy 37 31 s l).1 (if D.2.2.1 then 20 else 9) 18) (if D.2.2.1 then 20 else 9) 37 (f_X10_copy 37 31 s l).1 (f_X10_copy 37 31 s l).2).1 (f_X9_goOn v1 ((f_X10_copy 37 31 s l).1 (if D.2.2.1 then 20 else 9) 18) (if D.2.2.1 then 20 else 9) 37 (f_X10_copy 37 31 s l).1 (f_X10_copy 37 31 s l).2).2) / (10 : Int32) * (10 : Int32)), (f_X9_goOn v1 ((f_X10_copy 37 31 s l).1 (if D.2.2.1 then 20 else 9) 18) (if D.2.2.1 then 20 else 9) 37 (f_X10_copy 37 31 s l).1 (f_X10_copy 37 31 s l).2).1, (f_X9_goOn v1 ((f_X10_copy 37 31 s l).1 (if D.2.2.1 then 20 else 9) 18) (if D.2.2.1 then 20 else 9) 37 (f_X10_copy 37 31 s l).1 (f_X10_copy 37 31 s l).2).2) else (((f_X10_cellOf v0 37 (f_X9_goOn v1 ((f_X10_copy 37 31 s l).1 (if D.2.2.1 then 20 else 9) 18) (if D.2.2.1 then 20 else 9) 37 (f_X10_copy 37 31 s l).1 (f_X10_copy 37 31 s l).2).1 (f_X9_goOn v1 ((f_X10_copy 37 31 s l).1 (if D.2.2.1 then 20 else 9) 18) (if D.2.2.1 then 20 else 9) 37 (f_X10_copy 37 31 s l).1 (f_X10_copy 37 31 s l).2).2) / (10 : Int32)), (f_X9_goOn v1 ((f_X10_copy 37 31 s l).1 (if D.2.2.1 then 20 else 9) 18) (if D.2.2.1 then 20 else 9) 37 (f_X10_copy 37 31 s l).1 (f_X10_copy 37 31 s l).2).1, (f_X9_goOn v1 ((f_X10_copy 37 31 s l).1 (if D.2.2.1 then 20 else 9) 18) (if D.2.2.1 then 20 else 9) 37 (f_X10_copy 37 31 s l).1 (f_X10_copy 37 31 s l).2).2) else ((-1 : Int32), s, l)

def p_X11_pieceIn (v0 : Int32) (v1 : Int32) (v2 : Int32) (D : fl_D) (s : fl_I) (l : fl_L) : Prop :=
  (p_X11_isPiece v0 s l) ∧ ((((f_X11_isPiece v0 s l) = 0) → True) ∧ (¬ ((f_X11_isPiece v0 s l) = 0) → (((v1 < 0) → True) ∧ (¬ (v1 < 0) → ((((40 : Int32) < v1) → True) ∧ (¬ ((40 : Int32) < v1) → (((v2 < 0) → True) ∧ (¬ (v2 < 0) → (((v2 ≤ (2 : Int32)) → (p_X10_copy 37 31 s l) ∧ (p_X9_goOn v1 ((f_X10_copy 37 31 s l).1 (if D.2.2.1 then 20 else 9) 18) (if D.2.2.1 then 20 else 9) 37 (f_X10_copy 37 31 s l).1 (f_X10_copy 37 31 s l).2) ∧ (((v2 = (2 : Int32)) → (p_X10_holder v0 37 (f_X9_goOn v1 ((f_X10_copy 37 31 s l).1 (if D.2.2.1 then 20 else 9) 18) (if D.2.2.1 then 20 else 9) 37 (f_X10_copy 37 31 s l).1 (f_X10_copy 37 31 s l).2).1 (f_X9_goOn v1 ((f_X10_copy 37 31 s l).1 (if D.2.2.1 then 20 else 9) 18) (if D.2.2.1 then 20 else 9) 37 (f_X10_copy 37 31 s l).1 (f_X10_copy 37 31 s l).2).2) ∧ True) ∧ (¬ (v2 = (2 : Int32)) → (p_X10_cellOf v0 37 (f_X9_goOn v1 ((f_X10_copy 37 31 s l).1 (if D.2.2.1 then 20 else 9) 18) (if D.2.2.1 then 20 else 9) 37 (f_X10_copy 37 31 s l).1 (f_X10_copy 37 31 s l).2).1 (f_X9_goOn v1 ((f_X10_copy 37 31 s l).1 (if D.2.2.1 then 20 else 9) 18) (if D.2.2.1 then 20 else 9) 37 (f_X10_copy 37 31 s l).1 (f_X10_copy 37 31 s l).2).2) ∧ (((v2 = 0) → True) ∧ (¬ (v2 = 0) → True))))) ∧ (¬ (v2 ≤ (2 : Int32)) → True))))))))))

set_option maxRecDepth 100000 in
set_option maxHeartbeats 4000000 in
theorem s_X11_pieceIn {G : ab_G} {d : Nat} {D : fl_D} {s : fl_I} {l : fl_L} {v0 : Int32} {v1 : Int32} {v2 : Int32} (hk : p_X11_pieceIn v0 v1 v2 D s l) : ab_C G (d + 5) 0 0 M_X11_pieceIn 0 (ab_ent [.ref 0, .int v0, .int v1, .int v2]) [] (hp D s l) (rt (some (.int (f_X11_pieceIn v0 v1 v2 D s l).1)) (hp D (f_X11_pieceIn v0 v1 v2 D s l).2.1 (f_X11_pieceIn v0 v1 v2 D s l).2.2)) := by
  generalize he : (f_X11_pieceIn v0 v1 v2 D s l) = res
  unfold f_X11_pieceIn at he
  unfold p_X11_pieceIn at hk
  refine r_weak (L1 := [some (.ref 0), some (.int v0), some (.int v1), some (.int v2), none]) ⟨rfl, rfl, rfl, rfl, trivial⟩ ?_
  refine r_aload_n rfl rfl ?_
  refine r_iload_n rfl rfl ?_
  obtain ⟨hb0, hk⟩ := hk
  refine q_callV0 [_] _ rfl kY_X11_isPiece kT_X11_isPiece rfl rfl (Nat.le_of_ble_eq_true rfl) (Nat.le_of_ble_eq_true rfl) (cc_0 _) (s_X11_isPiece hb0) (fun r h q => ?_)
  obtain ⟨rfl, rfl⟩ := q
  simp only [Option.toList, List.cons_append, List.nil_append]
  refine r_if_eq rfl (fun c_5 => ?_) (fun c_5 => ?_)
  · rw [if_pos c_5] at he
    replace hk := hk.1 c_5
    refine r_iconst_ (a := -1) rfl (by decide) ?_
    refine r_iret rfl rfl rfl ?_
    subst he
    exact ⟨rfl, rfl⟩
  · rw [if_neg c_5] at he
    replace hk := hk.2 c_5
    refine r_iload_n rfl rfl ?_
    refine r_if_lt rfl (fun c_9 => ?_) (fun c_9 => ?_)
    · rw [if_pos c_9] at he
      replace hk := hk.1 c_9
      refine r_iconst_ (a := -1) rfl (by decide) ?_
      refine r_iret rfl rfl rfl ?_
      subst he
      exact ⟨rfl, rfl⟩
    · rw [if_neg c_9] at he
      replace hk := hk.2 c_9
      refine r_iload_n rfl rfl ?_
      refine r_bipush_ (a := 40) rfl (by decide) ?_
      refine r_icmp_gt rfl (fun c_15 => ?_) (fun c_15 => ?_)
      · rw [if_pos c_15] at he
        replace hk := hk.1 c_15
        refine r_iconst_ (a := -1) rfl (by decide) ?_
        refine r_iret rfl rfl rfl ?_
        subst he
        exact ⟨rfl, rfl⟩
      · rw [if_neg c_15] at he
        replace hk := hk.2 c_15
        refine r_iload_n rfl rfl ?_
        refine r_if_lt rfl (fun c_19 => ?_) (fun c_19 => ?_)
        · rw [if_pos c_19] at he
          replace hk := hk.1 c_19
          refine r_iconst_ (a := -1) rfl (by decide) ?_
          refine r_iret rfl rfl rfl ?_
          subst he
          exact ⟨rfl, rfl⟩
        · rw [if_neg c_19] at he
          replace hk := hk.2 c_19
          refine r_iload_n rfl rfl ?_
          refine r_iconst_ (a := 2) rfl (by decide) ?_
          refine r_icmp_le rfl (fun c_24 => ?_) (fun c_24 => ?_)
          · rw [if_pos c_24] at he
            replace hk := hk.1 c_24
            refine r_aload_n rfl rfl ?_
            refine q_getfield rfl (cc_0 _) rfl ?_
            refine r_aload_n rfl rfl ?_
            refine q_getfield rfl (cc_0 _) rfl ?_
            obtain ⟨hb1, hk⟩ := hk
            refine q_callV0 [_] _ rfl kY_X10_copy kT_X10_copy rfl rfl (Nat.le_of_ble_eq_true rfl) (Nat.le_of_ble_eq_true rfl) (cc_37 _) (s_X10_copy (Or.inr (Or.inl rfl)) (Or.inl rfl) hb1) (fun r h q => ?_)
            obtain ⟨rfl, rfl⟩ := q
            simp only [Option.toList, List.cons_append, List.nil_append]
            refine r_aload_n rfl rfl ?_
            refine q_getfield rfl (cc_0 _) rfl ?_
            refine r_aload_n rfl rfl ?_
            refine q_getfield rfl (cc_0 _) rfl ?_
            refine r_aload_n rfl rfl ?_
            refine q_getfield rfl (cc_0 _) rfl ?_
            refine r_iload_n rfl rfl ?_
            refine r_aload_n rfl rfl ?_
            refine q_getfield rfl (cc_0 _) rfl ?_
            refine q_getfield rfl (cT_0 (isT_l _)) rfl ?_
            obtain ⟨hb2, hk⟩ := hk
            refine q_callV0 [_, _, _, _] _ rfl kY_X9_goOn kT_X9_goOn rfl rfl (Nat.le_of_ble_eq_true rfl) (Nat.le_of_ble_eq_true rfl) (cc_46 _) (s_X9_goOn (isT_l _) (Or.inr (Or.inl rfl)) hb2) (fun r h q => ?_)
            obtain ⟨rfl, rfl⟩ := q
            simp only [Option.toList, List.cons_append, List.nil_append]
            refine r_iload_n rfl rfl ?_
            refine r_iconst_ (a := 2) rfl (by decide) ?_
            refine r_icmp_ne rfl (fun c_65 => ?_) (fun c_65 => ?_)
            · rw [if_neg c_65] at he
              replace hk := hk.2 c_65
              refine r_aload_n rfl rfl ?_
              refine q_getfield rfl (cc_0 _) rfl ?_
              refine r_iload_n rfl rfl ?_
              obtain ⟨hb3, hk⟩ := hk
              refine q_callV0 [_] _ rfl kY_X10_cellOf kT_X10_cellOf rfl rfl (Nat.le_of_ble_eq_true rfl) (Nat.le_of_ble_eq_true rfl) (cc_37 _) (s_X10_cellOf (Or.inr (Or.inl rfl)) hb3) (fun r h q => ?_)
              obtain ⟨rfl, rfl⟩ := q
              simp only [Option.toList, List.cons_append, List.nil_append]
              refine r_istore rfl (Nat.le_of_ble_eq_true rfl) rfl ?_
              refine r_iload_n rfl rfl ?_
              refine r_if_ne rfl (fun c_88 => ?_) (fun c_88 => ?_)
              · rw [if_neg c_88] at he
                replace hk := hk.2 c_88
                refine r_iload rfl rfl ?_
                refine r_bipush_ (a := 10) rfl (by decide) ?_
                refine r_idiv rfl (by decide) ?_
                refine r_iret rfl rfl rfl ?_
                subst he
                exact ⟨rfl, rfl⟩
              · rw [if_pos c_88] at he
                replace hk := hk.1 c_88
                refine r_iload rfl rfl ?_
                refine r_bipush_ (a := 10) rfl (by decide) ?_
                refine r_irem rfl (by decide) ?_
                refine r_goto rfl ?_
                refine r_iret rfl rfl rfl ?_
                subst he
                exact ⟨rfl, rfl⟩
            · rw [if_pos c_65] at he
              replace hk := hk.1 c_65
              refine r_aload_n rfl rfl ?_
              refine q_getfield rfl (cc_0 _) rfl ?_
              refine r_iload_n rfl rfl ?_
              obtain ⟨hb4, hk⟩ := hk
              refine q_callV0 [_] _ rfl kY_X10_holder kT_X10_holder rfl rfl (Nat.le_of_ble_eq_true rfl) (Nat.le_of_ble_eq_true rfl) (cc_37 _) (s_X10_holder (Or.inr (Or.inl rfl)) hb4) (fun r h q => ?_)
              obtain ⟨rfl, rfl⟩ := q
              simp only [Option.toList, List.cons_append, List.nil_append]
              refine r_iret rfl rfl rfl ?_
              subst he
              exact ⟨rfl, rfl⟩
          · rw [if_neg c_24] at he
            replace hk := hk.2 c_24
            refine r_iconst_ (a := -1) rfl (by decide) ?_
            refine r_iret rfl rfl rfl ?_
            subst he
            exact ⟨rfl, rfl⟩

def f_X11_longest_47 : Nat → Int32 → Int32 → Int32 → Int32 → fl_D → fl_I → fl_L → Int32 × fl_I × fl_L
  | 0, x2, x3, x4, x5, D, s, l => (0, s, l)
  | n + 1, x2, x3, x4, x5, D, s, l =>
    if ((s (if D.2.2.1 then 20 else 9) 1) ≤ x5) then (x3, s, l) else if (((x2 >>> (x5 &&& 31)) &&& (1 : Int32)) = (1 : Int32)) then if ((f_X11_nameLength (l ((if D.2.2.1 then 20 else 9) + 2) x5.toNatClampNeg)) ≤ x4) then f_X11_longest_47 n x2 x3 x4 (x5 + 1) D s l else f_X11_longest_47 n x2 x5 (f_X11_nameLength (l ((if D.2.2.1 then 20 else 9) + 2) x5.toNatClampNeg)) (x5 + 1) D s l else f_X11_longest_47 n x2 x3 x4 (x5 + 1) D s l

def p_X11_longest_47 : Nat → Int32 → Int32 → Int32 → Int32 → fl_D → fl_I → fl_L → Prop
  | 0, _, _, _, _, _, _, _ => False
  | n + 1, x2, x3, x4, x5, D, s, l =>
    ((((s (if D.2.2.1 then 20 else 9) 1) ≤ x5) → True) ∧ (¬ ((s (if D.2.2.1 then 20 else 9) 1) ≤ x5) → (vp_in x5 8) ∧ (p_X11_nameLength (l ((if D.2.2.1 then 20 else 9) + 2) x5.toNatClampNeg)) ∧ (((((x2 >>> (x5 &&& 31)) &&& (1 : Int32)) = (1 : Int32)) → ((((f_X11_nameLength (l ((if D.2.2.1 then 20 else 9) + 2) x5.toNatClampNeg)) ≤ x4) → p_X11_longest_47 n x2 x3 x4 (x5 + 1) D s l) ∧ (¬ ((f_X11_nameLength (l ((if D.2.2.1 then 20 else 9) + 2) x5.toNatClampNeg)) ≤ x4) → p_X11_longest_47 n x2 x5 (f_X11_nameLength (l ((if D.2.2.1 then 20 else 9) + 2) x5.toNatClampNeg)) (x5 + 1) D s l))) ∧ (¬ (((x2 >>> (x5 &&& 31)) &&& (1 : Int32)) = (1 : Int32)) → p_X11_longest_47 n x2 x3 x4 (x5 + 1) D s l))))

set_option maxRecDepth 100000 in
set_option maxHeartbeats 4000000 in
theorem lp_X11_longest_47 {G : ab_G} {d : Nat} {D : fl_D} : ∀ (n : Nat) (x2 : Int32) (x3 : Int32) (x4 : Int32) (x5 : Int32) (s : fl_I) (l : fl_L), p_X11_longest_47 n x2 x3 x4 x5 D s l → ab_C G (d + 5) 0 0 M_X11_longest 47 [some (.ref 0), none, some (.int x2), some (.int x3), some (.int x4), some (.int x5), none] [] (hp D s l) (rt (some (.int (f_X11_longest_47 n x2 x3 x4 x5 D s l).1)) (hp D (f_X11_longest_47 n x2 x3 x4 x5 D s l).2.1 (f_X11_longest_47 n x2 x3 x4 x5 D s l).2.2)) := by
  intro n
  induction n with
  | zero => intro x2 x3 x4 x5 s l hk; exact hk.elim
  | succ n ih =>
    intro x2 x3 x4 x5 s l hk
    generalize he : f_X11_longest_47 (n + 1) x2 x3 x4 x5 D s l = res
    unfold f_X11_longest_47 at he
    unfold p_X11_longest_47 at hk
    refine r_iload rfl rfl ?_
    refine r_aload_n rfl rfl ?_
    refine q_getfield rfl (cc_0 _) rfl ?_
    refine q_getfield rfl (cT_0 (isT_l _)) rfl ?_
    refine r_icmp_ge rfl (fun c_56 => ?_) (fun c_56 => ?_)
    · rw [if_pos c_56] at he
      replace hk := hk.1 c_56
      refine r_iload_n rfl rfl ?_
      refine r_iret rfl rfl rfl ?_
      subst he
      exact ⟨rfl, rfl⟩
    · rw [if_neg c_56] at he
      replace hk := hk.2 c_56
      refine r_aload_n rfl rfl ?_
      refine q_getfield rfl (cc_0 _) rfl ?_
      refine q_getfield rfl (cT_0 (isT_l _)) rfl ?_
      refine r_iload rfl rfl ?_
      obtain ⟨hb3, hk⟩ := hk
      refine q_lald rfl (cT_2 (isT_l _)) hb3 ?_
      obtain ⟨hb4, hk⟩ := hk
      refine r_callS0 [_] _ rfl kY_X11_nameLength kT_X11_nameLength rfl rfl (Nat.le_of_ble_eq_true rfl) (Nat.le_of_ble_eq_true rfl) (s_X11_nameLength hb4) (fun r h q => ?_)
      obtain ⟨rfl, rfl⟩ := q
      simp only [Option.toList, List.cons_append, List.nil_append]
      refine r_istore rfl (Nat.le_of_ble_eq_true rfl) rfl ?_
      refine r_iload_n rfl rfl ?_
      refine r_iload rfl rfl ?_
      refine r_ishr rfl ?_
      refine r_iconst_ (a := 1) rfl (by decide) ?_
      refine r_iand rfl ?_
      refine r_iconst_ (a := 1) rfl (by decide) ?_
      refine r_icmp_ne rfl (fun c_81 => ?_) (fun c_81 => ?_)
      · rw [if_neg c_81] at he
        replace hk := hk.2 c_81
        refine r_iinc (b := x5 + 1) rfl rfl rfl (Nat.le_of_ble_eq_true rfl) rfl ?_
        refine r_goto rfl ?_
        subst he
        exact r_weak (L1 := [some (.ref 0), none, some (.int x2), some (.int x3), some (.int x4), some (.int (x5 + 1)), none]) ⟨rfl, rfl, rfl, rfl, rfl, trivial⟩ (ih _ _ _ _ _ _ hk)
      · rw [if_pos c_81] at he
        replace hk := hk.1 c_81
        refine r_iload rfl rfl ?_
        refine r_iload rfl rfl ?_
        refine r_icmp_le rfl (fun c_88 => ?_) (fun c_88 => ?_)
        · rw [if_pos c_88] at he
          replace hk := hk.1 c_88
          refine r_iinc (b := x5 + 1) rfl rfl rfl (Nat.le_of_ble_eq_true rfl) rfl ?_
          refine r_goto rfl ?_
          subst he
          exact r_weak (L1 := [some (.ref 0), none, some (.int x2), some (.int x3), some (.int x4), some (.int (x5 + 1)), none]) ⟨rfl, rfl, rfl, rfl, rfl, trivial⟩ (ih _ _ _ _ _ _ hk)
        · rw [if_neg c_88] at he
          replace hk := hk.2 c_88
          refine r_iload rfl rfl ?_
          refine r_istore rfl (Nat.le_of_ble_eq_true rfl) rfl ?_
          refine r_iload rfl rfl ?_
          refine r_istore_n rfl (Nat.le_of_ble_eq_true rfl) rfl ?_
          refine r_iinc (b := x5 + 1) rfl rfl rfl (Nat.le_of_ble_eq_true rfl) rfl ?_
          refine r_goto rfl ?_
          subst he
          exact r_weak (L1 := [some (.ref 0), none, some (.int x2), some (.int x5), some (.int (f_X11_nameLength (l ((if D.2.2.1 then 20 else 9) + 2) x5.toNatClampNeg))), some (.int (x5 + 1)), none]) ⟨rfl, rfl, rfl, rfl, rfl, trivial⟩ (ih _ _ _ _ _ _ hk)

def f_X11_longest (v0 : Int32) (D : fl_D) (s : fl_I) (l : fl_L) : Int32 × fl_I × fl_L :=
  if ((f_X11_isHeap v0 s l) = 0) then ((-1 : Int32), s, l) else f_X11_longest_47 fu (f_X0_makes (if D.2.2.1 then 20 else 9) (f_X0_gather v0 (if D.2.2.1 then 20 else 9) 31 s l).1 (f_X0_gather v0 (if D.2.2.1 then 20 else 9) 31 s l).2).1 (-2 : Int32) (0 : Int32) (0 : Int32) D (f_X0_makes (if D.2.2.1 then 20 else 9) (f_X0_gather v0 (if D.2.2.1 then 20 else 9) 31 s l).1 (f_X0_gather v0 (if D.2.2.1 then 20 else 9) 31 s l).2).2.1 (f_X0_makes (if D.2.2.1 then 20 else 9) (f_X0_gather v0 (if D.2.2.1 then 20 else 9) 31 s l).1 (f_X0_gather v0 (if D.2.2.1 then 20 else 9) 31 s l).2).2.2

def p_X11_longest (v0 : Int32) (D : fl_D) (s : fl_I) (l : fl_L) : Prop :=
  (p_X11_isHeap v0 s l) ∧ ((((f_X11_isHeap v0 s l) = 0) → True) ∧ (¬ ((f_X11_isHeap v0 s l) = 0) → (p_X0_gather v0 (if D.2.2.1 then 20 else 9) 31 s l) ∧ (p_X0_makes (if D.2.2.1 then 20 else 9) (f_X0_gather v0 (if D.2.2.1 then 20 else 9) 31 s l).1 (f_X0_gather v0 (if D.2.2.1 then 20 else 9) 31 s l).2) ∧ p_X11_longest_47 fu (f_X0_makes (if D.2.2.1 then 20 else 9) (f_X0_gather v0 (if D.2.2.1 then 20 else 9) 31 s l).1 (f_X0_gather v0 (if D.2.2.1 then 20 else 9) 31 s l).2).1 (-2 : Int32) (0 : Int32) (0 : Int32) D (f_X0_makes (if D.2.2.1 then 20 else 9) (f_X0_gather v0 (if D.2.2.1 then 20 else 9) 31 s l).1 (f_X0_gather v0 (if D.2.2.1 then 20 else 9) 31 s l).2).2.1 (f_X0_makes (if D.2.2.1 then 20 else 9) (f_X0_gather v0 (if D.2.2.1 then 20 else 9) 31 s l).1 (f_X0_gather v0 (if D.2.2.1 then 20 else 9) 31 s l).2).2.2))

set_option maxRecDepth 100000 in
set_option maxHeartbeats 4000000 in
theorem s_X11_longest {G : ab_G} {d : Nat} {D : fl_D} {s : fl_I} {l : fl_L} {v0 : Int32} (hk : p_X11_longest v0 D s l) : ab_C G (d + 5) 0 0 M_X11_longest 0 (ab_ent [.ref 0, .int v0]) [] (hp D s l) (rt (some (.int (f_X11_longest v0 D s l).1)) (hp D (f_X11_longest v0 D s l).2.1 (f_X11_longest v0 D s l).2.2)) := by
  generalize he : (f_X11_longest v0 D s l) = res
  unfold f_X11_longest at he
  unfold p_X11_longest at hk
  refine r_weak (L1 := [some (.ref 0), some (.int v0), none, none, none, none, none]) ⟨rfl, rfl, trivial⟩ ?_
  refine r_aload_n rfl rfl ?_
  refine r_iload_n rfl rfl ?_
  obtain ⟨hb0, hk⟩ := hk
  refine q_callV0 [_] _ rfl kY_X11_isHeap kT_X11_isHeap rfl rfl (Nat.le_of_ble_eq_true rfl) (Nat.le_of_ble_eq_true rfl) (cc_0 _) (s_X11_isHeap hb0) (fun r h q => ?_)
  obtain ⟨rfl, rfl⟩ := q
  simp only [Option.toList, List.cons_append, List.nil_append]
  refine r_if_ne rfl (fun c_5 => ?_) (fun c_5 => ?_)
  · rw [if_neg c_5] at he
    replace hk := hk.2 c_5
    refine r_aload_n rfl rfl ?_
    refine q_getfield rfl (cc_0 _) rfl ?_
    refine r_aload_n rfl rfl ?_
    refine q_getfield rfl (cc_0 _) rfl ?_
    refine r_aload_n rfl rfl ?_
    refine q_getfield rfl (cc_0 _) rfl ?_
    refine r_iload_n rfl rfl ?_
    obtain ⟨hb1, hk⟩ := hk
    refine q_callV0 [_, _, _] _ rfl kY_X0_gather kT_X0_gather rfl rfl (Nat.le_of_ble_eq_true rfl) (Nat.le_of_ble_eq_true rfl) (cc_55 _) (s_X0_gather (isT_l _) (Or.inl rfl) hb1) (fun r h q => ?_)
    obtain ⟨rfl, rfl⟩ := q
    simp only [Option.toList, List.cons_append, List.nil_append]
    refine r_aload_n rfl rfl ?_
    refine q_getfield rfl (cc_0 _) rfl ?_
    refine r_aload_n rfl rfl ?_
    refine q_getfield rfl (cc_0 _) rfl ?_
    obtain ⟨hb2, hk⟩ := hk
    refine q_callV0 [_] _ rfl kY_X0_makes kT_X0_makes rfl rfl (Nat.le_of_ble_eq_true rfl) (Nat.le_of_ble_eq_true rfl) (cc_55 _) (s_X0_makes (isT_l _) hb2) (fun r h q => ?_)
    obtain ⟨rfl, rfl⟩ := q
    simp only [Option.toList, List.cons_append, List.nil_append]
    refine r_istore_n rfl (Nat.le_of_ble_eq_true rfl) rfl ?_
    refine r_bipush_ (a := -2) rfl (by decide) ?_
    refine r_istore_n rfl (Nat.le_of_ble_eq_true rfl) rfl ?_
    refine r_iconst_ (a := 0) rfl (by decide) ?_
    refine r_istore rfl (Nat.le_of_ble_eq_true rfl) rfl ?_
    refine r_iconst_ (a := 0) rfl (by decide) ?_
    refine r_istore rfl (Nat.le_of_ble_eq_true rfl) rfl ?_
    subst he
    exact r_weak (L1 := [some (.ref 0), none, some (.int (f_X0_makes (if D.2.2.1 then 20 else 9) (f_X0_gather v0 (if D.2.2.1 then 20 else 9) 31 s l).1 (f_X0_gather v0 (if D.2.2.1 then 20 else 9) 31 s l).2).1), some (.int (-2 : Int32)), some (.int (0 : Int32)), some (.int (0 : Int32)), none]) ⟨rfl, rfl, rfl, rfl, rfl, trivial⟩ (lp_X11_longest_47 fu _ _ _ _ _ _ hk)
  · rw [if_pos c_5] at he
    replace hk := hk.1 c_5
    refine r_iconst_ (a := -1) rfl (by decide) ?_
    refine r_iret rfl rfl rfl ?_
    subst he
    exact ⟨rfl, rfl⟩

def f_X11_pickerIn (v0 : Int32) (v1 : Int32) (v2 : Int32) (D : fl_D) (s : fl_I) (l : fl_L) : Int32 × fl_I × fl_L :=
  if ((f_X11_isPicker v0 s l) = 0) then ((-1 : Int32), s, l) else if (v1 < 0) then ((-1 : Int32), s, l) else if ((40 : Int32) < v1) then ((-1 : Int32), s, l) else if (v2 < 0) then ((-1 : Int32), s, l) else if (v2 ≤ (2 : Int32)) then if (v2 = (2 : Int32)) then (((f_X9_goOn v1 ((f_X10_copy 37 31 s l).1 (if D.2.2.1 then 20 else 9) 18) (if D.2.2.1 then 20 else 9) 37 (f_X10_copy 37 31 s l).1 (f_X10_copy 37 31 s l).2).1 42 v0.toNatClampNeg), (f_X9_goOn v1 ((f_X10_copy 37 31 s l).1 (if D.2.2.1 then 20 else 9) 18) (if D.2.2.1 then 20 else 9) 37 (f_X10_copy 37 31 s l).1 (f_X10_copy 37 31 s l).2).1, (f_X9_goOn v1 ((f_X10_copy 37 31 s l).1 (if D.2.2.1 then 20 else 9) 18) (if D.2.2.1 then 20 else 9) 37 (f_X10_copy 37 31 s l).1 (f_X10_copy 37 31 s l).2).2) else if (v2 = 0) then ((((f_X9_goOn v1 ((f_X10_copy 37 31 s l).1 (if D.2.2.1 then 20 else 9) 18) (if D.2.2.1 then 20 else 9) 37 (f_X10_copy 37 31 s l).1 (f_X10_copy 37 31 s l).2).1 40 v0.toNatClampNeg) - ((f_X9_goOn v1 ((f_X10_copy 37 31 s l).1 (if D.2.2.1 then 20 else 9) 18) (if D.2.2.1 then 20 else 9) 37 (f_X10_copy 37 31 s l).1 (f_X10_copy 37 31 s l).2).1 40 v0.toNatClampNeg) / (10 : Int32) * (10 : Int32)), (f_X9_goOn v1 ((f_X10_copy 37 31 s l).1 (if D.2.2.1 then 20 else 9) 18) (if D.2.2.1 then 20 else 9) 37 (f_X10_copy 37 31 s l).1 (f_X10_copy 37 31 s l).2).1, (f_X9_goOn v1 ((f_X10_copy 37 31 s l).1 (if D.2.2.1 then 20 else 9) 18) (if D.2.2.1 then 20 else 9) 37 (f_X10_copy 37 31 s l).1 (f_X10_copy 37 31 s l).2).2) else ((((f_X9_goOn v1 ((f_X10_copy 37 31 s l).1 (if D.2.2.1 then 20 else 9) 18) (if D.2.2.1 then 20 else 9) 37 (f_X10_copy 37 31 s l).1 (f_X10_copy 37 31 s l).2).1 40 v0.toNatClampNeg) / (10 : Int32)), (f_X9_goOn v1 ((f_X10_copy 37 31 s l).1 (if D.2.2.1 then 20 else 9) 18) (if D.2.2.1 then 20 else 9) 37 (f_X10_copy 37 31 s l).1 (f_X10_copy 37 31 s l).2).1, (f_X9_goOn v1 ((f_X10_copy 37 31 s l).1 (if D.2.2.1 then 20 else 9) 18) (if D.2.2.1 then 20 else 9) 37 (f_X10_copy 37 31 s l).1 (f_X10_copy 37 31 s l).2).2) else ((-1 : Int32), s, l)

def p_X11_pickerIn (v0 : Int32) (v1 : Int32) (v2 : Int32) (D : fl_D) (s : fl_I) (l : fl_L) : Prop :=
  (p_X11_isPicker v0 s l) ∧ ((((f_X11_isPicker v0 s l) = 0) → True) ∧ (¬ ((f_X11_isPicker v0 s l) = 0) → (((v1 < 0) → True) ∧ (¬ (v1 < 0) → ((((40 : Int32) < v1) → True) ∧ (¬ ((40 : Int32) < v1) → (((v2 < 0) → True) ∧ (¬ (v2 < 0) → (((v2 ≤ (2 : Int32)) → (p_X10_copy 37 31 s l) ∧ (p_X9_goOn v1 ((f_X10_copy 37 31 s l).1 (if D.2.2.1 then 20 else 9) 18) (if D.2.2.1 then 20 else 9) 37 (f_X10_copy 37 31 s l).1 (f_X10_copy 37 31 s l).2) ∧ (((v2 = (2 : Int32)) → (vp_in v0 4) ∧ True) ∧ (¬ (v2 = (2 : Int32)) → (vp_in v0 4) ∧ (((v2 = 0) → True) ∧ (¬ (v2 = 0) → True))))) ∧ (¬ (v2 ≤ (2 : Int32)) → True))))))))))

set_option maxRecDepth 100000 in
set_option maxHeartbeats 4000000 in
theorem s_X11_pickerIn {G : ab_G} {d : Nat} {D : fl_D} {s : fl_I} {l : fl_L} {v0 : Int32} {v1 : Int32} {v2 : Int32} (hk : p_X11_pickerIn v0 v1 v2 D s l) : ab_C G (d + 5) 0 0 M_X11_pickerIn 0 (ab_ent [.ref 0, .int v0, .int v1, .int v2]) [] (hp D s l) (rt (some (.int (f_X11_pickerIn v0 v1 v2 D s l).1)) (hp D (f_X11_pickerIn v0 v1 v2 D s l).2.1 (f_X11_pickerIn v0 v1 v2 D s l).2.2)) := by
  generalize he : (f_X11_pickerIn v0 v1 v2 D s l) = res
  unfold f_X11_pickerIn at he
  unfold p_X11_pickerIn at hk
  refine r_weak (L1 := [some (.ref 0), some (.int v0), some (.int v1), some (.int v2), none]) ⟨rfl, rfl, rfl, rfl, trivial⟩ ?_
  refine r_aload_n rfl rfl ?_
  refine r_iload_n rfl rfl ?_
  obtain ⟨hb0, hk⟩ := hk
  refine q_callV0 [_] _ rfl kY_X11_isPicker kT_X11_isPicker rfl rfl (Nat.le_of_ble_eq_true rfl) (Nat.le_of_ble_eq_true rfl) (cc_0 _) (s_X11_isPicker hb0) (fun r h q => ?_)
  obtain ⟨rfl, rfl⟩ := q
  simp only [Option.toList, List.cons_append, List.nil_append]
  refine r_if_eq rfl (fun c_5 => ?_) (fun c_5 => ?_)
  · rw [if_pos c_5] at he
    replace hk := hk.1 c_5
    refine r_iconst_ (a := -1) rfl (by decide) ?_
    refine r_iret rfl rfl rfl ?_
    subst he
    exact ⟨rfl, rfl⟩
  · rw [if_neg c_5] at he
    replace hk := hk.2 c_5
    refine r_iload_n rfl rfl ?_
    refine r_if_lt rfl (fun c_9 => ?_) (fun c_9 => ?_)
    · rw [if_pos c_9] at he
      replace hk := hk.1 c_9
      refine r_iconst_ (a := -1) rfl (by decide) ?_
      refine r_iret rfl rfl rfl ?_
      subst he
      exact ⟨rfl, rfl⟩
    · rw [if_neg c_9] at he
      replace hk := hk.2 c_9
      refine r_iload_n rfl rfl ?_
      refine r_bipush_ (a := 40) rfl (by decide) ?_
      refine r_icmp_gt rfl (fun c_15 => ?_) (fun c_15 => ?_)
      · rw [if_pos c_15] at he
        replace hk := hk.1 c_15
        refine r_iconst_ (a := -1) rfl (by decide) ?_
        refine r_iret rfl rfl rfl ?_
        subst he
        exact ⟨rfl, rfl⟩
      · rw [if_neg c_15] at he
        replace hk := hk.2 c_15
        refine r_iload_n rfl rfl ?_
        refine r_if_lt rfl (fun c_19 => ?_) (fun c_19 => ?_)
        · rw [if_pos c_19] at he
          replace hk := hk.1 c_19
          refine r_iconst_ (a := -1) rfl (by decide) ?_
          refine r_iret rfl rfl rfl ?_
          subst he
          exact ⟨rfl, rfl⟩
        · rw [if_neg c_19] at he
          replace hk := hk.2 c_19
          refine r_iload_n rfl rfl ?_
          refine r_iconst_ (a := 2) rfl (by decide) ?_
          refine r_icmp_le rfl (fun c_24 => ?_) (fun c_24 => ?_)
          · rw [if_pos c_24] at he
            replace hk := hk.1 c_24
            refine r_aload_n rfl rfl ?_
            refine q_getfield rfl (cc_0 _) rfl ?_
            refine r_aload_n rfl rfl ?_
            refine q_getfield rfl (cc_0 _) rfl ?_
            obtain ⟨hb1, hk⟩ := hk
            refine q_callV0 [_] _ rfl kY_X10_copy kT_X10_copy rfl rfl (Nat.le_of_ble_eq_true rfl) (Nat.le_of_ble_eq_true rfl) (cc_37 _) (s_X10_copy (Or.inr (Or.inl rfl)) (Or.inl rfl) hb1) (fun r h q => ?_)
            obtain ⟨rfl, rfl⟩ := q
            simp only [Option.toList, List.cons_append, List.nil_append]
            refine r_aload_n rfl rfl ?_
            refine q_getfield rfl (cc_0 _) rfl ?_
            refine r_aload_n rfl rfl ?_
            refine q_getfield rfl (cc_0 _) rfl ?_
            refine r_aload_n rfl rfl ?_
            refine q_getfield rfl (cc_0 _) rfl ?_
            refine r_iload_n rfl rfl ?_
            refine r_aload_n rfl rfl ?_
            refine q_getfield rfl (cc_0 _) rfl ?_
            refine q_getfield rfl (cT_0 (isT_l _)) rfl ?_
            obtain ⟨hb2, hk⟩ := hk
            refine q_callV0 [_, _, _, _] _ rfl kY_X9_goOn kT_X9_goOn rfl rfl (Nat.le_of_ble_eq_true rfl) (Nat.le_of_ble_eq_true rfl) (cc_46 _) (s_X9_goOn (isT_l _) (Or.inr (Or.inl rfl)) hb2) (fun r h q => ?_)
            obtain ⟨rfl, rfl⟩ := q
            simp only [Option.toList, List.cons_append, List.nil_append]
            refine r_iload_n rfl rfl ?_
            refine r_iconst_ (a := 2) rfl (by decide) ?_
            refine r_icmp_ne rfl (fun c_65 => ?_) (fun c_65 => ?_)
            · rw [if_neg c_65] at he
              replace hk := hk.2 c_65
              refine r_aload_n rfl rfl ?_
              refine q_getfield rfl (cc_0 _) rfl ?_
              refine q_getfield rfl (cc_37 _) rfl ?_
              refine r_iload_n rfl rfl ?_
              obtain ⟨hb3, hk⟩ := hk
              refine q_iald rfl (cc_40 _) hb3 ?_
              refine r_istore rfl (Nat.le_of_ble_eq_true rfl) rfl ?_
              refine r_iload_n rfl rfl ?_
              refine r_if_ne rfl (fun c_90 => ?_) (fun c_90 => ?_)
              · rw [if_neg c_90] at he
                replace hk := hk.2 c_90
                refine r_iload rfl rfl ?_
                refine r_bipush_ (a := 10) rfl (by decide) ?_
                refine r_idiv rfl (by decide) ?_
                refine r_iret rfl rfl rfl ?_
                subst he
                exact ⟨rfl, rfl⟩
              · rw [if_pos c_90] at he
                replace hk := hk.1 c_90
                refine r_iload rfl rfl ?_
                refine r_bipush_ (a := 10) rfl (by decide) ?_
                refine r_irem rfl (by decide) ?_
                refine r_goto rfl ?_
                refine r_iret rfl rfl rfl ?_
                subst he
                exact ⟨rfl, rfl⟩
            · rw [if_pos c_65] at he
              replace hk := hk.1 c_65
              refine r_aload_n rfl rfl ?_
              refine q_getfield rfl (cc_0 _) rfl ?_
              refine q_getfield rfl (cc_37 _) rfl ?_
              refine r_iload_n rfl rfl ?_
              obtain ⟨hb4, hk⟩ := hk
              refine q_iald rfl (cc_42 _) hb4 ?_
              refine r_iret rfl rfl rfl ?_
              subst he
              exact ⟨rfl, rfl⟩
          · rw [if_neg c_24] at he
            replace hk := hk.2 c_24
            refine r_iconst_ (a := -1) rfl (by decide) ?_
            refine r_iret rfl rfl rfl ?_
            subst he
            exact ⟨rfl, rfl⟩

def f_X12_piece (v0 : Int32) (v1 : Int32) (s : fl_I) (l : fl_L) : Int32 × fl_I × fl_L :=
  if ((f_X12_isPiece v0 s l) = 0) then ((-1 : Int32), s, l) else if (v1 = 0) then (((f_X12_copies s l).1 96 v0.toNatClampNeg), (f_X12_copies s l).1, (f_X12_copies s l).2) else if (v1 = 1) then (((f_X12_copies s l).1 97 v0.toNatClampNeg), (f_X12_copies s l).1, (f_X12_copies s l).2) else if (v1 = 2) then ((f_X12_pieceAcross v0 (f_X12_copies s l).1 (f_X12_copies s l).2), (f_X12_copies s l).1, (f_X12_copies s l).2) else if (v1 = 3) then ((f_X12_pieceDown v0 (f_X12_copies s l).1 (f_X12_copies s l).2), (f_X12_copies s l).1, (f_X12_copies s l).2) else if (v1 = 4) then (((f_X12_copies s l).1 95 ((64 : Int32) + v0).toNatClampNeg), (f_X12_copies s l).1, (f_X12_copies s l).2) else if (v1 = 5) then (((f_X12_copies s l).1 95 ((96 : Int32) + v0).toNatClampNeg), (f_X12_copies s l).1, (f_X12_copies s l).2) else if (v1 = 6) then if ((f_X12_doesLie v0 (f_X12_copies s l).1 (f_X12_copies s l).2) = 0) then ((0 : Int32), (f_X12_copies s l).1, (f_X12_copies s l).2) else if ((f_X12_isBlown v0 (f_X12_copies s l).1 (f_X12_copies s l).2).1 = 0) then ((0 : Int32), (f_X12_isBlown v0 (f_X12_copies s l).1 (f_X12_copies s l).2).2.1, (f_X12_isBlown v0 (f_X12_copies s l).1 (f_X12_copies s l).2).2.2) else ((1 : Int32), (f_X12_isBlown v0 (f_X12_copies s l).1 (f_X12_copies s l).2).2.1, (f_X12_isBlown v0 (f_X12_copies s l).1 (f_X12_copies s l).2).2.2) else if (v1 = 7) then if ((f_X12_doesLie v0 (f_X12_copies s l).1 (f_X12_copies s l).2) = 0) then ((0 : Int32), (f_X12_copies s l).1, (f_X12_copies s l).2) else ((f_X12_takesOf v0 (f_X12_copies s l).1 (f_X12_copies s l).2).1, (f_X12_takesOf v0 (f_X12_copies s l).1 (f_X12_copies s l).2).2.1, (f_X12_takesOf v0 (f_X12_copies s l).1 (f_X12_copies s l).2).2.2) else ((-1 : Int32), (f_X12_copies s l).1, (f_X12_copies s l).2)

def p_X12_piece (v0 : Int32) (v1 : Int32) (s : fl_I) (l : fl_L) : Prop :=
  (p_X12_isPiece v0 s l) ∧ ((((f_X12_isPiece v0 s l) = 0) → True) ∧ (¬ ((f_X12_isPiece v0 s l) = 0) → (p_X12_copies s l) ∧ (((v1 = 0) → (vp_in v0 32) ∧ True) ∧ (¬ (v1 = 0) → (((v1 = 1) → (vp_in v0 32) ∧ True) ∧ (¬ (v1 = 1) → (((v1 = 2) → (p_X12_pieceAcross v0 (f_X12_copies s l).1 (f_X12_copies s l).2) ∧ True) ∧ (¬ (v1 = 2) → (((v1 = 3) → (p_X12_pieceDown v0 (f_X12_copies s l).1 (f_X12_copies s l).2) ∧ True) ∧ (¬ (v1 = 3) → (((v1 = 4) → (vp_in ((64 : Int32) + v0) 141) ∧ True) ∧ (¬ (v1 = 4) → (((v1 = 5) → (vp_in ((96 : Int32) + v0) 141) ∧ True) ∧ (¬ (v1 = 5) → (((v1 = 6) → (p_X12_doesLie v0 (f_X12_copies s l).1 (f_X12_copies s l).2) ∧ ((((f_X12_doesLie v0 (f_X12_copies s l).1 (f_X12_copies s l).2) = 0) → True) ∧ (¬ ((f_X12_doesLie v0 (f_X12_copies s l).1 (f_X12_copies s l).2) = 0) → (p_X12_isBlown v0 (f_X12_copies s l).1 (f_X12_copies s l).2) ∧ ((((f_X12_isBlown v0 (f_X12_copies s l).1 (f_X12_copies s l).2).1 = 0) → True) ∧ (¬ ((f_X12_isBlown v0 (f_X12_copies s l).1 (f_X12_copies s l).2).1 = 0) → True))))) ∧ (¬ (v1 = 6) → (((v1 = 7) → (p_X12_doesLie v0 (f_X12_copies s l).1 (f_X12_copies s l).2) ∧ ((((f_X12_doesLie v0 (f_X12_copies s l).1 (f_X12_copies s l).2) = 0) → True) ∧ (¬ ((f_X12_doesLie v0 (f_X12_copies s l).1 (f_X12_copies s l).2) = 0) → (p_X12_takesOf v0 (f_X12_copies s l).1 (f_X12_copies s l).2) ∧ True))) ∧ (¬ (v1 = 7) → True))))))))))))))))))

set_option maxRecDepth 100000 in
set_option maxHeartbeats 4000000 in
theorem s_X12_piece {G : ab_G} {d : Nat} {D : fl_D} {s : fl_I} {l : fl_L} {v0 : Int32} {v1 : Int32} (hk : p_X12_piece v0 v1 s l) : ab_C G (d + 4) 0 0 M_X12_piece 0 (ab_ent [.ref 60, .int v0, .int v1]) [] (hp D s l) (rt (some (.int (f_X12_piece v0 v1 s l).1)) (hp D (f_X12_piece v0 v1 s l).2.1 (f_X12_piece v0 v1 s l).2.2)) := by
  generalize he : (f_X12_piece v0 v1 s l) = res
  unfold f_X12_piece at he
  unfold p_X12_piece at hk
  refine r_weak (L1 := [some (.ref 60), some (.int v0), some (.int v1)]) ⟨rfl, rfl, rfl, trivial⟩ ?_
  refine r_aload_n rfl rfl ?_
  refine r_iload_n rfl rfl ?_
  obtain ⟨hb0, hk⟩ := hk
  refine q_callV0 [_] _ rfl kY_X12_isPiece kT_X12_isPiece rfl rfl (Nat.le_of_ble_eq_true rfl) (Nat.le_of_ble_eq_true rfl) (cc_60 _) (s_X12_isPiece hb0) (fun r h q => ?_)
  obtain ⟨rfl, rfl⟩ := q
  simp only [Option.toList, List.cons_append, List.nil_append]
  refine r_if_ne rfl (fun c_5 => ?_) (fun c_5 => ?_)
  · rw [if_neg c_5] at he
    replace hk := hk.2 c_5
    refine r_aload_n rfl rfl ?_
    obtain ⟨hb1, hk⟩ := hk
    refine q_callV0 [] _ rfl kY_X12_copies kT_X12_copies rfl rfl (Nat.le_of_ble_eq_true rfl) (Nat.le_of_ble_eq_true rfl) (cc_60 _) (s_X12_copies hb1) (fun r h q => ?_)
    obtain ⟨rfl, rfl⟩ := q
    simp only [Option.toList, List.cons_append, List.nil_append]
    refine r_iload_n rfl rfl ?_
    by_cases c_15_0 : (v1 = 0)
    · rw [if_pos c_15_0] at he
      replace hk := hk.1 c_15_0
      refine r_tableIn (tgt := 60) rfl (by rw [c_15_0]; decide) (by rw [c_15_0]; decide) (by rw [c_15_0]; rfl) (by decide) ?_
      refine r_aload_n rfl rfl ?_
      refine q_getfield rfl (cc_60 _) rfl ?_
      refine r_iload_n rfl rfl ?_
      obtain ⟨hb2, hk⟩ := hk
      refine q_iald rfl (cc_96 _) hb2 ?_
      refine r_iret rfl rfl rfl ?_
      subst he
      exact ⟨rfl, rfl⟩
    · rw [if_neg c_15_0] at he
      replace hk := hk.2 c_15_0
      by_cases c_15_1 : (v1 = 1)
      · rw [if_pos c_15_1] at he
        replace hk := hk.1 c_15_1
        refine r_tableIn (tgt := 67) rfl (by rw [c_15_1]; decide) (by rw [c_15_1]; decide) (by rw [c_15_1]; rfl) (by decide) ?_
        refine r_aload_n rfl rfl ?_
        refine q_getfield rfl (cc_60 _) rfl ?_
        refine r_iload_n rfl rfl ?_
        obtain ⟨hb3, hk⟩ := hk
        refine q_iald rfl (cc_97 _) hb3 ?_
        refine r_iret rfl rfl rfl ?_
        subst he
        exact ⟨rfl, rfl⟩
      · rw [if_neg c_15_1] at he
        replace hk := hk.2 c_15_1
        by_cases c_15_2 : (v1 = 2)
        · rw [if_pos c_15_2] at he
          replace hk := hk.1 c_15_2
          refine r_tableIn (tgt := 74) rfl (by rw [c_15_2]; decide) (by rw [c_15_2]; decide) (by rw [c_15_2]; rfl) (by decide) ?_
          refine r_aload_n rfl rfl ?_
          refine r_iload_n rfl rfl ?_
          obtain ⟨hb4, hk⟩ := hk
          refine q_callV0 [_] _ rfl kY_X12_pieceAcross kT_X12_pieceAcross rfl rfl (Nat.le_of_ble_eq_true rfl) (Nat.le_of_ble_eq_true rfl) (cc_60 _) (s_X12_pieceAcross hb4) (fun r h q => ?_)
          obtain ⟨rfl, rfl⟩ := q
          simp only [Option.toList, List.cons_append, List.nil_append]
          refine r_iret rfl rfl rfl ?_
          subst he
          exact ⟨rfl, rfl⟩
        · rw [if_neg c_15_2] at he
          replace hk := hk.2 c_15_2
          by_cases c_15_3 : (v1 = 3)
          · rw [if_pos c_15_3] at he
            replace hk := hk.1 c_15_3
            refine r_tableIn (tgt := 80) rfl (by rw [c_15_3]; decide) (by rw [c_15_3]; decide) (by rw [c_15_3]; rfl) (by decide) ?_
            refine r_aload_n rfl rfl ?_
            refine r_iload_n rfl rfl ?_
            obtain ⟨hb5, hk⟩ := hk
            refine q_callV0 [_] _ rfl kY_X12_pieceDown kT_X12_pieceDown rfl rfl (Nat.le_of_ble_eq_true rfl) (Nat.le_of_ble_eq_true rfl) (cc_60 _) (s_X12_pieceDown hb5) (fun r h q => ?_)
            obtain ⟨rfl, rfl⟩ := q
            simp only [Option.toList, List.cons_append, List.nil_append]
            refine r_iret rfl rfl rfl ?_
            subst he
            exact ⟨rfl, rfl⟩
          · rw [if_neg c_15_3] at he
            replace hk := hk.2 c_15_3
            by_cases c_15_4 : (v1 = 4)
            · rw [if_pos c_15_4] at he
              replace hk := hk.1 c_15_4
              refine r_tableIn (tgt := 86) rfl (by rw [c_15_4]; decide) (by rw [c_15_4]; decide) (by rw [c_15_4]; rfl) (by decide) ?_
              refine r_aload_n rfl rfl ?_
              refine q_getfield rfl (cc_60 _) rfl ?_
              refine r_bipush_ (a := 64) rfl (by decide) ?_
              refine r_iload_n rfl rfl ?_
              refine r_iadd rfl ?_
              obtain ⟨hb6, hk⟩ := hk
              refine q_iald rfl (cc_95 _) hb6 ?_
              refine r_iret rfl rfl rfl ?_
              subst he
              exact ⟨rfl, rfl⟩
            · rw [if_neg c_15_4] at he
              replace hk := hk.2 c_15_4
              by_cases c_15_5 : (v1 = 5)
              · rw [if_pos c_15_5] at he
                replace hk := hk.1 c_15_5
                refine r_tableIn (tgt := 96) rfl (by rw [c_15_5]; decide) (by rw [c_15_5]; decide) (by rw [c_15_5]; rfl) (by decide) ?_
                refine r_aload_n rfl rfl ?_
                refine q_getfield rfl (cc_60 _) rfl ?_
                refine r_bipush_ (a := 96) rfl (by decide) ?_
                refine r_iload_n rfl rfl ?_
                refine r_iadd rfl ?_
                obtain ⟨hb7, hk⟩ := hk
                refine q_iald rfl (cc_95 _) hb7 ?_
                refine r_iret rfl rfl rfl ?_
                subst he
                exact ⟨rfl, rfl⟩
              · rw [if_neg c_15_5] at he
                replace hk := hk.2 c_15_5
                by_cases c_15_6 : (v1 = 6)
                · rw [if_pos c_15_6] at he
                  replace hk := hk.1 c_15_6
                  refine r_tableIn (tgt := 106) rfl (by rw [c_15_6]; decide) (by rw [c_15_6]; decide) (by rw [c_15_6]; rfl) (by decide) ?_
                  refine r_aload_n rfl rfl ?_
                  refine r_iload_n rfl rfl ?_
                  obtain ⟨hb8, hk⟩ := hk
                  refine q_callV0 [_] _ rfl kY_X12_doesLie kT_X12_doesLie rfl rfl (Nat.le_of_ble_eq_true rfl) (Nat.le_of_ble_eq_true rfl) (cc_60 _) (s_X12_doesLie hb8) (fun r h q => ?_)
                  obtain ⟨rfl, rfl⟩ := q
                  simp only [Option.toList, List.cons_append, List.nil_append]
                  refine r_if_eq rfl (fun c_111 => ?_) (fun c_111 => ?_)
                  · rw [if_pos c_111] at he
                    replace hk := hk.1 c_111
                    refine r_iconst_ (a := 0) rfl (by decide) ?_
                    refine r_iret rfl rfl rfl ?_
                    subst he
                    exact ⟨rfl, rfl⟩
                  · rw [if_neg c_111] at he
                    replace hk := hk.2 c_111
                    refine r_aload_n rfl rfl ?_
                    refine r_iload_n rfl rfl ?_
                    obtain ⟨hb9, hk⟩ := hk
                    refine q_callV0 [_] _ rfl kY_X12_isBlown kT_X12_isBlown rfl rfl (Nat.le_of_ble_eq_true rfl) (Nat.le_of_ble_eq_true rfl) (cc_60 _) (s_X12_isBlown hb9) (fun r h q => ?_)
                    obtain ⟨rfl, rfl⟩ := q
                    simp only [Option.toList, List.cons_append, List.nil_append]
                    refine r_if_eq rfl (fun c_119 => ?_) (fun c_119 => ?_)
                    · rw [if_pos c_119] at he
                      replace hk := hk.1 c_119
                      refine r_iconst_ (a := 0) rfl (by decide) ?_
                      refine r_iret rfl rfl rfl ?_
                      subst he
                      exact ⟨rfl, rfl⟩
                    · rw [if_neg c_119] at he
                      replace hk := hk.2 c_119
                      refine r_iconst_ (a := 1) rfl (by decide) ?_
                      refine r_goto rfl ?_
                      refine r_iret rfl rfl rfl ?_
                      subst he
                      exact ⟨rfl, rfl⟩
                · rw [if_neg c_15_6] at he
                  replace hk := hk.2 c_15_6
                  by_cases c_15_7 : (v1 = 7)
                  · rw [if_pos c_15_7] at he
                    replace hk := hk.1 c_15_7
                    refine r_tableIn (tgt := 128) rfl (by rw [c_15_7]; decide) (by rw [c_15_7]; decide) (by rw [c_15_7]; rfl) (by decide) ?_
                    refine r_aload_n rfl rfl ?_
                    refine r_iload_n rfl rfl ?_
                    obtain ⟨hb10, hk⟩ := hk
                    refine q_callV0 [_] _ rfl kY_X12_doesLie kT_X12_doesLie rfl rfl (Nat.le_of_ble_eq_true rfl) (Nat.le_of_ble_eq_true rfl) (cc_60 _) (s_X12_doesLie hb10) (fun r h q => ?_)
                    obtain ⟨rfl, rfl⟩ := q
                    simp only [Option.toList, List.cons_append, List.nil_append]
                    refine r_if_eq rfl (fun c_133 => ?_) (fun c_133 => ?_)
                    · rw [if_pos c_133] at he
                      replace hk := hk.1 c_133
                      refine r_iconst_ (a := 0) rfl (by decide) ?_
                      refine r_iret rfl rfl rfl ?_
                      subst he
                      exact ⟨rfl, rfl⟩
                    · rw [if_neg c_133] at he
                      replace hk := hk.2 c_133
                      refine r_aload_n rfl rfl ?_
                      refine r_iload_n rfl rfl ?_
                      obtain ⟨hb11, hk⟩ := hk
                      refine q_callV0 [_] _ rfl kY_X12_takesOf kT_X12_takesOf rfl rfl (Nat.le_of_ble_eq_true rfl) (Nat.le_of_ble_eq_true rfl) (cc_60 _) (s_X12_takesOf hb11) (fun r h q => ?_)
                      obtain ⟨rfl, rfl⟩ := q
                      simp only [Option.toList, List.cons_append, List.nil_append]
                      refine r_goto rfl ?_
                      refine r_iret rfl rfl rfl ?_
                      subst he
                      exact ⟨rfl, rfl⟩
                  · rw [if_neg c_15_7] at he
                    replace hk := hk.2 c_15_7
                    refine r_tableOut (tgt := 146) rfl (by simp only [Int32.lt_iff_toInt_lt, Int32.le_iff_toInt_le, ← Int32.toInt_inj, ti_0, ti_1, ti_2, ti_3, ti_4, ti_5, ti_6, ti_7, ti_8, ti_9, ti_10, ti_11, ti_12, ti_13, ti_14, ti_15, ti_16, ti_17, ti_18, ti_19, ti_20, ti_21, ti_22, ti_23, ti_24, ti_25, ti_26, ti_27, ti_28, ti_29, ti_30, ti_31, ti_32, ti_33, ti_34, ti_35, ti_36, ti_37, ti_38, ti_39, ti_40, ti_41, ti_42, ti_43, ti_44, ti_45, ti_46, ti_47, ti_48, ti_49, ti_50, ti_51, ti_52, ti_53, ti_54, ti_55, ti_56, ti_57, ti_58, ti_59, ti_60, ti_61, ti_62, ti_63, ti_64, ti_79, ti_80, ti_90, ti_96, ti_97, ti_99, ti_100, ti_122, ti_128, ti_132, ti_136, ti_140, ti_141, ti_145, ti_255, ti_256, ti_257, ti_258, ti_259, ti_262, ti_263, ti_264, ti_265, ti_266, ti_267, ti_268, ti_276, ti_277, ti_400, ti_401, ti_408, ti_420, ti_840, ti_999, ti_1980, ti_2000, ti_9999, ti_10000, ti_10240, ti_1000000, ti_m1, ti_m2, ti_m3, ti_m4, ti_m5, ti_m6, ti_m7] at c_15_0 c_15_1 c_15_2 c_15_3 c_15_4 c_15_5 c_15_6 c_15_7; omega) (by decide) ?_
                    refine r_iconst_ (a := -1) rfl (by decide) ?_
                    refine r_iret rfl rfl rfl ?_
                    subst he
                    exact ⟨rfl, rfl⟩
  · rw [if_pos c_5] at he
    replace hk := hk.1 c_5
    refine r_iconst_ (a := -1) rfl (by decide) ?_
    refine r_iret rfl rfl rfl ?_
    subst he
    exact ⟨rfl, rfl⟩

def f_X11_year_21 (D : fl_D) (s : fl_I) (l : fl_L) : Int32 × fl_I × fl_L :=
    ((-1 : Int32), s, l)

def p_X11_year_21 (D : fl_D) (s : fl_I) (l : fl_L) : Prop :=
    True

set_option maxRecDepth 100000 in
set_option maxHeartbeats 4000000 in
theorem lp_X11_year_21 {G : ab_G} {d : Nat} {D : fl_D} : ∀ (s : fl_I) (l : fl_L), p_X11_year_21  D s l → ab_C G (d + 5) 0 0 M_X11_year 21 [none, none, none, none, none, none] [] (hp D s l) (rt (some (.int (f_X11_year_21  D s l).1)) (hp D (f_X11_year_21  D s l).2.1 (f_X11_year_21  D s l).2.2)) := by
  intro  s l hk
  generalize he : f_X11_year_21  D s l = res
  unfold f_X11_year_21 at he
  unfold p_X11_year_21 at hk
  refine r_iconst_ (a := -1) rfl (by decide) ?_
  refine r_iret rfl rfl rfl ?_
  subst he
  exact ⟨rfl, rfl⟩

def f_X11_year_121 (K57 : Int32 → Int32 → Int32 → Int32 → Int32 → fl_I → fl_L → Int32 × fl_I × fl_L) (x1 : Int32) (x2 : Int32) (x3 : Int32) (x4 : Int32) (x5 : Int32) (D : fl_D) (s : fl_I) (l : fl_L) : Int32 × fl_I × fl_L :=
    K57 x1 x2 x3 x4 (x5 + 1) s l

def p_X11_year_121 (P57 : Int32 → Int32 → Int32 → Int32 → Int32 → fl_I → fl_L → Prop) (x1 : Int32) (x2 : Int32) (x3 : Int32) (x4 : Int32) (x5 : Int32) (D : fl_D) (s : fl_I) (l : fl_L) : Prop :=
    P57 x1 x2 x3 x4 (x5 + 1) s l

set_option maxRecDepth 100000 in
set_option maxHeartbeats 4000000 in
theorem lp_X11_year_121 {G : ab_G} {d : Nat} {D : fl_D} (K57 : Int32 → Int32 → Int32 → Int32 → Int32 → fl_I → fl_L → Int32 × fl_I × fl_L) (P57 : Int32 → Int32 → Int32 → Int32 → Int32 → fl_I → fl_L → Prop) (hK57 : ∀ (x1 : Int32) (x2 : Int32) (x3 : Int32) (x4 : Int32) (x5 : Int32) (s : fl_I) (l : fl_L), P57 x1 x2 x3 x4 x5 s l → ab_C G (d + 5) 0 0 M_X11_year 57 [some (.ref 0), some (.int x1), some (.int x2), some (.int x3), some (.int x4), some (.int x5)] [] (hp D s l) (rt (some (.int (K57 x1 x2 x3 x4 x5 s l).1)) (hp D (K57 x1 x2 x3 x4 x5 s l).2.1 (K57 x1 x2 x3 x4 x5 s l).2.2))) : ∀ (x1 : Int32) (x2 : Int32) (x3 : Int32) (x4 : Int32) (x5 : Int32) (s : fl_I) (l : fl_L), p_X11_year_121 P57 x1 x2 x3 x4 x5 D s l → ab_C G (d + 5) 0 0 M_X11_year 121 [some (.ref 0), some (.int x1), some (.int x2), some (.int x3), some (.int x4), some (.int x5)] [] (hp D s l) (rt (some (.int (f_X11_year_121 K57 x1 x2 x3 x4 x5 D s l).1)) (hp D (f_X11_year_121 K57 x1 x2 x3 x4 x5 D s l).2.1 (f_X11_year_121 K57 x1 x2 x3 x4 x5 D s l).2.2)) := by
  intro x1 x2 x3 x4 x5 s l hk
  generalize he : f_X11_year_121 K57 x1 x2 x3 x4 x5 D s l = res
  unfold f_X11_year_121 at he
  unfold p_X11_year_121 at hk
  refine r_iinc (b := x5 + 1) rfl rfl rfl (Nat.le_of_ble_eq_true rfl) rfl ?_
  refine r_goto rfl ?_
  subst he
  exact r_weak (L1 := [some (.ref 0), some (.int x1), some (.int x2), some (.int x3), some (.int x4), some (.int (x5 + 1))]) ⟨rfl, rfl, rfl, rfl, rfl, rfl, trivial⟩ (hK57 _ _ _ _ _ _ _ hk)

def f_X11_year_108 (K57 : Int32 → Int32 → Int32 → Int32 → Int32 → fl_I → fl_L → Int32 × fl_I × fl_L) (x1 : Int32) (x2 : Int32) (x3 : Int32) (x4 : Int32) (x5 : Int32) (D : fl_D) (s : fl_I) (l : fl_L) : Int32 × fl_I × fl_L :=
    if ((f_X10_countLying 37 s l) = 0) then f_X11_year_121 K57 x1 x2 x3 (x4 + 1) x5 D s l else f_X11_year_121 K57 x1 x2 x3 x4 x5 D s l

def p_X11_year_108 (P57 : Int32 → Int32 → Int32 → Int32 → Int32 → fl_I → fl_L → Prop) (x1 : Int32) (x2 : Int32) (x3 : Int32) (x4 : Int32) (x5 : Int32) (D : fl_D) (s : fl_I) (l : fl_L) : Prop :=
    (p_X10_countLying 37 s l) ∧ ((((f_X10_countLying 37 s l) = 0) → p_X11_year_121 P57 x1 x2 x3 (x4 + 1) x5 D s l) ∧ (¬ ((f_X10_countLying 37 s l) = 0) → p_X11_year_121 P57 x1 x2 x3 x4 x5 D s l))

set_option maxRecDepth 100000 in
set_option maxHeartbeats 4000000 in
theorem lp_X11_year_108 {G : ab_G} {d : Nat} {D : fl_D} (K57 : Int32 → Int32 → Int32 → Int32 → Int32 → fl_I → fl_L → Int32 × fl_I × fl_L) (P57 : Int32 → Int32 → Int32 → Int32 → Int32 → fl_I → fl_L → Prop) (hK57 : ∀ (x1 : Int32) (x2 : Int32) (x3 : Int32) (x4 : Int32) (x5 : Int32) (s : fl_I) (l : fl_L), P57 x1 x2 x3 x4 x5 s l → ab_C G (d + 5) 0 0 M_X11_year 57 [some (.ref 0), some (.int x1), some (.int x2), some (.int x3), some (.int x4), some (.int x5)] [] (hp D s l) (rt (some (.int (K57 x1 x2 x3 x4 x5 s l).1)) (hp D (K57 x1 x2 x3 x4 x5 s l).2.1 (K57 x1 x2 x3 x4 x5 s l).2.2))) : ∀ (x1 : Int32) (x2 : Int32) (x3 : Int32) (x4 : Int32) (x5 : Int32) (s : fl_I) (l : fl_L), p_X11_year_108 P57 x1 x2 x3 x4 x5 D s l → ab_C G (d + 5) 0 0 M_X11_year 108 [some (.ref 0), some (.int x1), some (.int x2), some (.int x3), some (.int x4), some (.int x5)] [] (hp D s l) (rt (some (.int (f_X11_year_108 K57 x1 x2 x3 x4 x5 D s l).1)) (hp D (f_X11_year_108 K57 x1 x2 x3 x4 x5 D s l).2.1 (f_X11_year_108 K57 x1 x2 x3 x4 x5 D s l).2.2)) := by
  intro x1 x2 x3 x4 x5 s l hk
  generalize he : f_X11_year_108 K57 x1 x2 x3 x4 x5 D s l = res
  unfold f_X11_year_108 at he
  unfold p_X11_year_108 at hk
  refine r_aload_n rfl rfl ?_
  refine q_getfield rfl (cc_0 _) rfl ?_
  obtain ⟨hb2, hk⟩ := hk
  refine q_callV0 [] _ rfl kY_X10_countLying kT_X10_countLying rfl rfl (Nat.le_of_ble_eq_true rfl) (Nat.le_of_ble_eq_true rfl) (cc_37 _) (s_X10_countLying (Or.inr (Or.inl rfl)) hb2) (fun r h q => ?_)
  obtain ⟨rfl, rfl⟩ := q
  simp only [Option.toList, List.cons_append, List.nil_append]
  refine r_if_ne rfl (fun c_115 => ?_) (fun c_115 => ?_)
  · rw [if_neg c_115] at he
    replace hk := hk.2 c_115
    subst he
    exact r_weak (L1 := [some (.ref 0), some (.int x1), some (.int x2), some (.int x3), some (.int x4), some (.int x5)]) ⟨rfl, rfl, rfl, rfl, rfl, rfl, trivial⟩ (lp_X11_year_121 _ _ hK57 _ _ _ _ _ _ _ hk)
  · rw [if_pos c_115] at he
    replace hk := hk.1 c_115
    refine r_iinc (b := x4 + 1) rfl rfl rfl (Nat.le_of_ble_eq_true rfl) rfl ?_
    subst he
    exact r_weak (L1 := [some (.ref 0), some (.int x1), some (.int x2), some (.int x3), some (.int (x4 + 1)), some (.int x5)]) ⟨rfl, rfl, rfl, rfl, rfl, rfl, trivial⟩ (lp_X11_year_121 _ _ hK57 _ _ _ _ _ _ _ hk)

def f_X11_year_82 (K57 : Int32 → Int32 → Int32 → Int32 → Int32 → fl_I → fl_L → Int32 × fl_I × fl_L) (x1 : Int32) (x2 : Int32) (x3 : Int32) (x4 : Int32) (x5 : Int32) (D : fl_D) (s : fl_I) (l : fl_L) : Int32 × fl_I × fl_L :=
    f_X11_year_108 K57 x1 x2 x3 x4 x5 D (f_X9_goOn x1 ((s (if D.2.2.1 then 20 else 9) 18) + x5) (if D.2.2.1 then 20 else 9) 37 s l).1 (f_X9_goOn x1 ((s (if D.2.2.1 then 20 else 9) 18) + x5) (if D.2.2.1 then 20 else 9) 37 s l).2

def p_X11_year_82 (P57 : Int32 → Int32 → Int32 → Int32 → Int32 → fl_I → fl_L → Prop) (x1 : Int32) (x2 : Int32) (x3 : Int32) (x4 : Int32) (x5 : Int32) (D : fl_D) (s : fl_I) (l : fl_L) : Prop :=
    (p_X9_goOn x1 ((s (if D.2.2.1 then 20 else 9) 18) + x5) (if D.2.2.1 then 20 else 9) 37 s l) ∧ p_X11_year_108 P57 x1 x2 x3 x4 x5 D (f_X9_goOn x1 ((s (if D.2.2.1 then 20 else 9) 18) + x5) (if D.2.2.1 then 20 else 9) 37 s l).1 (f_X9_goOn x1 ((s (if D.2.2.1 then 20 else 9) 18) + x5) (if D.2.2.1 then 20 else 9) 37 s l).2

set_option maxRecDepth 100000 in
set_option maxHeartbeats 4000000 in
theorem lp_X11_year_82 {G : ab_G} {d : Nat} {D : fl_D} (K57 : Int32 → Int32 → Int32 → Int32 → Int32 → fl_I → fl_L → Int32 × fl_I × fl_L) (P57 : Int32 → Int32 → Int32 → Int32 → Int32 → fl_I → fl_L → Prop) (hK57 : ∀ (x1 : Int32) (x2 : Int32) (x3 : Int32) (x4 : Int32) (x5 : Int32) (s : fl_I) (l : fl_L), P57 x1 x2 x3 x4 x5 s l → ab_C G (d + 5) 0 0 M_X11_year 57 [some (.ref 0), some (.int x1), some (.int x2), some (.int x3), some (.int x4), some (.int x5)] [] (hp D s l) (rt (some (.int (K57 x1 x2 x3 x4 x5 s l).1)) (hp D (K57 x1 x2 x3 x4 x5 s l).2.1 (K57 x1 x2 x3 x4 x5 s l).2.2))) : ∀ (x1 : Int32) (x2 : Int32) (x3 : Int32) (x4 : Int32) (x5 : Int32) (s : fl_I) (l : fl_L), p_X11_year_82 P57 x1 x2 x3 x4 x5 D s l → ab_C G (d + 5) 0 0 M_X11_year 82 [some (.ref 0), some (.int x1), some (.int x2), some (.int x3), some (.int x4), some (.int x5)] [] (hp D s l) (rt (some (.int (f_X11_year_82 K57 x1 x2 x3 x4 x5 D s l).1)) (hp D (f_X11_year_82 K57 x1 x2 x3 x4 x5 D s l).2.1 (f_X11_year_82 K57 x1 x2 x3 x4 x5 D s l).2.2)) := by
  intro x1 x2 x3 x4 x5 s l hk
  generalize he : f_X11_year_82 K57 x1 x2 x3 x4 x5 D s l = res
  unfold f_X11_year_82 at he
  unfold p_X11_year_82 at hk
  refine r_aload_n rfl rfl ?_
  refine q_getfield rfl (cc_0 _) rfl ?_
  refine r_aload_n rfl rfl ?_
  refine q_getfield rfl (cc_0 _) rfl ?_
  refine r_aload_n rfl rfl ?_
  refine q_getfield rfl (cc_0 _) rfl ?_
  refine r_iload_n rfl rfl ?_
  refine r_aload_n rfl rfl ?_
  refine q_getfield rfl (cc_0 _) rfl ?_
  refine q_getfield rfl (cT_0 (isT_l _)) rfl ?_
  refine r_iload rfl rfl ?_
  refine r_iadd rfl ?_
  obtain ⟨hb1, hk⟩ := hk
  refine q_callV0 [_, _, _, _] _ rfl kY_X9_goOn kT_X9_goOn rfl rfl (Nat.le_of_ble_eq_true rfl) (Nat.le_of_ble_eq_true rfl) (cc_46 _) (s_X9_goOn (isT_l _) (Or.inr (Or.inl rfl)) hb1) (fun r h q => ?_)
  obtain ⟨rfl, rfl⟩ := q
  simp only [Option.toList, List.cons_append, List.nil_append]
  subst he
  exact r_weak (L1 := [some (.ref 0), some (.int x1), some (.int x2), some (.int x3), some (.int x4), some (.int x5)]) ⟨rfl, rfl, rfl, rfl, rfl, rfl, trivial⟩ (lp_X11_year_108 _ _ hK57 _ _ _ _ _ _ _ hk)

def f_X11_year_57 : Nat → Int32 → Int32 → Int32 → Int32 → Int32 → fl_D → fl_I → fl_L → Int32 × fl_I × fl_L
  | 0, x1, x2, x3, x4, x5, D, s, l => (0, s, l)
  | n + 1, x1, x2, x3, x4, x5, D, s, l =>
    if (x3 = 0) then if (x2 ≤ x5) then if (x3 = 0) then (x4, s, l) else ((x4 * x2), s, l) else f_X11_year_82 (fun x1 x2 x3 x4 x5 s l => f_X11_year_57 n x1 x2 x3 x4 x5 D s l) x1 x2 x3 x4 x5 D (f_X10_copy 37 31 s l).1 (f_X10_copy 37 31 s l).2 else if ((1 : Int32) ≤ x5) then if (x3 = 0) then (x4, s, l) else ((x4 * x2), s, l) else f_X11_year_82 (fun x1 x2 x3 x4 x5 s l => f_X11_year_57 n x1 x2 x3 x4 x5 D s l) x1 x2 x3 x4 x5 D (f_X10_copy 37 31 s l).1 (f_X10_copy 37 31 s l).2

def p_X11_year_57 : Nat → Int32 → Int32 → Int32 → Int32 → Int32 → fl_D → fl_I → fl_L → Prop
  | 0, _, _, _, _, _, _, _, _ => False
  | n + 1, x1, x2, x3, x4, x5, D, s, l =>
    (((x3 = 0) → (((x2 ≤ x5) → (((x3 = 0) → True) ∧ (¬ (x3 = 0) → True))) ∧ (¬ (x2 ≤ x5) → (p_X10_copy 37 31 s l) ∧ p_X11_year_82 (fun x1 x2 x3 x4 x5 s l => p_X11_year_57 n x1 x2 x3 x4 x5 D s l) x1 x2 x3 x4 x5 D (f_X10_copy 37 31 s l).1 (f_X10_copy 37 31 s l).2))) ∧ (¬ (x3 = 0) → ((((1 : Int32) ≤ x5) → (((x3 = 0) → True) ∧ (¬ (x3 = 0) → True))) ∧ (¬ ((1 : Int32) ≤ x5) → (p_X10_copy 37 31 s l) ∧ p_X11_year_82 (fun x1 x2 x3 x4 x5 s l => p_X11_year_57 n x1 x2 x3 x4 x5 D s l) x1 x2 x3 x4 x5 D (f_X10_copy 37 31 s l).1 (f_X10_copy 37 31 s l).2))))

set_option maxRecDepth 100000 in
set_option maxHeartbeats 4000000 in
theorem lp_X11_year_57 {G : ab_G} {d : Nat} {D : fl_D} : ∀ (n : Nat) (x1 : Int32) (x2 : Int32) (x3 : Int32) (x4 : Int32) (x5 : Int32) (s : fl_I) (l : fl_L), p_X11_year_57 n x1 x2 x3 x4 x5 D s l → ab_C G (d + 5) 0 0 M_X11_year 57 [some (.ref 0), some (.int x1), some (.int x2), some (.int x3), some (.int x4), some (.int x5)] [] (hp D s l) (rt (some (.int (f_X11_year_57 n x1 x2 x3 x4 x5 D s l).1)) (hp D (f_X11_year_57 n x1 x2 x3 x4 x5 D s l).2.1 (f_X11_year_57 n x1 x2 x3 x4 x5 D s l).2.2)) := by
  intro n
  induction n with
  | zero => intro x1 x2 x3 x4 x5 s l hk; exact hk.elim
  | succ n ih =>
    intro x1 x2 x3 x4 x5 s l hk
    generalize he : f_X11_year_57 (n + 1) x1 x2 x3 x4 x5 D s l = res
    unfold f_X11_year_57 at he
    unfold p_X11_year_57 at hk
    refine r_iload rfl rfl ?_
    refine r_iload_n rfl rfl ?_
    refine r_if_eq rfl (fun c_60 => ?_) (fun c_60 => ?_)
    · rw [if_pos c_60] at he
      replace hk := hk.1 c_60
      refine r_iload_n rfl rfl ?_
      refine r_icmp_ge rfl (fun c_68 => ?_) (fun c_68 => ?_)
      · rw [if_pos c_68] at he
        replace hk := hk.1 c_68
        refine r_iload_n rfl rfl ?_
        refine r_if_eq rfl (fun c_128 => ?_) (fun c_128 => ?_)
        · rw [if_pos c_128] at he
          replace hk := hk.1 c_128
          refine r_iload rfl rfl ?_
          refine r_iret rfl rfl rfl ?_
          subst he
          exact ⟨rfl, rfl⟩
        · rw [if_neg c_128] at he
          replace hk := hk.2 c_128
          refine r_iload rfl rfl ?_
          refine r_iload_n rfl rfl ?_
          refine r_imul rfl ?_
          refine r_goto rfl ?_
          refine r_iret rfl rfl rfl ?_
          subst he
          exact ⟨rfl, rfl⟩
      · rw [if_neg c_68] at he
        replace hk := hk.2 c_68
        refine r_aload_n rfl rfl ?_
        refine q_getfield rfl (cc_0 _) rfl ?_
        refine r_aload_n rfl rfl ?_
        refine q_getfield rfl (cc_0 _) rfl ?_
        obtain ⟨hb0, hk⟩ := hk
        refine q_callV0 [_] _ rfl kY_X10_copy kT_X10_copy rfl rfl (Nat.le_of_ble_eq_true rfl) (Nat.le_of_ble_eq_true rfl) (cc_37 _) (s_X10_copy (Or.inr (Or.inl rfl)) (Or.inl rfl) hb0) (fun r h q => ?_)
        obtain ⟨rfl, rfl⟩ := q
        simp only [Option.toList, List.cons_append, List.nil_append]
        subst he
        exact r_weak (L1 := [some (.ref 0), some (.int x1), some (.int x2), some (.int x3), some (.int x4), some (.int x5)]) ⟨rfl, rfl, rfl, rfl, rfl, rfl, trivial⟩ (lp_X11_year_82 _ _ (fun _ _ _ _ _ _ _ h9 => ih _ _ _ _ _ _ _ h9) _ _ _ _ _ _ _ hk)
    · rw [if_neg c_60] at he
      replace hk := hk.2 c_60
      refine r_iconst_ (a := 1) rfl (by decide) ?_
      refine r_goto rfl ?_
      refine r_icmp_ge rfl (fun c_68 => ?_) (fun c_68 => ?_)
      · rw [if_pos c_68] at he
        replace hk := hk.1 c_68
        refine r_iload_n rfl rfl ?_
        refine r_if_eq rfl (fun c_128 => ?_) (fun c_128 => ?_)
        · rw [if_pos c_128] at he
          replace hk := hk.1 c_128
          refine r_iload rfl rfl ?_
          refine r_iret rfl rfl rfl ?_
          subst he
          exact ⟨rfl, rfl⟩
        · rw [if_neg c_128] at he
          replace hk := hk.2 c_128
          refine r_iload rfl rfl ?_
          refine r_iload_n rfl rfl ?_
          refine r_imul rfl ?_
          refine r_goto rfl ?_
          refine r_iret rfl rfl rfl ?_
          subst he
          exact ⟨rfl, rfl⟩
      · rw [if_neg c_68] at he
        replace hk := hk.2 c_68
        refine r_aload_n rfl rfl ?_
        refine q_getfield rfl (cc_0 _) rfl ?_
        refine r_aload_n rfl rfl ?_
        refine q_getfield rfl (cc_0 _) rfl ?_
        obtain ⟨hb3, hk⟩ := hk
        refine q_callV0 [_] _ rfl kY_X10_copy kT_X10_copy rfl rfl (Nat.le_of_ble_eq_true rfl) (Nat.le_of_ble_eq_true rfl) (cc_37 _) (s_X10_copy (Or.inr (Or.inl rfl)) (Or.inl rfl) hb3) (fun r h q => ?_)
        obtain ⟨rfl, rfl⟩ := q
        simp only [Option.toList, List.cons_append, List.nil_append]
        subst he
        exact r_weak (L1 := [some (.ref 0), some (.int x1), some (.int x2), some (.int x3), some (.int x4), some (.int x5)]) ⟨rfl, rfl, rfl, rfl, rfl, rfl, trivial⟩ (lp_X11_year_82 _ _ (fun _ _ _ _ _ _ _ h9 => ih _ _ _ _ _ _ _ h9) _ _ _ _ _ _ _ hk)

def f_X11_year_45 (x1 : Int32) (x2 : Int32) (D : fl_D) (s : fl_I) (l : fl_L) : Int32 × fl_I × fl_L :=
    f_X11_year_57 fu x1 x2 (1 : Int32) (0 : Int32) (0 : Int32) D s l

def p_X11_year_45 (x1 : Int32) (x2 : Int32) (D : fl_D) (s : fl_I) (l : fl_L) : Prop :=
    p_X11_year_57 fu x1 x2 (1 : Int32) (0 : Int32) (0 : Int32) D s l

set_option maxRecDepth 100000 in
set_option maxHeartbeats 4000000 in
theorem lp_X11_year_45 {G : ab_G} {d : Nat} {D : fl_D} : ∀ (x1 : Int32) (x2 : Int32) (s : fl_I) (l : fl_L), p_X11_year_45 x1 x2 D s l → ab_C G (d + 5) 0 0 M_X11_year 45 [some (.ref 0), some (.int x1), some (.int x2), none, none, none] [] (hp D s l) (rt (some (.int (f_X11_year_45 x1 x2 D s l).1)) (hp D (f_X11_year_45 x1 x2 D s l).2.1 (f_X11_year_45 x1 x2 D s l).2.2)) := by
  intro x1 x2 s l hk
  generalize he : f_X11_year_45 x1 x2 D s l = res
  unfold f_X11_year_45 at he
  unfold p_X11_year_45 at hk
  refine r_iconst_ (a := 1) rfl (by decide) ?_
  refine r_goto rfl ?_
  refine r_istore_n rfl (Nat.le_of_ble_eq_true rfl) rfl ?_
  refine r_iconst_ (a := 0) rfl (by decide) ?_
  refine r_istore rfl (Nat.le_of_ble_eq_true rfl) rfl ?_
  refine r_iconst_ (a := 0) rfl (by decide) ?_
  refine r_istore rfl (Nat.le_of_ble_eq_true rfl) rfl ?_
  subst he
  exact r_weak (L1 := [some (.ref 0), some (.int x1), some (.int x2), some (.int (1 : Int32)), some (.int (0 : Int32)), some (.int (0 : Int32))]) ⟨rfl, rfl, rfl, rfl, rfl, rfl, trivial⟩ (lp_X11_year_57 fu _ _ _ _ _ _ _ hk)

def f_X11_year (v0 : Int32) (v1 : Int32) (D : fl_D) (s : fl_I) (l : fl_L) : Int32 × fl_I × fl_L :=
  if (v0 < 0) then f_X11_year_21  D s l else if ((40 : Int32) < v0) then f_X11_year_21  D s l else if (v1 < (1 : Int32)) then f_X11_year_21  D s l else if (v1 ≤ (20 : Int32)) then if ((s (if D.2.2.1 then 20 else 9) 17) ≤ 0) then f_X11_year_45 v0 v1 D s l else if ((s (if D.2.2.1 then 20 else 9) 17) < (100 : Int32)) then f_X11_year_57 fu v0 v1 (0 : Int32) (0 : Int32) (0 : Int32) D s l else f_X11_year_45 v0 v1 D s l else f_X11_year_21  D s l

def p_X11_year (v0 : Int32) (v1 : Int32) (D : fl_D) (s : fl_I) (l : fl_L) : Prop :=
  (((v0 < 0) → p_X11_year_21  D s l) ∧ (¬ (v0 < 0) → ((((40 : Int32) < v0) → p_X11_year_21  D s l) ∧ (¬ ((40 : Int32) < v0) → (((v1 < (1 : Int32)) → p_X11_year_21  D s l) ∧ (¬ (v1 < (1 : Int32)) → (((v1 ≤ (20 : Int32)) → ((((s (if D.2.2.1 then 20 else 9) 17) ≤ 0) → p_X11_year_45 v0 v1 D s l) ∧ (¬ ((s (if D.2.2.1 then 20 else 9) 17) ≤ 0) → ((((s (if D.2.2.1 then 20 else 9) 17) < (100 : Int32)) → p_X11_year_57 fu v0 v1 (0 : Int32) (0 : Int32) (0 : Int32) D s l) ∧ (¬ ((s (if D.2.2.1 then 20 else 9) 17) < (100 : Int32)) → p_X11_year_45 v0 v1 D s l))))) ∧ (¬ (v1 ≤ (20 : Int32)) → p_X11_year_21  D s l))))))))

set_option maxRecDepth 100000 in
set_option maxHeartbeats 4000000 in
theorem s_X11_year {G : ab_G} {d : Nat} {D : fl_D} {s : fl_I} {l : fl_L} {v0 : Int32} {v1 : Int32} (hk : p_X11_year v0 v1 D s l) : ab_C G (d + 5) 0 0 M_X11_year 0 (ab_ent [.ref 0, .int v0, .int v1]) [] (hp D s l) (rt (some (.int (f_X11_year v0 v1 D s l).1)) (hp D (f_X11_year v0 v1 D s l).2.1 (f_X11_year v0 v1 D s l).2.2)) := by
  generalize he : (f_X11_year v0 v1 D s l) = res
  unfold f_X11_year at he
  unfold p_X11_year at hk
  refine r_weak (L1 := [some (.ref 0), some (.int v0), some (.int v1), none, none, none]) ⟨rfl, rfl, rfl, trivial⟩ ?_
  refine r_iload_n rfl rfl ?_
  refine r_if_lt rfl (fun c_1 => ?_) (fun c_1 => ?_)
  · rw [if_pos c_1] at he
    replace hk := hk.1 c_1
    subst he
    exact r_weak (L1 := [none, none, none, none, none, none]) trivial (lp_X11_year_21 _ _ hk)
  · rw [if_neg c_1] at he
    replace hk := hk.2 c_1
    refine r_iload_n rfl rfl ?_
    refine r_bipush_ (a := 40) rfl (by decide) ?_
    refine r_icmp_gt rfl (fun c_7 => ?_) (fun c_7 => ?_)
    · rw [if_pos c_7] at he
      replace hk := hk.1 c_7
      subst he
      exact r_weak (L1 := [none, none, none, none, none, none]) trivial (lp_X11_year_21 _ _ hk)
    · rw [if_neg c_7] at he
      replace hk := hk.2 c_7
      refine r_iload_n rfl rfl ?_
      refine r_iconst_ (a := 1) rfl (by decide) ?_
      refine r_icmp_lt rfl (fun c_12 => ?_) (fun c_12 => ?_)
      · rw [if_pos c_12] at he
        replace hk := hk.1 c_12
        subst he
        exact r_weak (L1 := [none, none, none, none, none, none]) trivial (lp_X11_year_21 _ _ hk)
      · rw [if_neg c_12] at he
        replace hk := hk.2 c_12
        refine r_iload_n rfl rfl ?_
        refine r_bipush_ (a := 20) rfl (by decide) ?_
        refine r_icmp_le rfl (fun c_18 => ?_) (fun c_18 => ?_)
        · rw [if_pos c_18] at he
          replace hk := hk.1 c_18
          refine r_aload_n rfl rfl ?_
          refine q_getfield rfl (cc_0 _) rfl ?_
          refine q_getfield rfl (cT_0 (isT_l _)) rfl ?_
          refine r_if_le rfl (fun c_30 => ?_) (fun c_30 => ?_)
          · rw [if_pos c_30] at he
            replace hk := hk.1 c_30
            subst he
            exact r_weak (L1 := [some (.ref 0), some (.int v0), some (.int v1), none, none, none]) ⟨rfl, rfl, rfl, trivial⟩ (lp_X11_year_45 _ _ _ _ hk)
          · rw [if_neg c_30] at he
            replace hk := hk.2 c_30
            refine r_aload_n rfl rfl ?_
            refine q_getfield rfl (cc_0 _) rfl ?_
            refine q_getfield rfl (cT_0 (isT_l _)) rfl ?_
            refine r_bipush_ (a := 100) rfl (by decide) ?_
            refine r_icmp_lt rfl (fun c_42 => ?_) (fun c_42 => ?_)
            · rw [if_pos c_42] at he
              replace hk := hk.1 c_42
              refine r_iconst_ (a := 0) rfl (by decide) ?_
              refine r_istore_n rfl (Nat.le_of_ble_eq_true rfl) rfl ?_
              refine r_iconst_ (a := 0) rfl (by decide) ?_
              refine r_istore rfl (Nat.le_of_ble_eq_true rfl) rfl ?_
              refine r_iconst_ (a := 0) rfl (by decide) ?_
              refine r_istore rfl (Nat.le_of_ble_eq_true rfl) rfl ?_
              subst he
              exact r_weak (L1 := [some (.ref 0), some (.int v0), some (.int v1), some (.int (0 : Int32)), some (.int (0 : Int32)), some (.int (0 : Int32))]) ⟨rfl, rfl, rfl, rfl, rfl, rfl, trivial⟩ (lp_X11_year_57 fu _ _ _ _ _ _ _ hk)
            · rw [if_neg c_42] at he
              replace hk := hk.2 c_42
              subst he
              exact r_weak (L1 := [some (.ref 0), some (.int v0), some (.int v1), none, none, none]) ⟨rfl, rfl, rfl, trivial⟩ (lp_X11_year_45 _ _ _ _ hk)
        · rw [if_neg c_18] at he
          replace hk := hk.2 c_18
          subst he
          exact r_weak (L1 := [none, none, none, none, none, none]) trivial (lp_X11_year_21 _ _ hk)

def f_X11_picker (v0 : Int32) (v1 : Int32) (D : fl_D) (s : fl_I) (l : fl_L) : Int32 × fl_I × fl_L :=
  if ((f_X11_isPicker v0 s l) = 0) then ((-1 : Int32), s, l) else if (v1 = 0) then (((s 34 v0.toNatClampNeg) - (s 34 v0.toNatClampNeg) / (10 : Int32) * (10 : Int32)), s, l) else if (v1 = 1) then (((s 34 v0.toNatClampNeg) / (10 : Int32)), s, l) else if (v1 = 2) then ((s ((if D.2.2.1 then 20 else 9) + 8) v0.toNatClampNeg), s, l) else if (v1 = 3) then ((s 36 v0.toNatClampNeg), s, l) else if (v1 = 4) then if ((s 35 v0.toNatClampNeg) = (-2 : Int32)) then ((-2 : Int32), s, l) else (((s 35 v0.toNatClampNeg) - (s 35 v0.toNatClampNeg) / (10 : Int32) * (10 : Int32)), s, l) else if (v1 = 5) then if ((s 35 v0.toNatClampNeg) = (-2 : Int32)) then ((-2 : Int32), s, l) else (((s 35 v0.toNatClampNeg) / (10 : Int32)), s, l) else if (v1 = 6) then ((f_X9_owed v0 (if D.2.2.1 then 20 else 9) 31 s l).1, (f_X9_owed v0 (if D.2.2.1 then 20 else 9) 31 s l).2.1, (f_X9_owed v0 (if D.2.2.1 then 20 else 9) 31 s l).2.2) else ((-1 : Int32), s, l)

def p_X11_picker (v0 : Int32) (v1 : Int32) (D : fl_D) (s : fl_I) (l : fl_L) : Prop :=
  (p_X11_isPicker v0 s l) ∧ ((((f_X11_isPicker v0 s l) = 0) → True) ∧ (¬ ((f_X11_isPicker v0 s l) = 0) → (vp_in v0 4) ∧ (((v1 = 0) → (vp_in v0 4) ∧ True) ∧ (¬ (v1 = 0) → (((v1 = 1) → (vp_in v0 4) ∧ True) ∧ (¬ (v1 = 1) → (((v1 = 2) → (vp_in v0 4) ∧ True) ∧ (¬ (v1 = 2) → (((v1 = 3) → (vp_in v0 4) ∧ True) ∧ (¬ (v1 = 3) → (((v1 = 4) → ((((s 35 v0.toNatClampNeg) = (-2 : Int32)) → True) ∧ (¬ ((s 35 v0.toNatClampNeg) = (-2 : Int32)) → True))) ∧ (¬ (v1 = 4) → (((v1 = 5) → ((((s 35 v0.toNatClampNeg) = (-2 : Int32)) → True) ∧ (¬ ((s 35 v0.toNatClampNeg) = (-2 : Int32)) → True))) ∧ (¬ (v1 = 5) → (((v1 = 6) → (p_X9_owed v0 (if D.2.2.1 then 20 else 9) 31 s l) ∧ True) ∧ (¬ (v1 = 6) → True))))))))))))))))

set_option maxRecDepth 100000 in
set_option maxHeartbeats 4000000 in
theorem s_X11_picker {G : ab_G} {d : Nat} {D : fl_D} {s : fl_I} {l : fl_L} {v0 : Int32} {v1 : Int32} (hk : p_X11_picker v0 v1 D s l) : ab_C G (d + 4) 0 0 M_X11_picker 0 (ab_ent [.ref 0, .int v0, .int v1]) [] (hp D s l) (rt (some (.int (f_X11_picker v0 v1 D s l).1)) (hp D (f_X11_picker v0 v1 D s l).2.1 (f_X11_picker v0 v1 D s l).2.2)) := by
  generalize he : (f_X11_picker v0 v1 D s l) = res
  unfold f_X11_picker at he
  unfold p_X11_picker at hk
  refine r_weak (L1 := [some (.ref 0), some (.int v0), some (.int v1), none]) ⟨rfl, rfl, rfl, trivial⟩ ?_
  refine r_aload_n rfl rfl ?_
  refine r_iload_n rfl rfl ?_
  obtain ⟨hb0, hk⟩ := hk
  refine q_callV0 [_] _ rfl kY_X11_isPicker kT_X11_isPicker rfl rfl (Nat.le_of_ble_eq_true rfl) (Nat.le_of_ble_eq_true rfl) (cc_0 _) (s_X11_isPicker hb0) (fun r h q => ?_)
  obtain ⟨rfl, rfl⟩ := q
  simp only [Option.toList, List.cons_append, List.nil_append]
  refine r_if_ne rfl (fun c_5 => ?_) (fun c_5 => ?_)
  · rw [if_neg c_5] at he
    replace hk := hk.2 c_5
    refine r_aload_n rfl rfl ?_
    refine q_getfield rfl (cc_0 _) rfl ?_
    refine q_getfield rfl (cc_31 _) rfl ?_
    refine r_iload_n rfl rfl ?_
    obtain ⟨hb1, hk⟩ := hk
    refine q_iald rfl (cc_35 _) hb1 ?_
    refine r_istore_n rfl (Nat.le_of_ble_eq_true rfl) rfl ?_
    refine r_iload_n rfl rfl ?_
    by_cases c_21_0 : (v1 = 0)
    · rw [if_pos c_21_0] at he
      replace hk := hk.1 c_21_0
      refine r_tableIn (tgt := 64) rfl (by rw [c_21_0]; decide) (by rw [c_21_0]; decide) (by rw [c_21_0]; rfl) (by decide) ?_
      refine r_aload_n rfl rfl ?_
      refine q_getfield rfl (cc_0 _) rfl ?_
      refine q_getfield rfl (cc_31 _) rfl ?_
      refine r_iload_n rfl rfl ?_
      obtain ⟨hb2, hk⟩ := hk
      refine q_iald rfl (cc_34 _) hb2 ?_
      refine r_bipush_ (a := 10) rfl (by decide) ?_
      refine r_irem rfl (by decide) ?_
      refine r_iret rfl rfl rfl ?_
      subst he
      exact ⟨rfl, rfl⟩
    · rw [if_neg c_21_0] at he
      replace hk := hk.2 c_21_0
      by_cases c_21_1 : (v1 = 1)
      · rw [if_pos c_21_1] at he
        replace hk := hk.1 c_21_1
        refine r_tableIn (tgt := 77) rfl (by rw [c_21_1]; decide) (by rw [c_21_1]; decide) (by rw [c_21_1]; rfl) (by decide) ?_
        refine r_aload_n rfl rfl ?_
        refine q_getfield rfl (cc_0 _) rfl ?_
        refine q_getfield rfl (cc_31 _) rfl ?_
        refine r_iload_n rfl rfl ?_
        obtain ⟨hb3, hk⟩ := hk
        refine q_iald rfl (cc_34 _) hb3 ?_
        refine r_bipush_ (a := 10) rfl (by decide) ?_
        refine r_idiv rfl (by decide) ?_
        refine r_iret rfl rfl rfl ?_
        subst he
        exact ⟨rfl, rfl⟩
      · rw [if_neg c_21_1] at he
        replace hk := hk.2 c_21_1
        by_cases c_21_2 : (v1 = 2)
        · rw [if_pos c_21_2] at he
          replace hk := hk.1 c_21_2
          refine r_tableIn (tgt := 90) rfl (by rw [c_21_2]; decide) (by rw [c_21_2]; decide) (by rw [c_21_2]; rfl) (by decide) ?_
          refine r_aload_n rfl rfl ?_
          refine q_getfield rfl (cc_0 _) rfl ?_
          refine q_getfield rfl (cT_0 (isT_l _)) rfl ?_
          refine r_iload_n rfl rfl ?_
          obtain ⟨hb4, hk⟩ := hk
          refine q_iald rfl (cT_8 (isT_l _)) hb4 ?_
          refine r_iret rfl rfl rfl ?_
          subst he
          exact ⟨rfl, rfl⟩
        · rw [if_neg c_21_2] at he
          replace hk := hk.2 c_21_2
          by_cases c_21_3 : (v1 = 3)
          · rw [if_pos c_21_3] at he
            replace hk := hk.1 c_21_3
            refine r_tableIn (tgt := 100) rfl (by rw [c_21_3]; decide) (by rw [c_21_3]; decide) (by rw [c_21_3]; rfl) (by decide) ?_
            refine r_aload_n rfl rfl ?_
            refine q_getfield rfl (cc_0 _) rfl ?_
            refine q_getfield rfl (cc_31 _) rfl ?_
            refine r_iload_n rfl rfl ?_
            obtain ⟨hb5, hk⟩ := hk
            refine q_iald rfl (cc_36 _) hb5 ?_
            refine r_iret rfl rfl rfl ?_
            subst he
            exact ⟨rfl, rfl⟩
          · rw [if_neg c_21_3] at he
            replace hk := hk.2 c_21_3
            by_cases c_21_4 : (v1 = 4)
            · rw [if_pos c_21_4] at he
              replace hk := hk.1 c_21_4
              refine r_tableIn (tgt := 110) rfl (by rw [c_21_4]; decide) (by rw [c_21_4]; decide) (by rw [c_21_4]; rfl) (by decide) ?_
              refine r_iload_n rfl rfl ?_
              refine r_bipush_ (a := -2) rfl (by decide) ?_
              refine r_icmp_ne rfl (fun c_113 => ?_) (fun c_113 => ?_)
              · rw [if_neg c_113] at he
                replace hk := hk.2 c_113
                refine r_iload_n rfl rfl ?_
                refine r_bipush_ (a := 10) rfl (by decide) ?_
                refine r_irem rfl (by decide) ?_
                refine r_iret rfl rfl rfl ?_
                subst he
                exact ⟨rfl, rfl⟩
              · rw [if_pos c_113] at he
                replace hk := hk.1 c_113
                refine r_bipush_ (a := -2) rfl (by decide) ?_
                refine r_goto rfl ?_
                refine r_iret rfl rfl rfl ?_
                subst he
                exact ⟨rfl, rfl⟩
            · rw [if_neg c_21_4] at he
              replace hk := hk.2 c_21_4
              by_cases c_21_5 : (v1 = 5)
              · rw [if_pos c_21_5] at he
                replace hk := hk.1 c_21_5
                refine r_tableIn (tgt := 126) rfl (by rw [c_21_5]; decide) (by rw [c_21_5]; decide) (by rw [c_21_5]; rfl) (by decide) ?_
                refine r_iload_n rfl rfl ?_
                refine r_bipush_ (a := -2) rfl (by decide) ?_
                refine r_icmp_ne rfl (fun c_129 => ?_) (fun c_129 => ?_)
                · rw [if_neg c_129] at he
                  replace hk := hk.2 c_129
                  refine r_iload_n rfl rfl ?_
                  refine r_bipush_ (a := 10) rfl (by decide) ?_
                  refine r_idiv rfl (by decide) ?_
                  refine r_iret rfl rfl rfl ?_
                  subst he
                  exact ⟨rfl, rfl⟩
                · rw [if_pos c_129] at he
                  replace hk := hk.1 c_129
                  refine r_bipush_ (a := -2) rfl (by decide) ?_
                  refine r_goto rfl ?_
                  refine r_iret rfl rfl rfl ?_
                  subst he
                  exact ⟨rfl, rfl⟩
              · rw [if_neg c_21_5] at he
                replace hk := hk.2 c_21_5
                by_cases c_21_6 : (v1 = 6)
                · rw [if_pos c_21_6] at he
                  replace hk := hk.1 c_21_6
                  refine r_tableIn (tgt := 142) rfl (by rw [c_21_6]; decide) (by rw [c_21_6]; decide) (by rw [c_21_6]; rfl) (by decide) ?_
                  refine r_aload_n rfl rfl ?_
                  refine q_getfield rfl (cc_0 _) rfl ?_
                  refine r_aload_n rfl rfl ?_
                  refine q_getfield rfl (cc_0 _) rfl ?_
                  refine r_aload_n rfl rfl ?_
                  refine q_getfield rfl (cc_0 _) rfl ?_
                  refine r_iload_n rfl rfl ?_
                  obtain ⟨hb6, hk⟩ := hk
                  refine q_callV0 [_, _, _] _ rfl kY_X9_owed kT_X9_owed rfl rfl (Nat.le_of_ble_eq_true rfl) (Nat.le_of_ble_eq_true rfl) (cc_46 _) (s_X9_owed (isT_l _) (Or.inl rfl) hb6) (fun r h q => ?_)
                  obtain ⟨rfl, rfl⟩ := q
                  simp only [Option.toList, List.cons_append, List.nil_append]
                  refine r_iret rfl rfl rfl ?_
                  subst he
                  exact ⟨rfl, rfl⟩
                · rw [if_neg c_21_6] at he
                  replace hk := hk.2 c_21_6
                  refine r_tableOut (tgt := 159) rfl (by simp only [Int32.lt_iff_toInt_lt, Int32.le_iff_toInt_le, ← Int32.toInt_inj, ti_0, ti_1, ti_2, ti_3, ti_4, ti_5, ti_6, ti_7, ti_8, ti_9, ti_10, ti_11, ti_12, ti_13, ti_14, ti_15, ti_16, ti_17, ti_18, ti_19, ti_20, ti_21, ti_22, ti_23, ti_24, ti_25, ti_26, ti_27, ti_28, ti_29, ti_30, ti_31, ti_32, ti_33, ti_34, ti_35, ti_36, ti_37, ti_38, ti_39, ti_40, ti_41, ti_42, ti_43, ti_44, ti_45, ti_46, ti_47, ti_48, ti_49, ti_50, ti_51, ti_52, ti_53, ti_54, ti_55, ti_56, ti_57, ti_58, ti_59, ti_60, ti_61, ti_62, ti_63, ti_64, ti_79, ti_80, ti_90, ti_96, ti_97, ti_99, ti_100, ti_122, ti_128, ti_132, ti_136, ti_140, ti_141, ti_145, ti_255, ti_256, ti_257, ti_258, ti_259, ti_262, ti_263, ti_264, ti_265, ti_266, ti_267, ti_268, ti_276, ti_277, ti_400, ti_401, ti_408, ti_420, ti_840, ti_999, ti_1980, ti_2000, ti_9999, ti_10000, ti_10240, ti_1000000, ti_m1, ti_m2, ti_m3, ti_m4, ti_m5, ti_m6, ti_m7] at c_21_0 c_21_1 c_21_2 c_21_3 c_21_4 c_21_5 c_21_6; omega) (by decide) ?_
                  refine r_iconst_ (a := -1) rfl (by decide) ?_
                  refine r_iret rfl rfl rfl ?_
                  subst he
                  exact ⟨rfl, rfl⟩
  · rw [if_pos c_5] at he
    replace hk := hk.1 c_5
    refine r_iconst_ (a := -1) rfl (by decide) ?_
    refine r_iret rfl rfl rfl ?_
    subst he
    exact ⟨rfl, rfl⟩

def f_X11_piece (v0 : Int32) (v1 : Int32) (D : fl_D) (s : fl_I) (l : fl_L) : Int32 × fl_I × fl_L :=
  if ((f_X11_isPiece v0 s l) = 0) then ((-1 : Int32), s, l) else if (v1 = 0) then ((s ((if D.2.2.1 then 20 else 9) + 4) v0.toNatClampNeg), s, l) else if (v1 = 1) then ((s ((if D.2.2.1 then 20 else 9) + 5) v0.toNatClampNeg), s, l) else if (v1 = 2) then (((f_X10_cellOf v0 31 s l) - (f_X10_cellOf v0 31 s l) / (10 : Int32) * (10 : Int32)), s, l) else if (v1 = 3) then (((f_X10_cellOf v0 31 s l) / (10 : Int32)), s, l) else if (v1 = 4) then ((f_X10_holder v0 31 s l), s, l) else if (v1 = 5) then ((s 33 v0.toNatClampNeg), s, l) else if (v1 = 6) then if ((f_X10_isLying v0 31 s l) = 0) then ((0 : Int32), s, l) else if ((f_X9_lawOfPiece (0 : Int32) v0 (if D.2.2.1 then 20 else 9) 31 s l).1 ≤ 0) then ((0 : Int32), (f_X9_lawOfPiece (0 : Int32) v0 (if D.2.2.1 then 20 else 9) 31 s l).2.1, (f_X9_lawOfPiece (0 : Int32) v0 (if D.2.2.1 then 20 else 9) 31 s l).2.2) else ((1 : Int32), (f_X9_lawOfPiece (0 : Int32) v0 (if D.2.2.1 then 20 else 9) 31 s l).2.1, (f_X9_lawOfPiece (0 : Int32) v0 (if D.2.2.1 then 20 else 9) 31 s l).2.2) else if (v1 = 7) then if ((f_X10_isLying v0 31 s l) = 0) then ((0 : Int32), s, l) else ((f_X11_money (f_X9_lawOfPiece (1 : Int32) v0 (if D.2.2.1 then 20 else 9) 31 s l).1), (f_X9_lawOfPiece (1 : Int32) v0 (if D.2.2.1 then 20 else 9) 31 s l).2.1, (f_X9_lawOfPiece (1 : Int32) v0 (if D.2.2.1 then 20 else 9) 31 s l).2.2) else ((-1 : Int32), s, l)

def p_X11_piece (v0 : Int32) (v1 : Int32) (D : fl_D) (s : fl_I) (l : fl_L) : Prop :=
  (p_X11_isPiece v0 s l) ∧ ((((f_X11_isPiece v0 s l) = 0) → True) ∧ (¬ ((f_X11_isPiece v0 s l) = 0) → (p_X10_isLying v0 31 s l) ∧ (p_X10_cellOf v0 31 s l) ∧ (((v1 = 0) → (vp_in v0 32) ∧ True) ∧ (¬ (v1 = 0) → (((v1 = 1) → (vp_in v0 32) ∧ True) ∧ (¬ (v1 = 1) → (((v1 = 2) → True) ∧ (¬ (v1 = 2) → (((v1 = 3) → True) ∧ (¬ (v1 = 3) → (((v1 = 4) → (p_X10_holder v0 31 s l) ∧ True) ∧ (¬ (v1 = 4) → (((v1 = 5) → (vp_in v0 32) ∧ True) ∧ (¬ (v1 = 5) → (((v1 = 6) → ((((f_X10_isLying v0 31 s l) = 0) → True) ∧ (¬ ((f_X10_isLying v0 31 s l) = 0) → (p_X9_lawOfPiece (0 : Int32) v0 (if D.2.2.1 then 20 else 9) 31 s l) ∧ ((((f_X9_lawOfPiece (0 : Int32) v0 (if D.2.2.1 then 20 else 9) 31 s l).1 ≤ 0) → True) ∧ (¬ ((f_X9_lawOfPiece (0 : Int32) v0 (if D.2.2.1 then 20 else 9) 31 s l).1 ≤ 0) → True))))) ∧ (¬ (v1 = 6) → (((v1 = 7) → ((((f_X10_isLying v0 31 s l) = 0) → True) ∧ (¬ ((f_X10_isLying v0 31 s l) = 0) → (p_X9_lawOfPiece (1 : Int32) v0 (if D.2.2.1 then 20 else 9) 31 s l) ∧ (p_X11_money (f_X9_lawOfPiece (1 : Int32) v0 (if D.2.2.1 then 20 else 9) 31 s l).1) ∧ True))) ∧ (¬ (v1 = 7) → True))))))))))))))))))

set_option maxRecDepth 100000 in
set_option maxHeartbeats 4000000 in
theorem s_X11_piece {G : ab_G} {d : Nat} {D : fl_D} {s : fl_I} {l : fl_L} {v0 : Int32} {v1 : Int32} (hk : p_X11_piece v0 v1 D s l) : ab_C G (d + 4) 0 0 M_X11_piece 0 (ab_ent [.ref 0, .int v0, .int v1]) [] (hp D s l) (rt (some (.int (f_X11_piece v0 v1 D s l).1)) (hp D (f_X11_piece v0 v1 D s l).2.1 (f_X11_piece v0 v1 D s l).2.2)) := by
  generalize he : (f_X11_piece v0 v1 D s l) = res
  unfold f_X11_piece at he
  unfold p_X11_piece at hk
  refine r_weak (L1 := [some (.ref 0), some (.int v0), some (.int v1), none, none]) ⟨rfl, rfl, rfl, trivial⟩ ?_
  refine r_aload_n rfl rfl ?_
  refine r_iload_n rfl rfl ?_
  obtain ⟨hb0, hk⟩ := hk
  refine q_callV0 [_] _ rfl kY_X11_isPiece kT_X11_isPiece rfl rfl (Nat.le_of_ble_eq_true rfl) (Nat.le_of_ble_eq_true rfl) (cc_0 _) (s_X11_isPiece hb0) (fun r h q => ?_)
  obtain ⟨rfl, rfl⟩ := q
  simp only [Option.toList, List.cons_append, List.nil_append]
  refine r_if_ne rfl (fun c_5 => ?_) (fun c_5 => ?_)
  · rw [if_neg c_5] at he
    replace hk := hk.2 c_5
    refine r_aload_n rfl rfl ?_
    refine q_getfield rfl (cc_0 _) rfl ?_
    refine r_iload_n rfl rfl ?_
    obtain ⟨hb1, hk⟩ := hk
    refine q_callV0 [_] _ rfl kY_X10_isLying kT_X10_isLying rfl rfl (Nat.le_of_ble_eq_true rfl) (Nat.le_of_ble_eq_true rfl) (cc_31 _) (s_X10_isLying (Or.inl rfl) hb1) (fun r h q => ?_)
    obtain ⟨rfl, rfl⟩ := q
    simp only [Option.toList, List.cons_append, List.nil_append]
    refine r_istore_n rfl (Nat.le_of_ble_eq_true rfl) rfl ?_
    refine r_aload_n rfl rfl ?_
    refine q_getfield rfl (cc_0 _) rfl ?_
    refine r_iload_n rfl rfl ?_
    obtain ⟨hb2, hk⟩ := hk
    refine q_callV0 [_] _ rfl kY_X10_cellOf kT_X10_cellOf rfl rfl (Nat.le_of_ble_eq_true rfl) (Nat.le_of_ble_eq_true rfl) (cc_31 _) (s_X10_cellOf (Or.inl rfl) hb2) (fun r h q => ?_)
    obtain ⟨rfl, rfl⟩ := q
    simp only [Option.toList, List.cons_append, List.nil_append]
    refine r_istore rfl (Nat.le_of_ble_eq_true rfl) rfl ?_
    refine r_iload_n rfl rfl ?_
    by_cases c_30_0 : (v1 = 0)
    · rw [if_pos c_30_0] at he
      replace hk := hk.1 c_30_0
      refine r_tableIn (tgt := 76) rfl (by rw [c_30_0]; decide) (by rw [c_30_0]; decide) (by rw [c_30_0]; rfl) (by decide) ?_
      refine r_aload_n rfl rfl ?_
      refine q_getfield rfl (cc_0 _) rfl ?_
      refine q_getfield rfl (cT_0 (isT_l _)) rfl ?_
      refine r_iload_n rfl rfl ?_
      obtain ⟨hb3, hk⟩ := hk
      refine q_iald rfl (cT_4 (isT_l _)) hb3 ?_
      refine r_iret rfl rfl rfl ?_
      subst he
      exact ⟨rfl, rfl⟩
    · rw [if_neg c_30_0] at he
      replace hk := hk.2 c_30_0
      by_cases c_30_1 : (v1 = 1)
      · rw [if_pos c_30_1] at he
        replace hk := hk.1 c_30_1
        refine r_tableIn (tgt := 86) rfl (by rw [c_30_1]; decide) (by rw [c_30_1]; decide) (by rw [c_30_1]; rfl) (by decide) ?_
        refine r_aload_n rfl rfl ?_
        refine q_getfield rfl (cc_0 _) rfl ?_
        refine q_getfield rfl (cT_0 (isT_l _)) rfl ?_
        refine r_iload_n rfl rfl ?_
        obtain ⟨hb4, hk⟩ := hk
        refine q_iald rfl (cT_5 (isT_l _)) hb4 ?_
        refine r_iret rfl rfl rfl ?_
        subst he
        exact ⟨rfl, rfl⟩
      · rw [if_neg c_30_1] at he
        replace hk := hk.2 c_30_1
        by_cases c_30_2 : (v1 = 2)
        · rw [if_pos c_30_2] at he
          replace hk := hk.1 c_30_2
          refine r_tableIn (tgt := 96) rfl (by rw [c_30_2]; decide) (by rw [c_30_2]; decide) (by rw [c_30_2]; rfl) (by decide) ?_
          refine r_iload rfl rfl ?_
          refine r_bipush_ (a := 10) rfl (by decide) ?_
          refine r_irem rfl (by decide) ?_
          refine r_iret rfl rfl rfl ?_
          subst he
          exact ⟨rfl, rfl⟩
        · rw [if_neg c_30_2] at he
          replace hk := hk.2 c_30_2
          by_cases c_30_3 : (v1 = 3)
          · rw [if_pos c_30_3] at he
            replace hk := hk.1 c_30_3
            refine r_tableIn (tgt := 102) rfl (by rw [c_30_3]; decide) (by rw [c_30_3]; decide) (by rw [c_30_3]; rfl) (by decide) ?_
            refine r_iload rfl rfl ?_
            refine r_bipush_ (a := 10) rfl (by decide) ?_
            refine r_idiv rfl (by decide) ?_
            refine r_iret rfl rfl rfl ?_
            subst he
            exact ⟨rfl, rfl⟩
          · rw [if_neg c_30_3] at he
            replace hk := hk.2 c_30_3
            by_cases c_30_4 : (v1 = 4)
            · rw [if_pos c_30_4] at he
              replace hk := hk.1 c_30_4
              refine r_tableIn (tgt := 108) rfl (by rw [c_30_4]; decide) (by rw [c_30_4]; decide) (by rw [c_30_4]; rfl) (by decide) ?_
              refine r_aload_n rfl rfl ?_
              refine q_getfield rfl (cc_0 _) rfl ?_
              refine r_iload_n rfl rfl ?_
              obtain ⟨hb5, hk⟩ := hk
              refine q_callV0 [_] _ rfl kY_X10_holder kT_X10_holder rfl rfl (Nat.le_of_ble_eq_true rfl) (Nat.le_of_ble_eq_true rfl) (cc_31 _) (s_X10_holder (Or.inl rfl) hb5) (fun r h q => ?_)
              obtain ⟨rfl, rfl⟩ := q
              simp only [Option.toList, List.cons_append, List.nil_append]
              refine r_iret rfl rfl rfl ?_
              subst he
              exact ⟨rfl, rfl⟩
            · rw [if_neg c_30_4] at he
              replace hk := hk.2 c_30_4
              by_cases c_30_5 : (v1 = 5)
              · rw [if_pos c_30_5] at he
                replace hk := hk.1 c_30_5
                refine r_tableIn (tgt := 117) rfl (by rw [c_30_5]; decide) (by rw [c_30_5]; decide) (by rw [c_30_5]; rfl) (by decide) ?_
                refine r_aload_n rfl rfl ?_
                refine q_getfield rfl (cc_0 _) rfl ?_
                refine q_getfield rfl (cc_31 _) rfl ?_
                refine r_iload_n rfl rfl ?_
                obtain ⟨hb6, hk⟩ := hk
                refine q_iald rfl (cc_33 _) hb6 ?_
                refine r_iret rfl rfl rfl ?_
                subst he
                exact ⟨rfl, rfl⟩
              · rw [if_neg c_30_5] at he
                replace hk := hk.2 c_30_5
                by_cases c_30_6 : (v1 = 6)
                · rw [if_pos c_30_6] at he
                  replace hk := hk.1 c_30_6
                  refine r_tableIn (tgt := 127) rfl (by rw [c_30_6]; decide) (by rw [c_30_6]; decide) (by rw [c_30_6]; rfl) (by decide) ?_
                  refine r_iload_n rfl rfl ?_
                  refine r_if_eq rfl (fun c_128 => ?_) (fun c_128 => ?_)
                  · rw [if_pos c_128] at he
                    replace hk := hk.1 c_128
                    refine r_iconst_ (a := 0) rfl (by decide) ?_
                    refine r_iret rfl rfl rfl ?_
                    subst he
                    exact ⟨rfl, rfl⟩
                  · rw [if_neg c_128] at he
                    replace hk := hk.2 c_128
                    refine r_aload_n rfl rfl ?_
                    refine q_getfield rfl (cc_0 _) rfl ?_
                    refine r_iconst_ (a := 0) rfl (by decide) ?_
                    refine r_aload_n rfl rfl ?_
                    refine q_getfield rfl (cc_0 _) rfl ?_
                    refine r_aload_n rfl rfl ?_
                    refine q_getfield rfl (cc_0 _) rfl ?_
                    refine r_iload_n rfl rfl ?_
                    obtain ⟨hb7, hk⟩ := hk
                    refine q_callV0 [_, _, _, _] _ rfl kY_X9_lawOfPiece kT_X9_lawOfPiece rfl rfl (Nat.le_of_ble_eq_true rfl) (Nat.le_of_ble_eq_true rfl) (cc_46 _) (s_X9_lawOfPiece (isT_l _) (Or.inl rfl) hb7) (fun r h q => ?_)
                    obtain ⟨rfl, rfl⟩ := q
                    simp only [Option.toList, List.cons_append, List.nil_append]
                    refine r_if_le rfl (fun c_148 => ?_) (fun c_148 => ?_)
                    · rw [if_pos c_148] at he
                      replace hk := hk.1 c_148
                      refine r_iconst_ (a := 0) rfl (by decide) ?_
                      refine r_iret rfl rfl rfl ?_
                      subst he
                      exact ⟨rfl, rfl⟩
                    · rw [if_neg c_148] at he
                      replace hk := hk.2 c_148
                      refine r_iconst_ (a := 1) rfl (by decide) ?_
                      refine r_goto rfl ?_
                      refine r_iret rfl rfl rfl ?_
                      subst he
                      exact ⟨rfl, rfl⟩
                · rw [if_neg c_30_6] at he
                  replace hk := hk.2 c_30_6
                  by_cases c_30_7 : (v1 = 7)
                  · rw [if_pos c_30_7] at he
                    replace hk := hk.1 c_30_7
                    refine r_tableIn (tgt := 157) rfl (by rw [c_30_7]; decide) (by rw [c_30_7]; decide) (by rw [c_30_7]; rfl) (by decide) ?_
                    refine r_iload_n rfl rfl ?_
                    refine r_if_eq rfl (fun c_158 => ?_) (fun c_158 => ?_)
                    · rw [if_pos c_158] at he
                      replace hk := hk.1 c_158
                      refine r_iconst_ (a := 0) rfl (by decide) ?_
                      refine r_iret rfl rfl rfl ?_
                      subst he
                      exact ⟨rfl, rfl⟩
                    · rw [if_neg c_158] at he
                      replace hk := hk.2 c_158
                      refine r_aload_n rfl rfl ?_
                      refine q_getfield rfl (cc_0 _) rfl ?_
                      refine r_iconst_ (a := 1) rfl (by decide) ?_
                      refine r_aload_n rfl rfl ?_
                      refine q_getfield rfl (cc_0 _) rfl ?_
                      refine r_aload_n rfl rfl ?_
                      refine q_getfield rfl (cc_0 _) rfl ?_
                      refine r_iload_n rfl rfl ?_
                      obtain ⟨hb8, hk⟩ := hk
                      refine q_callV0 [_, _, _, _] _ rfl kY_X9_lawOfPiece kT_X9_lawOfPiece rfl rfl (Nat.le_of_ble_eq_true rfl) (Nat.le_of_ble_eq_true rfl) (cc_46 _) (s_X9_lawOfPiece (isT_l _) (Or.inl rfl) hb8) (fun r h q => ?_)
                      obtain ⟨rfl, rfl⟩ := q
                      simp only [Option.toList, List.cons_append, List.nil_append]
                      obtain ⟨hb9, hk⟩ := hk
                      refine r_callS0 [_] _ rfl kY_X11_money kT_X11_money rfl rfl (Nat.le_of_ble_eq_true rfl) (Nat.le_of_ble_eq_true rfl) (s_X11_money hb9) (fun r h q => ?_)
                      obtain ⟨rfl, rfl⟩ := q
                      simp only [Option.toList, List.cons_append, List.nil_append]
                      refine r_goto rfl ?_
                      refine r_iret rfl rfl rfl ?_
                      subst he
                      exact ⟨rfl, rfl⟩
                  · rw [if_neg c_30_7] at he
                    replace hk := hk.2 c_30_7
                    refine r_tableOut (tgt := 186) rfl (by simp only [Int32.lt_iff_toInt_lt, Int32.le_iff_toInt_le, ← Int32.toInt_inj, ti_0, ti_1, ti_2, ti_3, ti_4, ti_5, ti_6, ti_7, ti_8, ti_9, ti_10, ti_11, ti_12, ti_13, ti_14, ti_15, ti_16, ti_17, ti_18, ti_19, ti_20, ti_21, ti_22, ti_23, ti_24, ti_25, ti_26, ti_27, ti_28, ti_29, ti_30, ti_31, ti_32, ti_33, ti_34, ti_35, ti_36, ti_37, ti_38, ti_39, ti_40, ti_41, ti_42, ti_43, ti_44, ti_45, ti_46, ti_47, ti_48, ti_49, ti_50, ti_51, ti_52, ti_53, ti_54, ti_55, ti_56, ti_57, ti_58, ti_59, ti_60, ti_61, ti_62, ti_63, ti_64, ti_79, ti_80, ti_90, ti_96, ti_97, ti_99, ti_100, ti_122, ti_128, ti_132, ti_136, ti_140, ti_141, ti_145, ti_255, ti_256, ti_257, ti_258, ti_259, ti_262, ti_263, ti_264, ti_265, ti_266, ti_267, ti_268, ti_276, ti_277, ti_400, ti_401, ti_408, ti_420, ti_840, ti_999, ti_1980, ti_2000, ti_9999, ti_10000, ti_10240, ti_1000000, ti_m1, ti_m2, ti_m3, ti_m4, ti_m5, ti_m6, ti_m7] at c_30_0 c_30_1 c_30_2 c_30_3 c_30_4 c_30_5 c_30_6 c_30_7; omega) (by decide) ?_
                    refine r_iconst_ (a := -1) rfl (by decide) ?_
                    refine r_iret rfl rfl rfl ?_
                    subst he
                    exact ⟨rfl, rfl⟩
  · rw [if_pos c_5] at he
    replace hk := hk.1 c_5
    refine r_iconst_ (a := -1) rfl (by decide) ?_
    refine r_iret rfl rfl rfl ?_
    subst he
    exact ⟨rfl, rfl⟩

