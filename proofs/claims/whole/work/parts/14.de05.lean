def f_X6_kindFrom (v1 : Int32) (s : fl_I) (l : fl_L) : Int32 × fl_I × fl_L :=
  if ((f_X6_isLetter (f_X4_byteAt (s 4 4) s l)) = 0) then if ((f_X6_isDigit (f_X4_byteAt (s 4 4) s l)) = 0) then if ((f_X6_isSign (f_X4_byteAt (s 4 4) s l)) = 0) then ((1 : Int32), (wi s 4 4 ((s 4 4) + (1 : Int32))), l) else ((f_X4_byteAt (s 4 4) s l), (wi s 4 4 ((s 4 4) + (1 : Int32))), l) else ((f_X6_intKind v1 s l).1, (f_X6_intKind v1 s l).2.1, (f_X6_intKind v1 s l).2.2) else ((f_X6_nameKind v1 s l).1, (f_X6_nameKind v1 s l).2.1, (f_X6_nameKind v1 s l).2.2)

def p_X6_kindFrom (v1 : Int32) (s : fl_I) (l : fl_L) : Prop :=
  (p_X4_byteAt (s 4 4) s l) ∧ (p_X6_isLetter (f_X4_byteAt (s 4 4) s l)) ∧ ((((f_X6_isLetter (f_X4_byteAt (s 4 4) s l)) = 0) → (p_X6_isDigit (f_X4_byteAt (s 4 4) s l)) ∧ ((((f_X6_isDigit (f_X4_byteAt (s 4 4) s l)) = 0) → (p_X6_isSign (f_X4_byteAt (s 4 4) s l)) ∧ ((((f_X6_isSign (f_X4_byteAt (s 4 4) s l)) = 0) → True) ∧ (¬ ((f_X6_isSign (f_X4_byteAt (s 4 4) s l)) = 0) → True))) ∧ (¬ ((f_X6_isDigit (f_X4_byteAt (s 4 4) s l)) = 0) → (p_X6_intKind v1 s l) ∧ True))) ∧ (¬ ((f_X6_isLetter (f_X4_byteAt (s 4 4) s l)) = 0) → (p_X6_nameKind v1 s l) ∧ True))

set_option maxRecDepth 100000 in
set_option maxHeartbeats 4000000 in
theorem s_X6_kindFrom {G : ab_G} {d : Nat} {D : fl_D} {s : fl_I} {l : fl_L} {v1 : Int32} (hk : p_X6_kindFrom v1 s l) : ab_C G (d + 2) 0 0 M_X6_kindFrom 0 (ab_ent [.ref 4, .ref 1, .int v1]) [] (hp D s l) (rt (some (.int (f_X6_kindFrom v1 s l).1)) (hp D (f_X6_kindFrom v1 s l).2.1 (f_X6_kindFrom v1 s l).2.2)) := by
  generalize he : (f_X6_kindFrom v1 s l) = res
  unfold f_X6_kindFrom at he
  unfold p_X6_kindFrom at hk
  refine r_weak (L1 := [some (.ref 4), some (.ref 1), some (.int v1), none]) ⟨rfl, rfl, rfl, trivial⟩ ?_
  refine r_aload_n rfl rfl ?_
  refine r_aload_n rfl rfl ?_
  refine q_getfield rfl (cc_4 _) rfl ?_
  obtain ⟨hb0, hk⟩ := hk
  refine q_callV0 [_] _ rfl kY_X4_byteAt kT_X4_byteAt rfl rfl (Nat.le_of_ble_eq_true rfl) (Nat.le_of_ble_eq_true rfl) (cc_1 _) (s_X4_byteAt hb0) (fun r h q => ?_)
  obtain ⟨rfl, rfl⟩ := q
  simp only [Option.toList, List.cons_append, List.nil_append]
  refine r_istore_n rfl (Nat.le_of_ble_eq_true rfl) rfl ?_
  refine r_iload_n rfl rfl ?_
  obtain ⟨hb1, hk⟩ := hk
  refine r_callS0 [_] _ rfl kY_X6_isLetter kT_X6_isLetter rfl rfl (Nat.le_of_ble_eq_true rfl) (Nat.le_of_ble_eq_true rfl) (s_X6_isLetter hb1) (fun r h q => ?_)
  obtain ⟨rfl, rfl⟩ := q
  simp only [Option.toList, List.cons_append, List.nil_append]
  refine r_if_eq rfl (fun c_13 => ?_) (fun c_13 => ?_)
  · rw [if_pos c_13] at he
    replace hk := hk.1 c_13
    refine r_iload_n rfl rfl ?_
    obtain ⟨hb2, hk⟩ := hk
    refine r_callS0 [_] _ rfl kY_X6_isDigit kT_X6_isDigit rfl rfl (Nat.le_of_ble_eq_true rfl) (Nat.le_of_ble_eq_true rfl) (s_X6_isDigit hb2) (fun r h q => ?_)
    obtain ⟨rfl, rfl⟩ := q
    simp only [Option.toList, List.cons_append, List.nil_append]
    refine r_if_eq rfl (fun c_27 => ?_) (fun c_27 => ?_)
    · rw [if_pos c_27] at he
      replace hk := hk.1 c_27
      refine r_aload_n rfl rfl ?_
      refine r_dup rfl rfl ?_
      refine q_getfield rfl (cc_4 _) rfl ?_
      refine r_iconst_ (a := 1) rfl (by decide) ?_
      refine r_iadd rfl ?_
      refine w_put rfl (cc_4 _) ff_6_4 ft_6_4 (Nat.le_of_ble_eq_true rfl) rfl ?_
      refine r_iload_n rfl rfl ?_
      obtain ⟨hb3, hk⟩ := hk
      refine r_callS0 [_] _ rfl kY_X6_isSign kT_X6_isSign rfl rfl (Nat.le_of_ble_eq_true rfl) (Nat.le_of_ble_eq_true rfl) (s_X6_isSign hb3) (fun r h q => ?_)
      obtain ⟨rfl, rfl⟩ := q
      simp only [Option.toList, List.cons_append, List.nil_append]
      refine r_if_eq rfl (fun c_51 => ?_) (fun c_51 => ?_)
      · rw [if_pos c_51] at he
        replace hk := hk.1 c_51
        refine r_iconst_ (a := 1) rfl (by decide) ?_
        refine r_iret rfl rfl rfl ?_
        subst he
        exact ⟨rfl, rfl⟩
      · rw [if_neg c_51] at he
        replace hk := hk.2 c_51
        refine r_iload_n rfl rfl ?_
        refine r_goto rfl ?_
        refine r_iret rfl rfl rfl ?_
        subst he
        exact ⟨rfl, rfl⟩
    · rw [if_neg c_27] at he
      replace hk := hk.2 c_27
      refine r_aload_n rfl rfl ?_
      refine r_aload_n rfl rfl ?_
      refine r_iload_n rfl rfl ?_
      obtain ⟨hb4, hk⟩ := hk
      refine q_callV0 [_, _] _ rfl kY_X6_intKind kT_X6_intKind rfl rfl (Nat.le_of_ble_eq_true rfl) (Nat.le_of_ble_eq_true rfl) (cc_4 _) (s_X6_intKind hb4) (fun r h q => ?_)
      obtain ⟨rfl, rfl⟩ := q
      simp only [Option.toList, List.cons_append, List.nil_append]
      refine r_iret rfl rfl rfl ?_
      subst he
      exact ⟨rfl, rfl⟩
  · rw [if_neg c_13] at he
    replace hk := hk.2 c_13
    refine r_aload_n rfl rfl ?_
    refine r_aload_n rfl rfl ?_
    refine r_iload_n rfl rfl ?_
    obtain ⟨hb5, hk⟩ := hk
    refine q_callV0 [_, _] _ rfl kY_X6_nameKind kT_X6_nameKind rfl rfl (Nat.le_of_ble_eq_true rfl) (Nat.le_of_ble_eq_true rfl) (cc_4 _) (s_X6_nameKind hb5) (fun r h q => ?_)
    obtain ⟨rfl, rfl⟩ := q
    simp only [Option.toList, List.cons_append, List.nil_append]
    refine r_iret rfl rfl rfl ?_
    subst he
    exact ⟨rfl, rfl⟩

def f_X12_made_19 : Nat → Int32 → Int32 → fl_I → fl_L → Int32 × fl_I × fl_L
  | 0, x2, x3, s, l => (0, s, l)
  | n + 1, x2, x3, s, l =>
    if ((s 72 (s 60 18).toNatClampNeg) ≤ x3) then (x2, s, l) else if ((f_X12_missingOf x3 s l) = 0) then f_X12_made_19 n (x2 ||| ((1 : Int32) <<< (x3 &&& 31))) (x3 + 1) s l else f_X12_made_19 n x2 (x3 + 1) s l

def p_X12_made_19 : Nat → Int32 → Int32 → fl_I → fl_L → Prop
  | 0, _, _, _, _ => False
  | n + 1, x2, x3, s, l =>
    (vp_in (s 60 18) 2) ∧ ((((s 72 (s 60 18).toNatClampNeg) ≤ x3) → True) ∧ (¬ ((s 72 (s 60 18).toNatClampNeg) ≤ x3) → (p_X12_missingOf x3 s l) ∧ ((((f_X12_missingOf x3 s l) = 0) → p_X12_made_19 n (x2 ||| ((1 : Int32) <<< (x3 &&& 31))) (x3 + 1) s l) ∧ (¬ ((f_X12_missingOf x3 s l) = 0) → p_X12_made_19 n x2 (x3 + 1) s l))))

set_option maxRecDepth 100000 in
set_option maxHeartbeats 4000000 in
theorem lp_X12_made_19 {G : ab_G} {d : Nat} {D : fl_D} : ∀ (n : Nat) (x2 : Int32) (x3 : Int32) (s : fl_I) (l : fl_L), p_X12_made_19 n x2 x3 s l → ab_C G (d + 3) 0 0 M_X12_made 19 [some (.ref 60), none, some (.int x2), some (.int x3)] [] (hp D s l) (rt (some (.int (f_X12_made_19 n x2 x3 s l).1)) (hp D (f_X12_made_19 n x2 x3 s l).2.1 (f_X12_made_19 n x2 x3 s l).2.2)) := by
  intro n
  induction n with
  | zero => intro x2 x3 s l hk; exact hk.elim
  | succ n ih =>
    intro x2 x3 s l hk
    generalize he : f_X12_made_19 (n + 1) x2 x3 s l = res
    unfold f_X12_made_19 at he
    unfold p_X12_made_19 at hk
    refine r_iload_n rfl rfl ?_
    refine r_aload_n rfl rfl ?_
    refine q_getfield rfl (cc_60 _) rfl ?_
    refine r_aload_n rfl rfl ?_
    refine q_getfield rfl (cc_60 _) rfl ?_
    obtain ⟨hb2, hk⟩ := hk
    refine q_iald rfl (cc_72 _) hb2 ?_
    refine r_icmp_ge rfl (fun c_29 => ?_) (fun c_29 => ?_)
    · rw [if_pos c_29] at he
      replace hk := hk.1 c_29
      refine r_iload_n rfl rfl ?_
      refine r_iret rfl rfl rfl ?_
      subst he
      exact ⟨rfl, rfl⟩
    · rw [if_neg c_29] at he
      replace hk := hk.2 c_29
      refine r_aload_n rfl rfl ?_
      refine r_iload_n rfl rfl ?_
      obtain ⟨hb3, hk⟩ := hk
      refine q_callV0 [_] _ rfl kY_X12_missingOf kT_X12_missingOf rfl rfl (Nat.le_of_ble_eq_true rfl) (Nat.le_of_ble_eq_true rfl) (cc_60 _) (s_X12_missingOf hb3) (fun r h q => ?_)
      obtain ⟨rfl, rfl⟩ := q
      simp only [Option.toList, List.cons_append, List.nil_append]
      refine r_if_ne rfl (fun c_37 => ?_) (fun c_37 => ?_)
      · rw [if_neg c_37] at he
        replace hk := hk.2 c_37
        refine r_iinc (b := x3 + 1) rfl rfl rfl (Nat.le_of_ble_eq_true rfl) rfl ?_
        refine r_goto rfl ?_
        subst he
        exact r_weak (L1 := [some (.ref 60), none, some (.int x2), some (.int (x3 + 1))]) ⟨rfl, rfl, rfl, trivial⟩ (ih _ _ _ _ hk)
      · rw [if_pos c_37] at he
        replace hk := hk.1 c_37
        refine r_iload_n rfl rfl ?_
        refine r_iconst_ (a := 1) rfl (by decide) ?_
        refine r_iload_n rfl rfl ?_
        refine r_ishl rfl ?_
        refine r_ior rfl ?_
        refine r_istore_n rfl (Nat.le_of_ble_eq_true rfl) rfl ?_
        refine r_iinc (b := x3 + 1) rfl rfl rfl (Nat.le_of_ble_eq_true rfl) rfl ?_
        refine r_goto rfl ?_
        subst he
        exact r_weak (L1 := [some (.ref 60), none, some (.int (x2 ||| ((1 : Int32) <<< (x3 &&& 31)))), some (.int (x3 + 1))]) ⟨rfl, rfl, rfl, trivial⟩ (ih _ _ _ _ hk)

def f_X12_made (v0 : Int32) (s : fl_I) (l : fl_L) : Int32 × fl_I × fl_L :=
  if ((f_X12_isHeap v0 s l) = 0) then ((-1 : Int32), s, l) else f_X12_made_19 fu (0 : Int32) (0 : Int32) (f_X12_fillsHeap v0 s l).1 (f_X12_fillsHeap v0 s l).2

def p_X12_made (v0 : Int32) (s : fl_I) (l : fl_L) : Prop :=
  (p_X12_isHeap v0 s l) ∧ ((((f_X12_isHeap v0 s l) = 0) → True) ∧ (¬ ((f_X12_isHeap v0 s l) = 0) → (p_X12_fillsHeap v0 s l) ∧ p_X12_made_19 fu (0 : Int32) (0 : Int32) (f_X12_fillsHeap v0 s l).1 (f_X12_fillsHeap v0 s l).2))

set_option maxRecDepth 100000 in
set_option maxHeartbeats 4000000 in
theorem s_X12_made {G : ab_G} {d : Nat} {D : fl_D} {s : fl_I} {l : fl_L} {v0 : Int32} (hk : p_X12_made v0 s l) : ab_C G (d + 3) 0 0 M_X12_made 0 (ab_ent [.ref 60, .int v0]) [] (hp D s l) (rt (some (.int (f_X12_made v0 s l).1)) (hp D (f_X12_made v0 s l).2.1 (f_X12_made v0 s l).2.2)) := by
  generalize he : (f_X12_made v0 s l) = res
  unfold f_X12_made at he
  unfold p_X12_made at hk
  refine r_weak (L1 := [some (.ref 60), some (.int v0), none, none]) ⟨rfl, rfl, trivial⟩ ?_
  refine r_aload_n rfl rfl ?_
  refine r_iload_n rfl rfl ?_
  obtain ⟨hb0, hk⟩ := hk
  refine q_callV0 [_] _ rfl kY_X12_isHeap kT_X12_isHeap rfl rfl (Nat.le_of_ble_eq_true rfl) (Nat.le_of_ble_eq_true rfl) (cc_60 _) (s_X12_isHeap hb0) (fun r h q => ?_)
  obtain ⟨rfl, rfl⟩ := q
  simp only [Option.toList, List.cons_append, List.nil_append]
  refine r_if_ne rfl (fun c_5 => ?_) (fun c_5 => ?_)
  · rw [if_neg c_5] at he
    replace hk := hk.2 c_5
    refine r_aload_n rfl rfl ?_
    refine r_iload_n rfl rfl ?_
    obtain ⟨hb1, hk⟩ := hk
    refine q_callV0 [_] _ rfl kY_X12_fillsHeap kT_X12_fillsHeap rfl rfl (Nat.le_of_ble_eq_true rfl) (Nat.le_of_ble_eq_true rfl) (cc_60 _) (s_X12_fillsHeap hb1) (fun r h q => ?_)
    obtain ⟨rfl, rfl⟩ := q
    simp only [Option.toList, List.cons_append, List.nil_append]
    refine r_iconst_ (a := 0) rfl (by decide) ?_
    refine r_istore_n rfl (Nat.le_of_ble_eq_true rfl) rfl ?_
    refine r_iconst_ (a := 0) rfl (by decide) ?_
    refine r_istore_n rfl (Nat.le_of_ble_eq_true rfl) rfl ?_
    subst he
    exact r_weak (L1 := [some (.ref 60), none, some (.int (0 : Int32)), some (.int (0 : Int32))]) ⟨rfl, rfl, rfl, trivial⟩ (lp_X12_made_19 fu _ _ _ _ hk)
  · rw [if_pos c_5] at he
    replace hk := hk.1 c_5
    refine r_iconst_ (a := -1) rfl (by decide) ?_
    refine r_iret rfl rfl rfl ?_
    subst he
    exact ⟨rfl, rfl⟩

def f_X12_named_14 : Nat → Int32 → Int32 → Int32 → Int32 → Nat → Nat → fl_I → fl_L → Int64 × fl_I × fl_L
  | 0, x2, x3, x4, x5, q, z, s, l => (0, s, l)
  | n + 1, x2, x3, x4, x5, q, z, s, l =>
    if ((x2 + x3) ≤ x5) then ((l 66 x4.toNatClampNeg), s, l) else if ((s 60 13) = 0) then if ((lg_cmp (l q x5.toNatClampNeg) (l 66 x4.toNatClampNeg)) = 0) then f_X12_named_14 n x2 x3 x4 (x5 + 1) q z (f_X12_wrong (3 : Int32) x4 s l).1 (f_X12_wrong (3 : Int32) x4 s l).2 else f_X12_named_14 n x2 x3 x4 (x5 + 1) q z s l else ((l 66 x4.toNatClampNeg), s, l)

def p_X12_named_14 : Nat → Int32 → Int32 → Int32 → Int32 → Nat → Nat → fl_I → fl_L → Prop
  | 0, _, _, _, _, _, _, _, _ => False
  | n + 1, x2, x3, x4, x5, q, z, s, l =>
    ((((x2 + x3) ≤ x5) → (vp_in x4 403) ∧ True) ∧ (¬ ((x2 + x3) ≤ x5) → ((((s 60 13) = 0) → (vp_in x5 z) ∧ (vp_in x4 403) ∧ ((((lg_cmp (l q x5.toNatClampNeg) (l 66 x4.toNatClampNeg)) = 0) → (p_X12_wrong (3 : Int32) x4 s l) ∧ p_X12_named_14 n x2 x3 x4 (x5 + 1) q z (f_X12_wrong (3 : Int32) x4 s l).1 (f_X12_wrong (3 : Int32) x4 s l).2) ∧ (¬ ((lg_cmp (l q x5.toNatClampNeg) (l 66 x4.toNatClampNeg)) = 0) → p_X12_named_14 n x2 x3 x4 (x5 + 1) q z s l))) ∧ (¬ ((s 60 13) = 0) → (vp_in x4 403) ∧ True))))

set_option maxRecDepth 100000 in
set_option maxHeartbeats 4000000 in
theorem lp_X12_named_14 {G : ab_G} {d : Nat} {D : fl_D} {q z : Nat} (hcq : ∀ f g, cl D q f g = some (.inl (1, z, .inr (.inl g)))) : ∀ (n : Nat) (x2 : Int32) (x3 : Int32) (x4 : Int32) (x5 : Int32) (s : fl_I) (l : fl_L), p_X12_named_14 n x2 x3 x4 x5 q z s l → ab_C G (d + 3) 0 0 M_X12_named 14 [some (.ref 60), some (.ref q), some (.int x2), some (.int x3), some (.int x4), some (.int x5)] [] (hp D s l) (rt (some (.long (f_X12_named_14 n x2 x3 x4 x5 q z s l).1)) (hp D (f_X12_named_14 n x2 x3 x4 x5 q z s l).2.1 (f_X12_named_14 n x2 x3 x4 x5 q z s l).2.2)) := by
  intro n
  induction n with
  | zero => intro x2 x3 x4 x5 s l hk; exact hk.elim
  | succ n ih =>
    intro x2 x3 x4 x5 s l hk
    generalize he : f_X12_named_14 (n + 1) x2 x3 x4 x5 q z s l = res
    unfold f_X12_named_14 at he
    unfold p_X12_named_14 at hk
    refine r_iload rfl rfl ?_
    refine r_iload_n rfl rfl ?_
    refine r_iload_n rfl rfl ?_
    refine r_iadd rfl ?_
    refine r_icmp_ge rfl (fun c_19 => ?_) (fun c_19 => ?_)
    · rw [if_pos c_19] at he
      replace hk := hk.1 c_19
      refine r_aload_n rfl rfl ?_
      refine q_getfield rfl (cc_60 _) rfl ?_
      refine r_iload rfl rfl ?_
      obtain ⟨hb1, hk⟩ := hk
      refine q_lald rfl (cc_66 _) hb1 ?_
      refine r_lret rfl rfl ?_
      subst he
      exact ⟨rfl, rfl⟩
    · rw [if_neg c_19] at he
      replace hk := hk.2 c_19
      refine r_aload_n rfl rfl ?_
      refine q_getfield rfl (cc_60 _) rfl ?_
      refine r_if_ne rfl (fun c_26 => ?_) (fun c_26 => ?_)
      · rw [if_neg c_26] at he
        replace hk := hk.2 c_26
        refine r_aload_n rfl rfl ?_
        refine q_getfield rfl (cc_60 _) rfl ?_
        refine r_iload rfl rfl ?_
        obtain ⟨hb2, hk⟩ := hk
        refine q_lald rfl (cc_66 _) hb2 ?_
        refine r_lret rfl rfl ?_
        subst he
        exact ⟨rfl, rfl⟩
      · rw [if_pos c_26] at he
        replace hk := hk.1 c_26
        refine r_aload_n rfl rfl ?_
        refine r_iload rfl rfl ?_
        obtain ⟨hb3, hk⟩ := hk
        refine q_lald rfl hcq hb3 ?_
        refine r_aload_n rfl rfl ?_
        refine q_getfield rfl (cc_60 _) rfl ?_
        refine r_iload rfl rfl ?_
        obtain ⟨hb4, hk⟩ := hk
        refine q_lald rfl (cc_66 _) hb4 ?_
        refine r_lcmp rfl ?_
        refine r_if_ne rfl (fun c_41 => ?_) (fun c_41 => ?_)
        · rw [if_neg c_41] at he
          replace hk := hk.2 c_41
          refine r_iinc (b := x5 + 1) rfl rfl rfl (Nat.le_of_ble_eq_true rfl) rfl ?_
          refine r_goto rfl ?_
          subst he
          exact r_weak (L1 := [some (.ref 60), some (.ref q), some (.int x2), some (.int x3), some (.int x4), some (.int (x5 + 1))]) ⟨rfl, rfl, rfl, rfl, rfl, rfl, trivial⟩ (ih _ _ _ _ _ _ hk)
        · rw [if_pos c_41] at he
          replace hk := hk.1 c_41
          refine r_aload_n rfl rfl ?_
          refine r_iconst_ (a := 3) rfl (by decide) ?_
          refine r_iload rfl rfl ?_
          obtain ⟨hb5, hk⟩ := hk
          refine q_callV0 [_, _] _ rfl kY_X12_wrong kT_X12_wrong rfl rfl (Nat.le_of_ble_eq_true rfl) (Nat.le_of_ble_eq_true rfl) (cc_60 _) (s_X12_wrong hb5) (fun r h q => ?_)
          obtain ⟨rfl, rfl⟩ := q
          simp only [Option.toList, List.cons_append, List.nil_append]
          refine r_iinc (b := x5 + 1) rfl rfl rfl (Nat.le_of_ble_eq_true rfl) rfl ?_
          refine r_goto rfl ?_
          subst he
          exact r_weak (L1 := [some (.ref 60), some (.ref q), some (.int x2), some (.int x3), some (.int x4), some (.int (x5 + 1))]) ⟨rfl, rfl, rfl, rfl, rfl, rfl, trivial⟩ (ih _ _ _ _ _ _ hk)

def f_X12_named (v1 : Int32) (v2 : Int32) (q : Nat) (z : Nat) (s : fl_I) (l : fl_L) : Int64 × fl_I × fl_L :=
  f_X12_named_14 fu v1 v2 (s 60 11) v1 q z (f_X12_must (1 : Int32) s l).1 (f_X12_must (1 : Int32) s l).2

def p_X12_named (v1 : Int32) (v2 : Int32) (q : Nat) (z : Nat) (s : fl_I) (l : fl_L) : Prop :=
  (p_X12_must (1 : Int32) s l) ∧ p_X12_named_14 fu v1 v2 (s 60 11) v1 q z (f_X12_must (1 : Int32) s l).1 (f_X12_must (1 : Int32) s l).2

set_option maxRecDepth 100000 in
set_option maxHeartbeats 4000000 in
theorem s_X12_named {G : ab_G} {d : Nat} {D : fl_D} {s : fl_I} {l : fl_L} {q z : Nat} (hcq : ∀ f g, cl D q f g = some (.inl (1, z, .inr (.inl g)))) {v1 : Int32} {v2 : Int32} (hk : p_X12_named v1 v2 q z s l) : ab_C G (d + 3) 0 0 M_X12_named 0 (ab_ent [.ref 60, .ref q, .int v1, .int v2]) [] (hp D s l) (rt (some (.long (f_X12_named v1 v2 q z s l).1)) (hp D (f_X12_named v1 v2 q z s l).2.1 (f_X12_named v1 v2 q z s l).2.2)) := by
  generalize he : (f_X12_named v1 v2 q z s l) = res
  unfold f_X12_named at he
  unfold p_X12_named at hk
  refine r_weak (L1 := [some (.ref 60), some (.ref q), some (.int v1), some (.int v2), none, none]) ⟨rfl, rfl, rfl, rfl, trivial⟩ ?_
  refine r_aload_n rfl rfl ?_
  refine q_getfield rfl (cc_60 _) rfl ?_
  refine r_istore rfl (Nat.le_of_ble_eq_true rfl) rfl ?_
  refine r_aload_n rfl rfl ?_
  refine r_iconst_ (a := 1) rfl (by decide) ?_
  obtain ⟨hb0, hk⟩ := hk
  refine q_callV0 [_] _ rfl kY_X12_must kT_X12_must rfl rfl (Nat.le_of_ble_eq_true rfl) (Nat.le_of_ble_eq_true rfl) (cc_60 _) (s_X12_must hb0) (fun r h q => ?_)
  obtain ⟨rfl, rfl⟩ := q
  simp only [Option.toList, List.cons_append, List.nil_append]
  refine r_iload_n rfl rfl ?_
  refine r_istore rfl (Nat.le_of_ble_eq_true rfl) rfl ?_
  subst he
  exact r_weak (L1 := [some (.ref 60), some (.ref q), some (.int v1), some (.int v2), some (.int (s 60 11)), some (.int v1)]) ⟨rfl, rfl, rfl, rfl, rfl, rfl, trivial⟩ (lp_X12_named_14 hcq fu _ _ _ _ _ _ hk)

def f_X8_firstCell_12 : Nat → Int32 → Int32 → Int32 → fl_D → fl_I → fl_L → Int32
  | 0, _, _, _, _, _, _ => 0
  | n + 1, x1, x2, x3, D, s, l =>
    if ((s 51 0) ≤ x3) then (-2 : Int32) else if (((f_X11_apart x1 (s 52 x3.toNatClampNeg)) + (s D.2.2.2.1 (f_X8_index (f_X8_all s l) x3).toNatClampNeg)) = x2) then (s 52 x3.toNatClampNeg) else f_X8_firstCell_12 n x1 x2 (x3 + 1) D s l

def p_X8_firstCell_12 : Nat → Int32 → Int32 → Int32 → fl_D → fl_I → fl_L → Prop
  | 0, _, _, _, _, _, _ => False
  | n + 1, x1, x2, x3, D, s, l =>
    ((((s 51 0) ≤ x3) → True) ∧ (¬ ((s 51 0) ≤ x3) → (vp_in x3 10) ∧ (p_X11_apart x1 (s 52 x3.toNatClampNeg)) ∧ (p_X8_all s l) ∧ (p_X8_index (f_X8_all s l) x3) ∧ (vp_in (f_X8_index (f_X8_all s l) x3) 10240) ∧ (((((f_X11_apart x1 (s 52 x3.toNatClampNeg)) + (s D.2.2.2.1 (f_X8_index (f_X8_all s l) x3).toNatClampNeg)) = x2) → (vp_in x3 10) ∧ True) ∧ (¬ (((f_X11_apart x1 (s 52 x3.toNatClampNeg)) + (s D.2.2.2.1 (f_X8_index (f_X8_all s l) x3).toNatClampNeg)) = x2) → p_X8_firstCell_12 n x1 x2 (x3 + 1) D s l))))

set_option maxRecDepth 100000 in
set_option maxHeartbeats 4000000 in
theorem lp_X8_firstCell_12 {G : ab_G} {d : Nat} {D : fl_D} {s : fl_I} {l : fl_L} (hfr : ∀ f g, cl D D.2.2.2.1 f g = some (.inl (0, 10240, .inl f))) : ∀ (n : Nat) (x1 : Int32) (x2 : Int32) (x3 : Int32), p_X8_firstCell_12 n x1 x2 x3 D s l → ab_C G (d + 2) 0 0 M_X8_firstCell 12 [some (.ref 51), some (.int x1), some (.int x2), some (.int x3)] [] (hp D s l) (rt (some (.int (f_X8_firstCell_12 n x1 x2 x3 D s l))) (hp D s l)) := by
  intro n
  induction n with
  | zero => intro x1 x2 x3 hk; exact hk.elim
  | succ n ih =>
    intro x1 x2 x3 hk
    generalize he : f_X8_firstCell_12 (n + 1) x1 x2 x3 D s l = res
    unfold f_X8_firstCell_12 at he
    unfold p_X8_firstCell_12 at hk
    refine r_iload_n rfl rfl ?_
    refine r_aload_n rfl rfl ?_
    refine q_getfield rfl (cc_51 _) rfl ?_
    refine r_icmp_ge rfl (fun c_17 => ?_) (fun c_17 => ?_)
    · rw [if_pos c_17] at he
      replace hk := hk.1 c_17
      refine r_bipush_ (a := -2) rfl (by decide) ?_
      refine r_iret rfl rfl rfl ?_
      subst he
      exact ⟨rfl, rfl⟩
    · rw [if_neg c_17] at he
      replace hk := hk.2 c_17
      refine r_iload_n rfl rfl ?_
      refine r_aload_n rfl rfl ?_
      refine q_getfield rfl (cc_51 _) rfl ?_
      refine r_iload_n rfl rfl ?_
      obtain ⟨hb2, hk⟩ := hk
      refine q_iald rfl (cc_52 _) hb2 ?_
      obtain ⟨hb3, hk⟩ := hk
      refine r_callSN0 [_, _] _ rfl kY_X11_apart kT_X11_apart rfl rfl (Nat.le_of_ble_eq_true rfl) (Nat.le_of_ble_eq_true rfl) (s_X11_apart hb3) (fun r h q => ?_)
      obtain ⟨rfl, rfl⟩ := q
      simp only [Option.toList, List.cons_append, List.nil_append]
      refine r_aload_n rfl rfl ?_
      refine q_getfield rfl (cc_51 _) rfl ?_
      refine r_aload_n rfl rfl ?_
      obtain ⟨hb4, hk⟩ := hk
      refine q_callV0 [] _ rfl kY_X8_all kT_X8_all rfl rfl (Nat.le_of_ble_eq_true rfl) (Nat.le_of_ble_eq_true rfl) (cc_51 _) (s_X8_all hb4) (fun r h q => ?_)
      obtain ⟨rfl, rfl⟩ := q
      simp only [Option.toList, List.cons_append, List.nil_append]
      refine r_iload_n rfl rfl ?_
      obtain ⟨hb5, hk⟩ := hk
      refine r_callS0 [_, _] _ rfl kY_X8_index kT_X8_index rfl rfl (Nat.le_of_ble_eq_true rfl) (Nat.le_of_ble_eq_true rfl) (s_X8_index hb5) (fun r h q => ?_)
      obtain ⟨rfl, rfl⟩ := q
      simp only [Option.toList, List.cons_append, List.nil_append]
      obtain ⟨hb6, hk⟩ := hk
      refine q_iald rfl hfr hb6 ?_
      refine r_iadd rfl ?_
      refine r_iload_n rfl rfl ?_
      refine r_icmp_ne rfl (fun c_45 => ?_) (fun c_45 => ?_)
      · rw [if_neg c_45] at he
        replace hk := hk.2 c_45
        refine r_iinc (b := x3 + 1) rfl rfl rfl (Nat.le_of_ble_eq_true rfl) rfl ?_
        refine r_goto rfl ?_
        subst he
        exact r_weak (L1 := [some (.ref 51), some (.int x1), some (.int x2), some (.int (x3 + 1))]) ⟨rfl, rfl, rfl, rfl, trivial⟩ (ih _ _ _ hk)
      · rw [if_pos c_45] at he
        replace hk := hk.1 c_45
        refine r_aload_n rfl rfl ?_
        refine q_getfield rfl (cc_51 _) rfl ?_
        refine r_iload_n rfl rfl ?_
        obtain ⟨hb7, hk⟩ := hk
        refine q_iald rfl (cc_52 _) hb7 ?_
        refine r_iret rfl rfl rfl ?_
        subst he
        exact ⟨rfl, rfl⟩

def f_X8_firstCell (v0 : Int32) (D : fl_D) (s : fl_I) (l : fl_L) : Int32 :=
  f_X8_firstCell_12 fu v0 (f_X8_fewest v0 (f_X8_all s l) D s l) (0 : Int32) D s l

def p_X8_firstCell (v0 : Int32) (D : fl_D) (s : fl_I) (l : fl_L) : Prop :=
  (p_X8_all s l) ∧ (p_X8_fewest v0 (f_X8_all s l) D s l) ∧ p_X8_firstCell_12 fu v0 (f_X8_fewest v0 (f_X8_all s l) D s l) (0 : Int32) D s l

set_option maxRecDepth 100000 in
set_option maxHeartbeats 4000000 in
theorem s_X8_firstCell {G : ab_G} {d : Nat} {D : fl_D} {s : fl_I} {l : fl_L} (hfr : ∀ f g, cl D D.2.2.2.1 f g = some (.inl (0, 10240, .inl f))) {v0 : Int32} (hk : p_X8_firstCell v0 D s l) : ab_C G (d + 2) 0 0 M_X8_firstCell 0 (ab_ent [.ref 51, .int v0]) [] (hp D s l) (rt (some (.int (f_X8_firstCell v0 D s l))) (hp D s l)) := by
  generalize he : (f_X8_firstCell v0 D s l) = res
  unfold f_X8_firstCell at he
  unfold p_X8_firstCell at hk
  refine r_weak (L1 := [some (.ref 51), some (.int v0), none, none]) ⟨rfl, rfl, trivial⟩ ?_
  refine r_aload_n rfl rfl ?_
  refine r_iload_n rfl rfl ?_
  refine r_aload_n rfl rfl ?_
  obtain ⟨hb0, hk⟩ := hk
  refine q_callV0 [] _ rfl kY_X8_all kT_X8_all rfl rfl (Nat.le_of_ble_eq_true rfl) (Nat.le_of_ble_eq_true rfl) (cc_51 _) (s_X8_all hb0) (fun r h q => ?_)
  obtain ⟨rfl, rfl⟩ := q
  simp only [Option.toList, List.cons_append, List.nil_append]
  obtain ⟨hb1, hk⟩ := hk
  refine q_callV0 [_, _] _ rfl kY_X8_fewest kT_X8_fewest rfl rfl (Nat.le_of_ble_eq_true rfl) (Nat.le_of_ble_eq_true rfl) (cc_51 _) (s_X8_fewest hfr hb1) (fun r h q => ?_)
  obtain ⟨rfl, rfl⟩ := q
  simp only [Option.toList, List.cons_append, List.nil_append]
  refine r_istore_n rfl (Nat.le_of_ble_eq_true rfl) rfl ?_
  refine r_iconst_ (a := 0) rfl (by decide) ?_
  refine r_istore_n rfl (Nat.le_of_ble_eq_true rfl) rfl ?_
  subst he
  exact r_weak (L1 := [some (.ref 51), some (.int v0), some (.int (f_X8_fewest v0 (f_X8_all s l) D s l)), some (.int (0 : Int32))]) ⟨rfl, rfl, rfl, rfl, trivial⟩ (lp_X8_firstCell_12 hfr fu _ _ _ hk)

def f_X12_longest_20 : Nat → Int32 → Int32 → fl_I → fl_L → Int32 × fl_I × fl_L
  | 0, x2, x3, s, l => (0, s, l)
  | n + 1, x2, x3, s, l =>
    if ((s 72 (s 60 18).toNatClampNeg) ≤ x3) then (x2, s, l) else if ((f_X12_missingOf x3 s l) = 0) then if (x2 < 0) then f_X12_longest_20 n x3 (x3 + 1) s l else if ((f_X12_lengthOf (f_X12_wordAt x3 s l)) ≤ (f_X12_lengthOf (f_X12_wordAt x2 s l))) then f_X12_longest_20 n x2 (x3 + 1) s l else f_X12_longest_20 n x3 (x3 + 1) s l else f_X12_longest_20 n x2 (x3 + 1) s l

def p_X12_longest_20 : Nat → Int32 → Int32 → fl_I → fl_L → Prop
  | 0, _, _, _, _ => False
  | n + 1, x2, x3, s, l =>
    (vp_in (s 60 18) 2) ∧ ((((s 72 (s 60 18).toNatClampNeg) ≤ x3) → True) ∧ (¬ ((s 72 (s 60 18).toNatClampNeg) ≤ x3) → (p_X12_missingOf x3 s l) ∧ ((((f_X12_missingOf x3 s l) = 0) → (((x2 < 0) → p_X12_longest_20 n x3 (x3 + 1) s l) ∧ (¬ (x2 < 0) → (p_X12_wordAt x3 s l) ∧ (p_X12_lengthOf (f_X12_wordAt x3 s l)) ∧ (p_X12_wordAt x2 s l) ∧ (p_X12_lengthOf (f_X12_wordAt x2 s l)) ∧ ((((f_X12_lengthOf (f_X12_wordAt x3 s l)) ≤ (f_X12_lengthOf (f_X12_wordAt x2 s l))) → p_X12_longest_20 n x2 (x3 + 1) s l) ∧ (¬ ((f_X12_lengthOf (f_X12_wordAt x3 s l)) ≤ (f_X12_lengthOf (f_X12_wordAt x2 s l))) → p_X12_longest_20 n x3 (x3 + 1) s l))))) ∧ (¬ ((f_X12_missingOf x3 s l) = 0) → p_X12_longest_20 n x2 (x3 + 1) s l))))

set_option maxRecDepth 100000 in
set_option maxHeartbeats 4000000 in
theorem lp_X12_longest_20 {G : ab_G} {d : Nat} {D : fl_D} : ∀ (n : Nat) (x2 : Int32) (x3 : Int32) (s : fl_I) (l : fl_L), p_X12_longest_20 n x2 x3 s l → ab_C G (d + 3) 0 0 M_X12_longest 20 [some (.ref 60), none, some (.int x2), some (.int x3)] [] (hp D s l) (rt (some (.int (f_X12_longest_20 n x2 x3 s l).1)) (hp D (f_X12_longest_20 n x2 x3 s l).2.1 (f_X12_longest_20 n x2 x3 s l).2.2)) := by
  intro n
  induction n with
  | zero => intro x2 x3 s l hk; exact hk.elim
  | succ n ih =>
    intro x2 x3 s l hk
    generalize he : f_X12_longest_20 (n + 1) x2 x3 s l = res
    unfold f_X12_longest_20 at he
    unfold p_X12_longest_20 at hk
    refine r_iload_n rfl rfl ?_
    refine r_aload_n rfl rfl ?_
    refine q_getfield rfl (cc_60 _) rfl ?_
    refine r_aload_n rfl rfl ?_
    refine q_getfield rfl (cc_60 _) rfl ?_
    obtain ⟨hb2, hk⟩ := hk
    refine q_iald rfl (cc_72 _) hb2 ?_
    refine r_icmp_ge rfl (fun c_30 => ?_) (fun c_30 => ?_)
    · rw [if_pos c_30] at he
      replace hk := hk.1 c_30
      refine r_iload_n rfl rfl ?_
      refine r_iret rfl rfl rfl ?_
      subst he
      exact ⟨rfl, rfl⟩
    · rw [if_neg c_30] at he
      replace hk := hk.2 c_30
      refine r_aload_n rfl rfl ?_
      refine r_iload_n rfl rfl ?_
      obtain ⟨hb3, hk⟩ := hk
      refine q_callV0 [_] _ rfl kY_X12_missingOf kT_X12_missingOf rfl rfl (Nat.le_of_ble_eq_true rfl) (Nat.le_of_ble_eq_true rfl) (cc_60 _) (s_X12_missingOf hb3) (fun r h q => ?_)
      obtain ⟨rfl, rfl⟩ := q
      simp only [Option.toList, List.cons_append, List.nil_append]
      refine r_if_ne rfl (fun c_38 => ?_) (fun c_38 => ?_)
      · rw [if_neg c_38] at he
        replace hk := hk.2 c_38
        refine r_iinc (b := x3 + 1) rfl rfl rfl (Nat.le_of_ble_eq_true rfl) rfl ?_
        refine r_goto rfl ?_
        subst he
        exact r_weak (L1 := [some (.ref 60), none, some (.int x2), some (.int (x3 + 1))]) ⟨rfl, rfl, rfl, trivial⟩ (ih _ _ _ _ hk)
      · rw [if_pos c_38] at he
        replace hk := hk.1 c_38
        refine r_iload_n rfl rfl ?_
        refine r_if_lt rfl (fun c_42 => ?_) (fun c_42 => ?_)
        · rw [if_pos c_42] at he
          replace hk := hk.1 c_42
          refine r_iload_n rfl rfl ?_
          refine r_istore_n rfl (Nat.le_of_ble_eq_true rfl) rfl ?_
          refine r_iinc (b := x3 + 1) rfl rfl rfl (Nat.le_of_ble_eq_true rfl) rfl ?_
          refine r_goto rfl ?_
          subst he
          exact r_weak (L1 := [some (.ref 60), none, some (.int x3), some (.int (x3 + 1))]) ⟨rfl, rfl, rfl, trivial⟩ (ih _ _ _ _ hk)
        · rw [if_neg c_42] at he
          replace hk := hk.2 c_42
          refine r_aload_n rfl rfl ?_
          refine r_iload_n rfl rfl ?_
          obtain ⟨hb4, hk⟩ := hk
          refine q_callV0 [_] _ rfl kY_X12_wordAt kT_X12_wordAt rfl rfl (Nat.le_of_ble_eq_true rfl) (Nat.le_of_ble_eq_true rfl) (cc_60 _) (s_X12_wordAt hb4) (fun r h q => ?_)
          obtain ⟨rfl, rfl⟩ := q
          simp only [Option.toList, List.cons_append, List.nil_append]
          obtain ⟨hb5, hk⟩ := hk
          refine r_callS0 [_] _ rfl kY_X12_lengthOf kT_X12_lengthOf rfl rfl (Nat.le_of_ble_eq_true rfl) (Nat.le_of_ble_eq_true rfl) (s_X12_lengthOf hb5) (fun r h q => ?_)
          obtain ⟨rfl, rfl⟩ := q
          simp only [Option.toList, List.cons_append, List.nil_append]
          refine r_aload_n rfl rfl ?_
          refine r_iload_n rfl rfl ?_
          obtain ⟨hb6, hk⟩ := hk
          refine q_callV0 [_] _ rfl kY_X12_wordAt kT_X12_wordAt rfl rfl (Nat.le_of_ble_eq_true rfl) (Nat.le_of_ble_eq_true rfl) (cc_60 _) (s_X12_wordAt hb6) (fun r h q => ?_)
          obtain ⟨rfl, rfl⟩ := q
          simp only [Option.toList, List.cons_append, List.nil_append]
          obtain ⟨hb7, hk⟩ := hk
          refine r_callS0 [_] _ rfl kY_X12_lengthOf kT_X12_lengthOf rfl rfl (Nat.le_of_ble_eq_true rfl) (Nat.le_of_ble_eq_true rfl) (s_X12_lengthOf hb7) (fun r h q => ?_)
          obtain ⟨rfl, rfl⟩ := q
          simp only [Option.toList, List.cons_append, List.nil_append]
          refine r_icmp_le rfl (fun c_61 => ?_) (fun c_61 => ?_)
          · rw [if_pos c_61] at he
            replace hk := hk.1 c_61
            refine r_iinc (b := x3 + 1) rfl rfl rfl (Nat.le_of_ble_eq_true rfl) rfl ?_
            refine r_goto rfl ?_
            subst he
            exact r_weak (L1 := [some (.ref 60), none, some (.int x2), some (.int (x3 + 1))]) ⟨rfl, rfl, rfl, trivial⟩ (ih _ _ _ _ hk)
          · rw [if_neg c_61] at he
            replace hk := hk.2 c_61
            refine r_iload_n rfl rfl ?_
            refine r_istore_n rfl (Nat.le_of_ble_eq_true rfl) rfl ?_
            refine r_iinc (b := x3 + 1) rfl rfl rfl (Nat.le_of_ble_eq_true rfl) rfl ?_
            refine r_goto rfl ?_
            subst he
            exact r_weak (L1 := [some (.ref 60), none, some (.int x3), some (.int (x3 + 1))]) ⟨rfl, rfl, rfl, trivial⟩ (ih _ _ _ _ hk)

def f_X12_longest (v0 : Int32) (s : fl_I) (l : fl_L) : Int32 × fl_I × fl_L :=
  if ((f_X12_isHeap v0 s l) = 0) then ((-1 : Int32), s, l) else f_X12_longest_20 fu (-2 : Int32) (0 : Int32) (f_X12_fillsHeap v0 s l).1 (f_X12_fillsHeap v0 s l).2

def p_X12_longest (v0 : Int32) (s : fl_I) (l : fl_L) : Prop :=
  (p_X12_isHeap v0 s l) ∧ ((((f_X12_isHeap v0 s l) = 0) → True) ∧ (¬ ((f_X12_isHeap v0 s l) = 0) → (p_X12_fillsHeap v0 s l) ∧ p_X12_longest_20 fu (-2 : Int32) (0 : Int32) (f_X12_fillsHeap v0 s l).1 (f_X12_fillsHeap v0 s l).2))

set_option maxRecDepth 100000 in
set_option maxHeartbeats 4000000 in
theorem s_X12_longest {G : ab_G} {d : Nat} {D : fl_D} {s : fl_I} {l : fl_L} {v0 : Int32} (hk : p_X12_longest v0 s l) : ab_C G (d + 3) 0 0 M_X12_longest 0 (ab_ent [.ref 60, .int v0]) [] (hp D s l) (rt (some (.int (f_X12_longest v0 s l).1)) (hp D (f_X12_longest v0 s l).2.1 (f_X12_longest v0 s l).2.2)) := by
  generalize he : (f_X12_longest v0 s l) = res
  unfold f_X12_longest at he
  unfold p_X12_longest at hk
  refine r_weak (L1 := [some (.ref 60), some (.int v0), none, none]) ⟨rfl, rfl, trivial⟩ ?_
  refine r_aload_n rfl rfl ?_
  refine r_iload_n rfl rfl ?_
  obtain ⟨hb0, hk⟩ := hk
  refine q_callV0 [_] _ rfl kY_X12_isHeap kT_X12_isHeap rfl rfl (Nat.le_of_ble_eq_true rfl) (Nat.le_of_ble_eq_true rfl) (cc_60 _) (s_X12_isHeap hb0) (fun r h q => ?_)
  obtain ⟨rfl, rfl⟩ := q
  simp only [Option.toList, List.cons_append, List.nil_append]
  refine r_if_ne rfl (fun c_5 => ?_) (fun c_5 => ?_)
  · rw [if_neg c_5] at he
    replace hk := hk.2 c_5
    refine r_aload_n rfl rfl ?_
    refine r_iload_n rfl rfl ?_
    obtain ⟨hb1, hk⟩ := hk
    refine q_callV0 [_] _ rfl kY_X12_fillsHeap kT_X12_fillsHeap rfl rfl (Nat.le_of_ble_eq_true rfl) (Nat.le_of_ble_eq_true rfl) (cc_60 _) (s_X12_fillsHeap hb1) (fun r h q => ?_)
    obtain ⟨rfl, rfl⟩ := q
    simp only [Option.toList, List.cons_append, List.nil_append]
    refine r_bipush_ (a := -2) rfl (by decide) ?_
    refine r_istore_n rfl (Nat.le_of_ble_eq_true rfl) rfl ?_
    refine r_iconst_ (a := 0) rfl (by decide) ?_
    refine r_istore_n rfl (Nat.le_of_ble_eq_true rfl) rfl ?_
    subst he
    exact r_weak (L1 := [some (.ref 60), none, some (.int (-2 : Int32)), some (.int (0 : Int32))]) ⟨rfl, rfl, rfl, trivial⟩ (lp_X12_longest_20 fu _ _ _ _ hk)
  · rw [if_pos c_5] at he
    replace hk := hk.1 c_5
    refine r_iconst_ (a := -1) rfl (by decide) ?_
    refine r_iret rfl rfl rfl ?_
    subst he
    exact ⟨rfl, rfl⟩

def f_X12_together_20 : Nat → Int32 → Int32 → Int32 → fl_I → fl_L → Int32 × fl_I × fl_L
  | 0, x1, x2, x3, s, l => (0, s, l)
  | n + 1, x1, x2, x3, s, l =>
    if (((1 : Int32) <<< ((s 72 (s 60 18).toNatClampNeg) &&& 31)) ≤ x3) then if (x1 = 0) then ((f_X12_bits x2), s, l) else (x2, s, l) else if ((f_X12_bits x3) ≤ (f_X12_bits x2)) then f_X12_together_20 n x1 x2 (x3 + 1) s l else if ((f_X12_areMade x3 s l) = 0) then f_X12_together_20 n x1 x2 (x3 + 1) s l else f_X12_together_20 n x1 x3 (x3 + 1) s l

def p_X12_together_20 : Nat → Int32 → Int32 → Int32 → fl_I → fl_L → Prop
  | 0, _, _, _, _, _ => False
  | n + 1, x1, x2, x3, s, l =>
    (vp_in (s 60 18) 2) ∧ (((((1 : Int32) <<< ((s 72 (s 60 18).toNatClampNeg) &&& 31)) ≤ x3) → (((x1 = 0) → (p_X12_bits x2) ∧ True) ∧ (¬ (x1 = 0) → True))) ∧ (¬ (((1 : Int32) <<< ((s 72 (s 60 18).toNatClampNeg) &&& 31)) ≤ x3) → (p_X12_bits x3) ∧ (p_X12_bits x2) ∧ ((((f_X12_bits x3) ≤ (f_X12_bits x2)) → p_X12_together_20 n x1 x2 (x3 + 1) s l) ∧ (¬ ((f_X12_bits x3) ≤ (f_X12_bits x2)) → (p_X12_areMade x3 s l) ∧ ((((f_X12_areMade x3 s l) = 0) → p_X12_together_20 n x1 x2 (x3 + 1) s l) ∧ (¬ ((f_X12_areMade x3 s l) = 0) → p_X12_together_20 n x1 x3 (x3 + 1) s l))))))

set_option maxRecDepth 100000 in
set_option maxHeartbeats 4000000 in
theorem lp_X12_together_20 {G : ab_G} {d : Nat} {D : fl_D} : ∀ (n : Nat) (x1 : Int32) (x2 : Int32) (x3 : Int32) (s : fl_I) (l : fl_L), p_X12_together_20 n x1 x2 x3 s l → ab_C G (d + 2) 0 0 M_X12_together 20 [some (.ref 60), some (.int x1), some (.int x2), some (.int x3)] [] (hp D s l) (rt (some (.int (f_X12_together_20 n x1 x2 x3 s l).1)) (hp D (f_X12_together_20 n x1 x2 x3 s l).2.1 (f_X12_together_20 n x1 x2 x3 s l).2.2)) := by
  intro n
  induction n with
  | zero => intro x1 x2 x3 s l hk; exact hk.elim
  | succ n ih =>
    intro x1 x2 x3 s l hk
    generalize he : f_X12_together_20 (n + 1) x1 x2 x3 s l = res
    unfold f_X12_together_20 at he
    unfold p_X12_together_20 at hk
    refine r_iload_n rfl rfl ?_
    refine r_iconst_ (a := 1) rfl (by decide) ?_
    refine r_aload_n rfl rfl ?_
    refine q_getfield rfl (cc_60 _) rfl ?_
    refine r_aload_n rfl rfl ?_
    refine q_getfield rfl (cc_60 _) rfl ?_
    obtain ⟨hb2, hk⟩ := hk
    refine q_iald rfl (cc_72 _) hb2 ?_
    refine r_ishl rfl ?_
    refine r_icmp_ge rfl (fun c_32 => ?_) (fun c_32 => ?_)
    · rw [if_pos c_32] at he
      replace hk := hk.1 c_32
      refine r_iload_n rfl rfl ?_
      refine r_if_ne rfl (fun c_63 => ?_) (fun c_63 => ?_)
      · rw [if_neg c_63] at he
        replace hk := hk.2 c_63
        refine r_iload_n rfl rfl ?_
        refine r_iret rfl rfl rfl ?_
        subst he
        exact ⟨rfl, rfl⟩
      · rw [if_pos c_63] at he
        replace hk := hk.1 c_63
        refine r_iload_n rfl rfl ?_
        obtain ⟨hb3, hk⟩ := hk
        refine r_callS0 [_] _ rfl kY_X12_bits kT_X12_bits rfl rfl (Nat.le_of_ble_eq_true rfl) (Nat.le_of_ble_eq_true rfl) (s_X12_bits hb3) (fun r h q => ?_)
        obtain ⟨rfl, rfl⟩ := q
        simp only [Option.toList, List.cons_append, List.nil_append]
        refine r_goto rfl ?_
        refine r_iret rfl rfl rfl ?_
        subst he
        exact ⟨rfl, rfl⟩
    · rw [if_neg c_32] at he
      replace hk := hk.2 c_32
      refine r_iload_n rfl rfl ?_
      obtain ⟨hb4, hk⟩ := hk
      refine r_callS0 [_] _ rfl kY_X12_bits kT_X12_bits rfl rfl (Nat.le_of_ble_eq_true rfl) (Nat.le_of_ble_eq_true rfl) (s_X12_bits hb4) (fun r h q => ?_)
      obtain ⟨rfl, rfl⟩ := q
      simp only [Option.toList, List.cons_append, List.nil_append]
      refine r_iload_n rfl rfl ?_
      obtain ⟨hb5, hk⟩ := hk
      refine r_callS0 [_] _ rfl kY_X12_bits kT_X12_bits rfl rfl (Nat.le_of_ble_eq_true rfl) (Nat.le_of_ble_eq_true rfl) (s_X12_bits hb5) (fun r h q => ?_)
      obtain ⟨rfl, rfl⟩ := q
      simp only [Option.toList, List.cons_append, List.nil_append]
      refine r_icmp_le rfl (fun c_43 => ?_) (fun c_43 => ?_)
      · rw [if_pos c_43] at he
        replace hk := hk.1 c_43
        refine r_iinc (b := x3 + 1) rfl rfl rfl (Nat.le_of_ble_eq_true rfl) rfl ?_
        refine r_goto rfl ?_
        subst he
        exact r_weak (L1 := [some (.ref 60), some (.int x1), some (.int x2), some (.int (x3 + 1))]) ⟨rfl, rfl, rfl, rfl, trivial⟩ (ih _ _ _ _ _ hk)
      · rw [if_neg c_43] at he
        replace hk := hk.2 c_43
        refine r_aload_n rfl rfl ?_
        refine r_iload_n rfl rfl ?_
        obtain ⟨hb6, hk⟩ := hk
        refine q_callV0 [_] _ rfl kY_X12_areMade kT_X12_areMade rfl rfl (Nat.le_of_ble_eq_true rfl) (Nat.le_of_ble_eq_true rfl) (cc_60 _) (s_X12_areMade hb6) (fun r h q => ?_)
        obtain ⟨rfl, rfl⟩ := q
        simp only [Option.toList, List.cons_append, List.nil_append]
        refine r_if_eq rfl (fun c_51 => ?_) (fun c_51 => ?_)
        · rw [if_pos c_51] at he
          replace hk := hk.1 c_51
          refine r_iinc (b := x3 + 1) rfl rfl rfl (Nat.le_of_ble_eq_true rfl) rfl ?_
          refine r_goto rfl ?_
          subst he
          exact r_weak (L1 := [some (.ref 60), some (.int x1), some (.int x2), some (.int (x3 + 1))]) ⟨rfl, rfl, rfl, rfl, trivial⟩ (ih _ _ _ _ _ hk)
        · rw [if_neg c_51] at he
          replace hk := hk.2 c_51
          refine r_iload_n rfl rfl ?_
          refine r_istore_n rfl (Nat.le_of_ble_eq_true rfl) rfl ?_
          refine r_iinc (b := x3 + 1) rfl rfl rfl (Nat.le_of_ble_eq_true rfl) rfl ?_
          refine r_goto rfl ?_
          subst he
          exact r_weak (L1 := [some (.ref 60), some (.int x1), some (.int x3), some (.int (x3 + 1))]) ⟨rfl, rfl, rfl, rfl, trivial⟩ (ih _ _ _ _ _ hk)

def f_X12_together (v0 : Int32) (s : fl_I) (l : fl_L) : Int32 × fl_I × fl_L :=
  if ((f_X12_in v0 (0 : Int32) (1 : Int32)) = 0) then ((-1 : Int32), s, l) else f_X12_together_20 fu v0 (0 : Int32) (1 : Int32) (f_X12_fillsHeap (5 : Int32) s l).1 (f_X12_fillsHeap (5 : Int32) s l).2

def p_X12_together (v0 : Int32) (s : fl_I) (l : fl_L) : Prop :=
  (p_X12_in v0 (0 : Int32) (1 : Int32)) ∧ ((((f_X12_in v0 (0 : Int32) (1 : Int32)) = 0) → True) ∧ (¬ ((f_X12_in v0 (0 : Int32) (1 : Int32)) = 0) → (p_X12_fillsHeap (5 : Int32) s l) ∧ p_X12_together_20 fu v0 (0 : Int32) (1 : Int32) (f_X12_fillsHeap (5 : Int32) s l).1 (f_X12_fillsHeap (5 : Int32) s l).2))

set_option maxRecDepth 100000 in
set_option maxHeartbeats 4000000 in
theorem s_X12_together {G : ab_G} {d : Nat} {D : fl_D} {s : fl_I} {l : fl_L} {v0 : Int32} (hk : p_X12_together v0 s l) : ab_C G (d + 2) 0 0 M_X12_together 0 (ab_ent [.ref 60, .int v0]) [] (hp D s l) (rt (some (.int (f_X12_together v0 s l).1)) (hp D (f_X12_together v0 s l).2.1 (f_X12_together v0 s l).2.2)) := by
  generalize he : (f_X12_together v0 s l) = res
  unfold f_X12_together at he
  unfold p_X12_together at hk
  refine r_weak (L1 := [some (.ref 60), some (.int v0), none, none]) ⟨rfl, rfl, trivial⟩ ?_
  refine r_iload_n rfl rfl ?_
  refine r_iconst_ (a := 0) rfl (by decide) ?_
  refine r_iconst_ (a := 1) rfl (by decide) ?_
  obtain ⟨hb0, hk⟩ := hk
  refine r_callS0 [_, _, _] _ rfl kY_X12_in kT_X12_in rfl rfl (Nat.le_of_ble_eq_true rfl) (Nat.le_of_ble_eq_true rfl) (s_X12_in hb0) (fun r h q => ?_)
  obtain ⟨rfl, rfl⟩ := q
  simp only [Option.toList, List.cons_append, List.nil_append]
  refine r_if_ne rfl (fun c_6 => ?_) (fun c_6 => ?_)
  · rw [if_neg c_6] at he
    replace hk := hk.2 c_6
    refine r_aload_n rfl rfl ?_
    refine r_iconst_ (a := 5) rfl (by decide) ?_
    obtain ⟨hb1, hk⟩ := hk
    refine q_callV0 [_] _ rfl kY_X12_fillsHeap kT_X12_fillsHeap rfl rfl (Nat.le_of_ble_eq_true rfl) (Nat.le_of_ble_eq_true rfl) (cc_60 _) (s_X12_fillsHeap hb1) (fun r h q => ?_)
    obtain ⟨rfl, rfl⟩ := q
    simp only [Option.toList, List.cons_append, List.nil_append]
    refine r_iconst_ (a := 0) rfl (by decide) ?_
    refine r_istore_n rfl (Nat.le_of_ble_eq_true rfl) rfl ?_
    refine r_iconst_ (a := 1) rfl (by decide) ?_
    refine r_istore_n rfl (Nat.le_of_ble_eq_true rfl) rfl ?_
    subst he
    exact r_weak (L1 := [some (.ref 60), some (.int v0), some (.int (0 : Int32)), some (.int (1 : Int32))]) ⟨rfl, rfl, rfl, rfl, trivial⟩ (lp_X12_together_20 fu _ _ _ _ _ hk)
  · rw [if_pos c_6] at he
    replace hk := hk.1 c_6
    refine r_iconst_ (a := -1) rfl (by decide) ?_
    refine r_iret rfl rfl rfl ?_
    subst he
    exact ⟨rfl, rfl⟩

def f_X1_pays (v2 : Int32) (v3 : Int32) (t : Nat) (a : Nat) (s : fl_I) (l : fl_L) : Int32 × fl_I × fl_L :=
  ((f_X1_value (2 : Int32) t (wi (wi (wi (wi (wi (fl_fill (0 : Int32) 48 9 s l).1 48 (0 : Int32).toNatClampNeg ((fl_fill (0 : Int32) 48 9 s l).1 (t + 4) v3.toNatClampNeg)) 48 (3 : Int32).toNatClampNeg ((wi (fl_fill (0 : Int32) 48 9 s l).1 48 (0 : Int32).toNatClampNeg ((fl_fill (0 : Int32) 48 9 s l).1 (t + 4) v3.toNatClampNeg)) a 0)) 48 (5 : Int32).toNatClampNeg ((wi (wi (fl_fill (0 : Int32) 48 9 s l).1 48 (0 : Int32).toNatClampNeg ((fl_fill (0 : Int32) 48 9 s l).1 (t + 4) v3.toNatClampNeg)) 48 (3 : Int32).toNatClampNeg ((wi (fl_fill (0 : Int32) 48 9 s l).1 48 (0 : Int32).toNatClampNeg ((fl_fill (0 : Int32) 48 9 s l).1 (t + 4) v3.toNatClampNeg)) a 0)) (t + 8) v2.toNatClampNeg)) 48 (6 : Int32).toNatClampNeg ((wi (wi (wi (fl_fill (0 : Int32) 48 9 s l).1 48 (0 : Int32).toNatClampNeg ((fl_fill (0 : Int32) 48 9 s l).1 (t + 4) v3.toNatClampNeg)) 48 (3 : Int32).toNatClampNeg ((wi (fl_fill (0 : Int32) 48 9 s l).1 48 (0 : Int32).toNatClampNeg ((fl_fill (0 : Int32) 48 9 s l).1 (t + 4) v3.toNatClampNeg)) a 0)) 48 (5 : Int32).toNatClampNeg ((wi (wi (fl_fill (0 : Int32) 48 9 s l).1 48 (0 : Int32).toNatClampNeg ((fl_fill (0 : Int32) 48 9 s l).1 (t + 4) v3.toNatClampNeg)) 48 (3 : Int32).toNatClampNeg ((wi (fl_fill (0 : Int32) 48 9 s l).1 48 (0 : Int32).toNatClampNeg ((fl_fill (0 : Int32) 48 9 s l).1 (t + 4) v3.toNatClampNeg)) a 0)) (t + 8) v2.toNatClampNeg)) (a + 5) v2.toNatClampNeg)) 48 (8 : Int32).toNatClampNeg v2) (fl_fill (0 : Int32) 48 9 s l).2).1, (f_X1_value (2 : Int32) t (wi (wi (wi (wi (wi (fl_fill (0 : Int32) 48 9 s l).1 48 (0 : Int32).toNatClampNeg ((fl_fill (0 : Int32) 48 9 s l).1 (t + 4) v3.toNatClampNeg)) 48 (3 : Int32).toNatClampNeg ((wi (fl_fill (0 : Int32) 48 9 s l).1 48 (0 : Int32).toNatClampNeg ((fl_fill (0 : Int32) 48 9 s l).1 (t + 4) v3.toNatClampNeg)) a 0)) 48 (5 : Int32).toNatClampNeg ((wi (wi (fl_fill (0 : Int32) 48 9 s l).1 48 (0 : Int32).toNatClampNeg ((fl_fill (0 : Int32) 48 9 s l).1 (t + 4) v3.toNatClampNeg)) 48 (3 : Int32).toNatClampNeg ((wi (fl_fill (0 : Int32) 48 9 s l).1 48 (0 : Int32).toNatClampNeg ((fl_fill (0 : Int32) 48 9 s l).1 (t + 4) v3.toNatClampNeg)) a 0)) (t + 8) v2.toNatClampNeg)) 48 (6 : Int32).toNatClampNeg ((wi (wi (wi (fl_fill (0 : Int32) 48 9 s l).1 48 (0 : Int32).toNatClampNeg ((fl_fill (0 : Int32) 48 9 s l).1 (t + 4) v3.toNatClampNeg)) 48 (3 : Int32).toNatClampNeg ((wi (fl_fill (0 : Int32) 48 9 s l).1 48 (0 : Int32).toNatClampNeg ((fl_fill (0 : Int32) 48 9 s l).1 (t + 4) v3.toNatClampNeg)) a 0)) 48 (5 : Int32).toNatClampNeg ((wi (wi (fl_fill (0 : Int32) 48 9 s l).1 48 (0 : Int32).toNatClampNeg ((fl_fill (0 : Int32) 48 9 s l).1 (t + 4) v3.toNatClampNeg)) 48 (3 : Int32).toNatClampNeg ((wi (fl_fill (0 : Int32) 48 9 s l).1 48 (0 : Int32).toNatClampNeg ((fl_fill (0 : Int32) 48 9 s l).1 (t + 4) v3.toNatClampNeg)) a 0)) (t + 8) v2.toNatClampNeg)) (a + 5) v2.toNatClampNeg)) 48 (8 : Int32).toNatClampNeg v2) (fl_fill (0 : Int32) 48 9 s l).2).2.1, (f_X1_value (2 : Int32) t (wi (wi (wi (wi (wi (fl_fill (0 : Int32) 48 9 s l).1 48 (0 : Int32).toNatClampNeg ((fl_fill (0 : Int32) 48 9 s l).1 (t + 4) v3.toNatClampNeg)) 48 (3 : Int32).toNatClampNeg ((wi (fl_fill (0 : Int32) 48 9 s l).1 48 (0 : Int32).toNatClampNeg ((fl_fill (0 : Int32) 48 9 s l).1 (t + 4) v3.toNatClampNeg)) a 0)) 48 (5 : Int32).toNatClampNeg ((wi (wi (fl_fill (0 : Int32) 48 9 s l).1 48 (0 : Int32).toNatClampNeg ((fl_fill (0 : Int32) 48 9 s l).1 (t + 4) v3.toNatClampNeg)) 48 (3 : Int32).toNatClampNeg ((wi (fl_fill (0 : Int32) 48 9 s l).1 48 (0 : Int32).toNatClampNeg ((fl_fill (0 : Int32) 48 9 s l).1 (t + 4) v3.toNatClampNeg)) a 0)) (t + 8) v2.toNatClampNeg)) 48 (6 : Int32).toNatClampNeg ((wi (wi (wi (fl_fill (0 : Int32) 48 9 s l).1 48 (0 : Int32).toNatClampNeg ((fl_fill (0 : Int32) 48 9 s l).1 (t + 4) v3.toNatClampNeg)) 48 (3 : Int32).toNatClampNeg ((wi (fl_fill (0 : Int32) 48 9 s l).1 48 (0 : Int32).toNatClampNeg ((fl_fill (0 : Int32) 48 9 s l).1 (t + 4) v3.toNatClampNeg)) a 0)) 48 (5 : Int32).toNatClampNeg ((wi (wi (fl_fill (0 : Int32) 48 9 s l).1 48 (0 : Int32).toNatClampNeg ((fl_fill (0 : Int32) 48 9 s l).1 (t + 4) v3.toNatClampNeg)) 48 (3 : Int32).toNatClampNeg ((wi (fl_fill (0 : Int32) 48 9 s l).1 48 (0 : Int32).toNatClampNeg ((fl_fill (0 : Int32) 48 9 s l).1 (t + 4) v3.toNatClampNeg)) a 0)) (t + 8) v2.toNatClampNeg)) (a + 5) v2.toNatClampNeg)) 48 (8 : Int32).toNatClampNeg v2) (fl_fill (0 : Int32) 48 9 s l).2).2.2)

def p_X1_pays (v2 : Int32) (v3 : Int32) (t : Nat) (a : Nat) (s : fl_I) (l : fl_L) : Prop :=
  (vp_in v3 32) ∧ (vp_in v2 4) ∧ (vp_in v2 4) ∧ (p_X1_value (2 : Int32) t (wi (wi (wi (wi (wi (fl_fill (0 : Int32) 48 9 s l).1 48 (0 : Int32).toNatClampNeg ((fl_fill (0 : Int32) 48 9 s l).1 (t + 4) v3.toNatClampNeg)) 48 (3 : Int32).toNatClampNeg ((wi (fl_fill (0 : Int32) 48 9 s l).1 48 (0 : Int32).toNatClampNeg ((fl_fill (0 : Int32) 48 9 s l).1 (t + 4) v3.toNatClampNeg)) a 0)) 48 (5 : Int32).toNatClampNeg ((wi (wi (fl_fill (0 : Int32) 48 9 s l).1 48 (0 : Int32).toNatClampNeg ((fl_fill (0 : Int32) 48 9 s l).1 (t + 4) v3.toNatClampNeg)) 48 (3 : Int32).toNatClampNeg ((wi (fl_fill (0 : Int32) 48 9 s l).1 48 (0 : Int32).toNatClampNeg ((fl_fill (0 : Int32) 48 9 s l).1 (t + 4) v3.toNatClampNeg)) a 0)) (t + 8) v2.toNatClampNeg)) 48 (6 : Int32).toNatClampNeg ((wi (wi (wi (fl_fill (0 : Int32) 48 9 s l).1 48 (0 : Int32).toNatClampNeg ((fl_fill (0 : Int32) 48 9 s l).1 (t + 4) v3.toNatClampNeg)) 48 (3 : Int32).toNatClampNeg ((wi (fl_fill (0 : Int32) 48 9 s l).1 48 (0 : Int32).toNatClampNeg ((fl_fill (0 : Int32) 48 9 s l).1 (t + 4) v3.toNatClampNeg)) a 0)) 48 (5 : Int32).toNatClampNeg ((wi (wi (fl_fill (0 : Int32) 48 9 s l).1 48 (0 : Int32).toNatClampNeg ((fl_fill (0 : Int32) 48 9 s l).1 (t + 4) v3.toNatClampNeg)) 48 (3 : Int32).toNatClampNeg ((wi (fl_fill (0 : Int32) 48 9 s l).1 48 (0 : Int32).toNatClampNeg ((fl_fill (0 : Int32) 48 9 s l).1 (t + 4) v3.toNatClampNeg)) a 0)) (t + 8) v2.toNatClampNeg)) (a + 5) v2.toNatClampNeg)) 48 (8 : Int32).toNatClampNeg v2) (fl_fill (0 : Int32) 48 9 s l).2) ∧ True

set_option maxRecDepth 100000 in
set_option maxHeartbeats 4000000 in
theorem s_X1_pays {G : ab_G} {d : Nat} {D : fl_D} {s : fl_I} {l : fl_L} {t : Nat} (htt : isT t) {a : Nat} (hya : isY D a) {v2 : Int32} {v3 : Int32} (hk : p_X1_pays v2 v3 t a s l) : ab_C G (d + 2) 0 0 M_X1_pays 0 (ab_ent [.ref 47, .ref t, .ref a, .int v2, .int v3]) [] (hp D s l) (rt (some (.int (f_X1_pays v2 v3 t a s l).1)) (hp D (f_X1_pays v2 v3 t a s l).2.1 (f_X1_pays v2 v3 t a s l).2.2)) := by
  generalize he : (f_X1_pays v2 v3 t a s l) = res
  unfold f_X1_pays at he
  unfold p_X1_pays at hk
  refine r_weak (L1 := [some (.ref 47), some (.ref t), some (.ref a), some (.int v2), some (.int v3)]) ⟨rfl, rfl, rfl, rfl, rfl, trivial⟩ ?_
  refine r_aload_n rfl rfl ?_
  refine q_getfield rfl (cc_47 _) rfl ?_
  refine r_iconst_ (a := 0) rfl (by decide) ?_
  refine r_callS0 [_, _] _ rfl kY_J7_fill_53178 kT_J7_fill_53178 rfl rfl (Nat.le_of_ble_eq_true rfl) (Nat.le_of_ble_eq_true rfl) (s_fill (cc_48 _) (by omega)) (fun r h q => ?_)
  obtain ⟨rfl, rfl⟩ := q
  simp only [Option.toList, List.cons_append, List.nil_append]
  refine r_aload_n rfl rfl ?_
  refine q_getfield rfl (cc_47 _) rfl ?_
  refine r_iconst_ (a := 0) rfl (by decide) ?_
  refine r_aload_n rfl rfl ?_
  refine q_getfield rfl (cT_0 htt) rfl ?_
  refine r_iload rfl rfl ?_
  obtain ⟨hb0, hk⟩ := hk
  refine q_iald rfl (cT_4 htt) hb0 ?_
  refine w_iast rfl (cc_48 _) (by unfold vp_in; decide) ?_
  refine r_aload_n rfl rfl ?_
  refine q_getfield rfl (cc_47 _) rfl ?_
  refine r_iconst_ (a := 3) rfl (by decide) ?_
  refine r_aload_n rfl rfl ?_
  refine q_getfield rfl (cY_0 hya) rfl ?_
  refine w_iast rfl (cc_48 _) (by unfold vp_in; decide) ?_
  refine r_aload_n rfl rfl ?_
  refine q_getfield rfl (cc_47 _) rfl ?_
  refine r_iconst_ (a := 5) rfl (by decide) ?_
  refine r_aload_n rfl rfl ?_
  refine q_getfield rfl (cT_0 htt) rfl ?_
  refine r_iload_n rfl rfl ?_
  obtain ⟨hb1, hk⟩ := hk
  refine q_iald rfl (cT_8 htt) hb1 ?_
  refine w_iast rfl (cc_48 _) (by unfold vp_in; decide) ?_
  refine r_aload_n rfl rfl ?_
  refine q_getfield rfl (cc_47 _) rfl ?_
  refine r_bipush_ (a := 6) rfl (by decide) ?_
  refine r_aload_n rfl rfl ?_
  refine q_getfield rfl (cY_0 hya) rfl ?_
  refine r_iload_n rfl rfl ?_
  obtain ⟨hb2, hk⟩ := hk
  refine q_iald rfl (cY_5 hya) hb2 ?_
  refine w_iast rfl (cc_48 _) (by unfold vp_in; decide) ?_
  refine r_aload_n rfl rfl ?_
  refine q_getfield rfl (cc_47 _) rfl ?_
  refine r_bipush_ (a := 8) rfl (by decide) ?_
  refine r_iload_n rfl rfl ?_
  refine w_iast rfl (cc_48 _) (by unfold vp_in; decide) ?_
  refine r_aload_n rfl rfl ?_
  refine r_aload_n rfl rfl ?_
  refine r_iconst_ (a := 2) rfl (by decide) ?_
  obtain ⟨hb3, hk⟩ := hk
  refine q_callV0 [_, _] _ rfl kY_X1_value kT_X1_value rfl rfl (Nat.le_of_ble_eq_true rfl) (Nat.le_of_ble_eq_true rfl) (cc_47 _) (s_X1_value htt hb3) (fun r h q => ?_)
  obtain ⟨rfl, rfl⟩ := q
  simp only [Option.toList, List.cons_append, List.nil_append]
  refine r_iret rfl rfl rfl ?_
  subst he
  exact ⟨rfl, rfl⟩

def f_X12_round_17 (s : fl_I) (l : fl_L) : Int32 × fl_I × fl_L :=
    ((-1 : Int32), s, l)

def p_X12_round_17 (s : fl_I) (l : fl_L) : Prop :=
    True

set_option maxRecDepth 100000 in
set_option maxHeartbeats 4000000 in
theorem lp_X12_round_17 {G : ab_G} {d : Nat} {D : fl_D} : ∀ (s : fl_I) (l : fl_L), p_X12_round_17  s l → ab_C G (d + 3) 0 0 M_X12_round 17 [none, none, none, none, none] [] (hp D s l) (rt (some (.int (f_X12_round_17  s l).1)) (hp D (f_X12_round_17  s l).2.1 (f_X12_round_17  s l).2.2)) := by
  intro  s l hk
  generalize he : f_X12_round_17  s l = res
  unfold f_X12_round_17 at he
  unfold p_X12_round_17 at hk
  refine r_iconst_ (a := -1) rfl (by decide) ?_
  refine r_iret rfl rfl rfl ?_
  subst he
  exact ⟨rfl, rfl⟩

def f_X12_round_64 (x2 : Int32) (y0 : Int32) (s : fl_I) (l : fl_L) : Int32 × fl_I × fl_L :=
    if (x2 = 0) then (y0, s, l) else ((s 60 63), s, l)

def p_X12_round_64 (x2 : Int32) (y0 : Int32) (s : fl_I) (l : fl_L) : Prop :=
    (((x2 = 0) → True) ∧ (¬ (x2 = 0) → True))

set_option maxRecDepth 100000 in
set_option maxHeartbeats 4000000 in
theorem lp_X12_round_64 {G : ab_G} {d : Nat} {D : fl_D} : ∀ (x2 : Int32) (y0 : Int32) (s : fl_I) (l : fl_L), p_X12_round_64 x2 y0 s l → ab_C G (d + 3) 0 0 M_X12_round 64 [some (.ref 60), none, some (.int x2), none, none] [.int y0] (hp D s l) (rt (some (.int (f_X12_round_64 x2 y0 s l).1)) (hp D (f_X12_round_64 x2 y0 s l).2.1 (f_X12_round_64 x2 y0 s l).2.2)) := by
  intro x2 y0 s l hk
  generalize he : f_X12_round_64 x2 y0 s l = res
  unfold f_X12_round_64 at he
  unfold p_X12_round_64 at hk
  refine r_istore rfl (Nat.le_of_ble_eq_true rfl) rfl ?_
  refine r_iload_n rfl rfl ?_
  refine r_if_ne rfl (fun c_67 => ?_) (fun c_67 => ?_)
  · rw [if_neg c_67] at he
    replace hk := hk.2 c_67
    refine r_aload_n rfl rfl ?_
    refine q_getfield rfl (cc_60 _) rfl ?_
    refine r_iret rfl rfl rfl ?_
    subst he
    exact ⟨rfl, rfl⟩
  · rw [if_pos c_67] at he
    replace hk := hk.1 c_67
    refine r_iload rfl rfl ?_
    refine r_goto rfl ?_
    refine r_iret rfl rfl rfl ?_
    subst he
    exact ⟨rfl, rfl⟩

def f_X12_round_51 (x2 : Int32) (x3 : Int32) (s : fl_I) (l : fl_L) : Int32 × fl_I × fl_L :=
    f_X12_round_64 x2 (f_X12_roundFrom x3 (((1 : Int32) <<< ((s 60 60) &&& 31)) - (1 : Int32)) s l).1 (f_X12_roundFrom x3 (((1 : Int32) <<< ((s 60 60) &&& 31)) - (1 : Int32)) s l).2.1 (f_X12_roundFrom x3 (((1 : Int32) <<< ((s 60 60) &&& 31)) - (1 : Int32)) s l).2.2

def p_X12_round_51 (x2 : Int32) (x3 : Int32) (s : fl_I) (l : fl_L) : Prop :=
    (p_X12_roundFrom x3 (((1 : Int32) <<< ((s 60 60) &&& 31)) - (1 : Int32)) s l) ∧ p_X12_round_64 x2 (f_X12_roundFrom x3 (((1 : Int32) <<< ((s 60 60) &&& 31)) - (1 : Int32)) s l).1 (f_X12_roundFrom x3 (((1 : Int32) <<< ((s 60 60) &&& 31)) - (1 : Int32)) s l).2.1 (f_X12_roundFrom x3 (((1 : Int32) <<< ((s 60 60) &&& 31)) - (1 : Int32)) s l).2.2

set_option maxRecDepth 100000 in
set_option maxHeartbeats 4000000 in
theorem lp_X12_round_51 {G : ab_G} {d : Nat} {D : fl_D} : ∀ (x2 : Int32) (x3 : Int32) (s : fl_I) (l : fl_L), p_X12_round_51 x2 x3 s l → ab_C G (d + 3) 0 0 M_X12_round 51 [some (.ref 60), none, some (.int x2), some (.int x3), none] [] (hp D s l) (rt (some (.int (f_X12_round_51 x2 x3 s l).1)) (hp D (f_X12_round_51 x2 x3 s l).2.1 (f_X12_round_51 x2 x3 s l).2.2)) := by
  intro x2 x3 s l hk
  generalize he : f_X12_round_51 x2 x3 s l = res
  unfold f_X12_round_51 at he
  unfold p_X12_round_51 at hk
  refine r_aload_n rfl rfl ?_
  refine r_iload_n rfl rfl ?_
  refine r_iconst_ (a := 1) rfl (by decide) ?_
  refine r_aload_n rfl rfl ?_
  refine q_getfield rfl (cc_60 _) rfl ?_
  refine r_ishl rfl ?_
  refine r_iconst_ (a := 1) rfl (by decide) ?_
  refine r_isub rfl ?_
  obtain ⟨hb6, hk⟩ := hk
  refine q_callV0 [_, _] _ rfl kY_X12_roundFrom kT_X12_roundFrom rfl rfl (Nat.le_of_ble_eq_true rfl) (Nat.le_of_ble_eq_true rfl) (cc_60 _) (s_X12_roundFrom hb6) (fun r h q => ?_)
  obtain ⟨rfl, rfl⟩ := q
  simp only [Option.toList, List.cons_append, List.nil_append]
  subst he
  exact r_weak (L1 := [some (.ref 60), none, some (.int x2), none, none]) ⟨rfl, rfl, trivial⟩ (lp_X12_round_64 _ _ _ _ hk)

def f_X12_round_35 (x2 : Int32) (x3 : Int32) (s : fl_I) (l : fl_L) : Int32 × fl_I × fl_L :=
    if ((s 60 60) ≤ (10 : Int32)) then f_X12_round_51 x2 x3 (f_X12_fillsRest s l).1 (f_X12_fillsRest s l).2 else ((-3 : Int32), s, l)

def p_X12_round_35 (x2 : Int32) (x3 : Int32) (s : fl_I) (l : fl_L) : Prop :=
    ((((s 60 60) ≤ (10 : Int32)) → (p_X12_fillsRest s l) ∧ p_X12_round_51 x2 x3 (f_X12_fillsRest s l).1 (f_X12_fillsRest s l).2) ∧ (¬ ((s 60 60) ≤ (10 : Int32)) → True))

set_option maxRecDepth 100000 in
set_option maxHeartbeats 4000000 in
theorem lp_X12_round_35 {G : ab_G} {d : Nat} {D : fl_D} : ∀ (x2 : Int32) (x3 : Int32) (s : fl_I) (l : fl_L), p_X12_round_35 x2 x3 s l → ab_C G (d + 3) 0 0 M_X12_round 35 [some (.ref 60), none, some (.int x2), some (.int x3), none] [] (hp D s l) (rt (some (.int (f_X12_round_35 x2 x3 s l).1)) (hp D (f_X12_round_35 x2 x3 s l).2.1 (f_X12_round_35 x2 x3 s l).2.2)) := by
  intro x2 x3 s l hk
  generalize he : f_X12_round_35 x2 x3 s l = res
  unfold f_X12_round_35 at he
  unfold p_X12_round_35 at hk
  refine r_aload_n rfl rfl ?_
  refine q_getfield rfl (cc_60 _) rfl ?_
  refine r_bipush_ (a := 10) rfl (by decide) ?_
  refine r_icmp_le rfl (fun c_41 => ?_) (fun c_41 => ?_)
  · rw [if_pos c_41] at he
    replace hk := hk.1 c_41
    refine r_aload_n rfl rfl ?_
    obtain ⟨hb5, hk⟩ := hk
    refine q_callV0 [] _ rfl kY_X12_fillsRest kT_X12_fillsRest rfl rfl (Nat.le_of_ble_eq_true rfl) (Nat.le_of_ble_eq_true rfl) (cc_60 _) (s_X12_fillsRest hb5) (fun r h q => ?_)
    obtain ⟨rfl, rfl⟩ := q
    simp only [Option.toList, List.cons_append, List.nil_append]
    subst he
    exact r_weak (L1 := [some (.ref 60), none, some (.int x2), some (.int x3), none]) ⟨rfl, rfl, rfl, trivial⟩ (lp_X12_round_51 _ _ _ _ hk)
  · rw [if_neg c_41] at he
    replace hk := hk.2 c_41
    refine r_bipush_ (a := -3) rfl (by decide) ?_
    refine r_iret rfl rfl rfl ?_
    subst he
    exact ⟨rfl, rfl⟩

def f_X12_round_23 (x1 : Int32) (x2 : Int32) (s : fl_I) (l : fl_L) : Int32 × fl_I × fl_L :=
    f_X12_round_35 x2 (f_X12_cellOfPicker x1 s l) (f_X12_fillsCells (f_X12_cellOfPicker x1 s l) (f_X12_cellOfPicker x1 s l) s l).1 (f_X12_fillsCells (f_X12_cellOfPicker x1 s l) (f_X12_cellOfPicker x1 s l) s l).2

def p_X12_round_23 (x1 : Int32) (x2 : Int32) (s : fl_I) (l : fl_L) : Prop :=
    (p_X12_cellOfPicker x1 s l) ∧ (p_X12_fillsCells (f_X12_cellOfPicker x1 s l) (f_X12_cellOfPicker x1 s l) s l) ∧ p_X12_round_35 x2 (f_X12_cellOfPicker x1 s l) (f_X12_fillsCells (f_X12_cellOfPicker x1 s l) (f_X12_cellOfPicker x1 s l) s l).1 (f_X12_fillsCells (f_X12_cellOfPicker x1 s l) (f_X12_cellOfPicker x1 s l) s l).2

set_option maxRecDepth 100000 in
set_option maxHeartbeats 4000000 in
theorem lp_X12_round_23 {G : ab_G} {d : Nat} {D : fl_D} : ∀ (x1 : Int32) (x2 : Int32) (s : fl_I) (l : fl_L), p_X12_round_23 x1 x2 s l → ab_C G (d + 3) 0 0 M_X12_round 23 [some (.ref 60), some (.int x1), some (.int x2), none, none] [] (hp D s l) (rt (some (.int (f_X12_round_23 x1 x2 s l).1)) (hp D (f_X12_round_23 x1 x2 s l).2.1 (f_X12_round_23 x1 x2 s l).2.2)) := by
  intro x1 x2 s l hk
  generalize he : f_X12_round_23 x1 x2 s l = res
  unfold f_X12_round_23 at he
  unfold p_X12_round_23 at hk
  refine r_aload_n rfl rfl ?_
  refine r_iload_n rfl rfl ?_
  obtain ⟨hb3, hk⟩ := hk
  refine q_callV0 [_] _ rfl kY_X12_cellOfPicker kT_X12_cellOfPicker rfl rfl (Nat.le_of_ble_eq_true rfl) (Nat.le_of_ble_eq_true rfl) (cc_60 _) (s_X12_cellOfPicker hb3) (fun r h q => ?_)
  obtain ⟨rfl, rfl⟩ := q
  simp only [Option.toList, List.cons_append, List.nil_append]
  refine r_istore_n rfl (Nat.le_of_ble_eq_true rfl) rfl ?_
  refine r_aload_n rfl rfl ?_
  refine r_iload_n rfl rfl ?_
  refine r_iload_n rfl rfl ?_
  obtain ⟨hb4, hk⟩ := hk
  refine q_callV0 [_, _] _ rfl kY_X12_fillsCells kT_X12_fillsCells rfl rfl (Nat.le_of_ble_eq_true rfl) (Nat.le_of_ble_eq_true rfl) (cc_60 _) (s_X12_fillsCells hb4) (fun r h q => ?_)
  obtain ⟨rfl, rfl⟩ := q
  simp only [Option.toList, List.cons_append, List.nil_append]
  subst he
  exact r_weak (L1 := [some (.ref 60), none, some (.int x2), some (.int (f_X12_cellOfPicker x1 s l)), none]) ⟨rfl, rfl, rfl, trivial⟩ (lp_X12_round_35 _ _ _ _ hk)

def f_X12_round (v0 : Int32) (v1 : Int32) (s : fl_I) (l : fl_L) : Int32 × fl_I × fl_L :=
  if ((f_X12_isPicker v0 s l) = 0) then f_X12_round_17  s l else if ((f_X12_in v1 (0 : Int32) (1 : Int32)) = 0) then f_X12_round_17  s l else f_X12_round_23 v0 v1 (f_X12_copies s l).1 (f_X12_copies s l).2

def p_X12_round (v0 : Int32) (v1 : Int32) (s : fl_I) (l : fl_L) : Prop :=
  (p_X12_isPicker v0 s l) ∧ ((((f_X12_isPicker v0 s l) = 0) → p_X12_round_17  s l) ∧ (¬ ((f_X12_isPicker v0 s l) = 0) → (p_X12_in v1 (0 : Int32) (1 : Int32)) ∧ ((((f_X12_in v1 (0 : Int32) (1 : Int32)) = 0) → p_X12_round_17  s l) ∧ (¬ ((f_X12_in v1 (0 : Int32) (1 : Int32)) = 0) → (p_X12_copies s l) ∧ p_X12_round_23 v0 v1 (f_X12_copies s l).1 (f_X12_copies s l).2))))

set_option maxRecDepth 100000 in
set_option maxHeartbeats 4000000 in
theorem s_X12_round {G : ab_G} {d : Nat} {D : fl_D} {s : fl_I} {l : fl_L} {v0 : Int32} {v1 : Int32} (hk : p_X12_round v0 v1 s l) : ab_C G (d + 3) 0 0 M_X12_round 0 (ab_ent [.ref 60, .int v0, .int v1]) [] (hp D s l) (rt (some (.int (f_X12_round v0 v1 s l).1)) (hp D (f_X12_round v0 v1 s l).2.1 (f_X12_round v0 v1 s l).2.2)) := by
  generalize he : (f_X12_round v0 v1 s l) = res
  unfold f_X12_round at he
  unfold p_X12_round at hk
  refine r_weak (L1 := [some (.ref 60), some (.int v0), some (.int v1), none, none]) ⟨rfl, rfl, rfl, trivial⟩ ?_
  refine r_aload_n rfl rfl ?_
  refine r_iload_n rfl rfl ?_
  obtain ⟨hb0, hk⟩ := hk
  refine q_callV0 [_] _ rfl kY_X12_isPicker kT_X12_isPicker rfl rfl (Nat.le_of_ble_eq_true rfl) (Nat.le_of_ble_eq_true rfl) (cc_60 _) (s_X12_isPicker hb0) (fun r h q => ?_)
  obtain ⟨rfl, rfl⟩ := q
  simp only [Option.toList, List.cons_append, List.nil_append]
  refine r_if_eq rfl (fun c_5 => ?_) (fun c_5 => ?_)
  · rw [if_pos c_5] at he
    replace hk := hk.1 c_5
    subst he
    exact r_weak (L1 := [none, none, none, none, none]) trivial (lp_X12_round_17 _ _ hk)
  · rw [if_neg c_5] at he
    replace hk := hk.2 c_5
    refine r_iload_n rfl rfl ?_
    refine r_iconst_ (a := 0) rfl (by decide) ?_
    refine r_iconst_ (a := 1) rfl (by decide) ?_
    obtain ⟨hb1, hk⟩ := hk
    refine r_callS0 [_, _, _] _ rfl kY_X12_in kT_X12_in rfl rfl (Nat.le_of_ble_eq_true rfl) (Nat.le_of_ble_eq_true rfl) (s_X12_in hb1) (fun r h q => ?_)
    obtain ⟨rfl, rfl⟩ := q
    simp only [Option.toList, List.cons_append, List.nil_append]
    refine r_if_ne rfl (fun c_14 => ?_) (fun c_14 => ?_)
    · rw [if_neg c_14] at he
      replace hk := hk.2 c_14
      refine r_aload_n rfl rfl ?_
      obtain ⟨hb2, hk⟩ := hk
      refine q_callV0 [] _ rfl kY_X12_copies kT_X12_copies rfl rfl (Nat.le_of_ble_eq_true rfl) (Nat.le_of_ble_eq_true rfl) (cc_60 _) (s_X12_copies hb2) (fun r h q => ?_)
      obtain ⟨rfl, rfl⟩ := q
      simp only [Option.toList, List.cons_append, List.nil_append]
      subst he
      exact r_weak (L1 := [some (.ref 60), some (.int v0), some (.int v1), none, none]) ⟨rfl, rfl, rfl, trivial⟩ (lp_X12_round_23 _ _ _ _ hk)
    · rw [if_pos c_14] at he
      replace hk := hk.1 c_14
      subst he
      exact r_weak (L1 := [none, none, none, none, none]) trivial (lp_X12_round_17 _ _ hk)

def f_X12_writtenBits_23 (K4 : Int32 → Int32 → Int32 → Int32) : Nat → Int32 → Int32 → Int32 → Int32 → Int32 → fl_I → fl_L → Int32
  | 0, _, _, _, _, _, _, _ => 0
  | n + 1, x1, x2, x3, x4, x5, s, l =>
    if (x1 ≤ x5) then if (x4 = 0) then K4 x1 x2 (x3 + 1) else K4 x1 (x2 ||| ((1 : Int32) <<< (x3 &&& 31))) (x3 + 1) else if ((f_X12_isThere x3 (s 103 x5.toNatClampNeg) s l) = (s 104 x5.toNatClampNeg)) then f_X12_writtenBits_23 K4 n x1 x2 x3 x4 (x5 + 1) s l else f_X12_writtenBits_23 K4 n x1 x2 x3 (0 : Int32) (x5 + 1) s l

def p_X12_writtenBits_23 (P4 : Int32 → Int32 → Int32 → Prop) : Nat → Int32 → Int32 → Int32 → Int32 → Int32 → fl_I → fl_L → Prop
  | 0, _, _, _, _, _, _, _ => False
  | n + 1, x1, x2, x3, x4, x5, s, l =>
    (((x1 ≤ x5) → (((x4 = 0) → P4 x1 x2 (x3 + 1)) ∧ (¬ (x4 = 0) → P4 x1 (x2 ||| ((1 : Int32) <<< (x3 &&& 31))) (x3 + 1)))) ∧ (¬ (x1 ≤ x5) → (vp_in x5 20) ∧ (p_X12_isThere x3 (s 103 x5.toNatClampNeg) s l) ∧ (vp_in x5 20) ∧ ((((f_X12_isThere x3 (s 103 x5.toNatClampNeg) s l) = (s 104 x5.toNatClampNeg)) → p_X12_writtenBits_23 P4 n x1 x2 x3 x4 (x5 + 1) s l) ∧ (¬ ((f_X12_isThere x3 (s 103 x5.toNatClampNeg) s l) = (s 104 x5.toNatClampNeg)) → p_X12_writtenBits_23 P4 n x1 x2 x3 (0 : Int32) (x5 + 1) s l))))

set_option maxRecDepth 100000 in
set_option maxHeartbeats 4000000 in
theorem lp_X12_writtenBits_23 {G : ab_G} {d : Nat} {D : fl_D} {s : fl_I} {l : fl_L} (K4 : Int32 → Int32 → Int32 → Int32) (P4 : Int32 → Int32 → Int32 → Prop) (hK4 : ∀ (x1 : Int32) (x2 : Int32) (x3 : Int32), P4 x1 x2 x3 → ab_C G (d + 2) 0 0 M_X12_writtenBits 4 [some (.ref 60), some (.int x1), some (.int x2), some (.int x3), none, none] [] (hp D s l) (rt (some (.int (K4 x1 x2 x3))) (hp D s l))) : ∀ (n : Nat) (x1 : Int32) (x2 : Int32) (x3 : Int32) (x4 : Int32) (x5 : Int32), p_X12_writtenBits_23 P4 n x1 x2 x3 x4 x5 s l → ab_C G (d + 2) 0 0 M_X12_writtenBits 23 [some (.ref 60), some (.int x1), some (.int x2), some (.int x3), some (.int x4), some (.int x5)] [] (hp D s l) (rt (some (.int (f_X12_writtenBits_23 K4 n x1 x2 x3 x4 x5 s l))) (hp D s l)) := by
  intro n
  induction n with
  | zero => intro x1 x2 x3 x4 x5 hk; exact hk.elim
  | succ n ih =>
    intro x1 x2 x3 x4 x5 hk
    generalize he : f_X12_writtenBits_23 K4 (n + 1) x1 x2 x3 x4 x5 s l = res
    unfold f_X12_writtenBits_23 at he
    unfold p_X12_writtenBits_23 at hk
    refine r_iload rfl rfl ?_
    refine r_iload_n rfl rfl ?_
    refine r_icmp_ge rfl (fun c_26 => ?_) (fun c_26 => ?_)
    · rw [if_pos c_26] at he
      replace hk := hk.1 c_26
      refine r_iload rfl rfl ?_
      refine r_if_eq rfl (fun c_62 => ?_) (fun c_62 => ?_)
      · rw [if_pos c_62] at he
        replace hk := hk.1 c_62
        refine r_iinc (b := x3 + 1) rfl rfl rfl (Nat.le_of_ble_eq_true rfl) rfl ?_
        refine r_goto rfl ?_
        subst he
        exact r_weak (L1 := [some (.ref 60), some (.int x1), some (.int x2), some (.int (x3 + 1)), none, none]) ⟨rfl, rfl, rfl, rfl, trivial⟩ (hK4 _ _ _ hk)
      · rw [if_neg c_62] at he
        replace hk := hk.2 c_62
        refine r_iload_n rfl rfl ?_
        refine r_iconst_ (a := 1) rfl (by decide) ?_
        refine r_iload_n rfl rfl ?_
        refine r_ishl rfl ?_
        refine r_ior rfl ?_
        refine r_istore_n rfl (Nat.le_of_ble_eq_true rfl) rfl ?_
        refine r_iinc (b := x3 + 1) rfl rfl rfl (Nat.le_of_ble_eq_true rfl) rfl ?_
        refine r_goto rfl ?_
        subst he
        exact r_weak (L1 := [some (.ref 60), some (.int x1), some (.int (x2 ||| ((1 : Int32) <<< (x3 &&& 31)))), some (.int (x3 + 1)), none, none]) ⟨rfl, rfl, rfl, rfl, trivial⟩ (hK4 _ _ _ hk)
    · rw [if_neg c_26] at he
      replace hk := hk.2 c_26
      refine r_aload_n rfl rfl ?_
      refine r_iload_n rfl rfl ?_
      refine r_aload_n rfl rfl ?_
      refine q_getfield rfl (cc_60 _) rfl ?_
      refine r_iload rfl rfl ?_
      obtain ⟨hb1, hk⟩ := hk
      refine q_iald rfl (cc_103 _) hb1 ?_
      obtain ⟨hb2, hk⟩ := hk
      refine q_callV0 [_, _] _ rfl kY_X12_isThere kT_X12_isThere rfl rfl (Nat.le_of_ble_eq_true rfl) (Nat.le_of_ble_eq_true rfl) (cc_60 _) (s_X12_isThere hb2) (fun r h q => ?_)
      obtain ⟨rfl, rfl⟩ := q
      simp only [Option.toList, List.cons_append, List.nil_append]
      refine r_aload_n rfl rfl ?_
      refine q_getfield rfl (cc_60 _) rfl ?_
      refine r_iload rfl rfl ?_
      obtain ⟨hb3, hk⟩ := hk
      refine q_zald rfl (cc_104 _) hb3 ?_
      refine r_icmp_eq rfl (fun c_48 => ?_) (fun c_48 => ?_)
      · rw [if_pos c_48] at he
        replace hk := hk.1 c_48
        refine r_iinc (b := x5 + 1) rfl rfl rfl (Nat.le_of_ble_eq_true rfl) rfl ?_
        refine r_goto rfl ?_
        subst he
        exact r_weak (L1 := [some (.ref 60), some (.int x1), some (.int x2), some (.int x3), some (.int x4), some (.int (x5 + 1))]) ⟨rfl, rfl, rfl, rfl, rfl, rfl, trivial⟩ (ih _ _ _ _ _ hk)
      · rw [if_neg c_48] at he
        replace hk := hk.2 c_48
        refine r_iconst_ (a := 0) rfl (by decide) ?_
        refine r_istore rfl (Nat.le_of_ble_eq_true rfl) rfl ?_
        refine r_iinc (b := x5 + 1) rfl rfl rfl (Nat.le_of_ble_eq_true rfl) rfl ?_
        refine r_goto rfl ?_
        subst he
        exact r_weak (L1 := [some (.ref 60), some (.int x1), some (.int x2), some (.int x3), some (.int (0 : Int32)), some (.int (x5 + 1))]) ⟨rfl, rfl, rfl, rfl, rfl, rfl, trivial⟩ (ih _ _ _ _ _ hk)

def f_X12_writtenBits_4 : Nat → Int32 → Int32 → Int32 → fl_I → fl_L → Int32
  | 0, _, _, _, _, _ => 0
  | n + 1, x1, x2, x3, s, l =>
    if ((s 72 (s 60 18).toNatClampNeg) ≤ x3) then x2 else f_X12_writtenBits_23 (fun x1 x2 x3 => f_X12_writtenBits_4 n x1 x2 x3 s l) fu x1 x2 x3 (1 : Int32) (0 : Int32) s l

def p_X12_writtenBits_4 : Nat → Int32 → Int32 → Int32 → fl_I → fl_L → Prop
  | 0, _, _, _, _, _ => False
  | n + 1, x1, x2, x3, s, l =>
    (vp_in (s 60 18) 2) ∧ ((((s 72 (s 60 18).toNatClampNeg) ≤ x3) → True) ∧ (¬ ((s 72 (s 60 18).toNatClampNeg) ≤ x3) → p_X12_writtenBits_23 (fun x1 x2 x3 => p_X12_writtenBits_4 n x1 x2 x3 s l) fu x1 x2 x3 (1 : Int32) (0 : Int32) s l))

set_option maxRecDepth 100000 in
set_option maxHeartbeats 4000000 in
theorem lp_X12_writtenBits_4 {G : ab_G} {d : Nat} {D : fl_D} {s : fl_I} {l : fl_L} : ∀ (n : Nat) (x1 : Int32) (x2 : Int32) (x3 : Int32), p_X12_writtenBits_4 n x1 x2 x3 s l → ab_C G (d + 2) 0 0 M_X12_writtenBits 4 [some (.ref 60), some (.int x1), some (.int x2), some (.int x3), none, none] [] (hp D s l) (rt (some (.int (f_X12_writtenBits_4 n x1 x2 x3 s l))) (hp D s l)) := by
  intro n
  induction n with
  | zero => intro x1 x2 x3 hk; exact hk.elim
  | succ n ih =>
    intro x1 x2 x3 hk
    generalize he : f_X12_writtenBits_4 (n + 1) x1 x2 x3 s l = res
    unfold f_X12_writtenBits_4 at he
    unfold p_X12_writtenBits_4 at hk
    refine r_iload_n rfl rfl ?_
    refine r_aload_n rfl rfl ?_
    refine q_getfield rfl (cc_60 _) rfl ?_
    refine r_aload_n rfl rfl ?_
    refine q_getfield rfl (cc_60 _) rfl ?_
    obtain ⟨hb0, hk⟩ := hk
    refine q_iald rfl (cc_72 _) hb0 ?_
    refine r_icmp_ge rfl (fun c_14 => ?_) (fun c_14 => ?_)
    · rw [if_pos c_14] at he
      replace hk := hk.1 c_14
      refine r_iload_n rfl rfl ?_
      refine r_iret rfl rfl rfl ?_
      subst he
      exact ⟨rfl, rfl⟩
    · rw [if_neg c_14] at he
      replace hk := hk.2 c_14
      refine r_iconst_ (a := 1) rfl (by decide) ?_
      refine r_istore rfl (Nat.le_of_ble_eq_true rfl) rfl ?_
      refine r_iconst_ (a := 0) rfl (by decide) ?_
      refine r_istore rfl (Nat.le_of_ble_eq_true rfl) rfl ?_
      subst he
      exact r_weak (L1 := [some (.ref 60), some (.int x1), some (.int x2), some (.int x3), some (.int (1 : Int32)), some (.int (0 : Int32))]) ⟨rfl, rfl, rfl, rfl, rfl, rfl, trivial⟩ (lp_X12_writtenBits_23 _ _ (fun _ _ _ h9 => ih _ _ _ h9) fu _ _ _ _ _ hk)

def f_X12_writtenBits (v0 : Int32) (s : fl_I) (l : fl_L) : Int32 :=
  f_X12_writtenBits_4 fu v0 (0 : Int32) (0 : Int32) s l

def p_X12_writtenBits (v0 : Int32) (s : fl_I) (l : fl_L) : Prop :=
  p_X12_writtenBits_4 fu v0 (0 : Int32) (0 : Int32) s l

set_option maxRecDepth 100000 in
set_option maxHeartbeats 4000000 in
theorem s_X12_writtenBits {G : ab_G} {d : Nat} {D : fl_D} {s : fl_I} {l : fl_L} {v0 : Int32} (hk : p_X12_writtenBits v0 s l) : ab_C G (d + 2) 0 0 M_X12_writtenBits 0 (ab_ent [.ref 60, .int v0]) [] (hp D s l) (rt (some (.int (f_X12_writtenBits v0 s l))) (hp D s l)) := by
  generalize he : (f_X12_writtenBits v0 s l) = res
  unfold f_X12_writtenBits at he
  unfold p_X12_writtenBits at hk
  refine r_weak (L1 := [some (.ref 60), some (.int v0), none, none, none, none]) ⟨rfl, rfl, trivial⟩ ?_
  refine r_iconst_ (a := 0) rfl (by decide) ?_
  refine r_istore_n rfl (Nat.le_of_ble_eq_true rfl) rfl ?_
  refine r_iconst_ (a := 0) rfl (by decide) ?_
  refine r_istore_n rfl (Nat.le_of_ble_eq_true rfl) rfl ?_
  subst he
  exact r_weak (L1 := [some (.ref 60), some (.int v0), some (.int (0 : Int32)), some (.int (0 : Int32)), none, none]) ⟨rfl, rfl, rfl, rfl, trivial⟩ (lp_X12_writtenBits_4 fu _ _ _ hk)

def f_X12_send_21 (s : fl_I) (l : fl_L) : Int32 × fl_I × fl_L :=
    ((0 : Int32), s, l)

def p_X12_send_21 (s : fl_I) (l : fl_L) : Prop :=
    True

set_option maxRecDepth 100000 in
set_option maxHeartbeats 4000000 in
theorem lp_X12_send_21 {G : ab_G} {d : Nat} {D : fl_D} : ∀ (s : fl_I) (l : fl_L), p_X12_send_21  s l → ab_C G (d + 2) 0 0 M_X12_send 21 [none, none, none, none, none] [] (hp D s l) (rt (some (.int (f_X12_send_21  s l).1)) (hp D (f_X12_send_21  s l).2.1 (f_X12_send_21  s l).2.2)) := by
  intro  s l hk
  generalize he : f_X12_send_21  s l = res
  unfold f_X12_send_21 at he
  unfold p_X12_send_21 at hk
  refine r_iconst_ (a := 0) rfl (by decide) ?_
  refine r_iret rfl rfl rfl ?_
  subst he
  exact ⟨rfl, rfl⟩

def f_X12_send_83 (s : fl_I) (l : fl_L) : Int32 × fl_I × fl_L :=
    ((1 : Int32), s, l)

def p_X12_send_83 (s : fl_I) (l : fl_L) : Prop :=
    True

set_option maxRecDepth 100000 in
set_option maxHeartbeats 4000000 in
theorem lp_X12_send_83 {G : ab_G} {d : Nat} {D : fl_D} : ∀ (s : fl_I) (l : fl_L), p_X12_send_83  s l → ab_C G (d + 2) 0 0 M_X12_send 83 [none, none, none, none, none] [] (hp D s l) (rt (some (.int (f_X12_send_83  s l).1)) (hp D (f_X12_send_83  s l).2.1 (f_X12_send_83  s l).2.2)) := by
  intro  s l hk
  generalize he : f_X12_send_83  s l = res
  unfold f_X12_send_83 at he
  unfold p_X12_send_83 at hk
  refine r_iconst_ (a := 1) rfl (by decide) ?_
  refine r_iret rfl rfl rfl ?_
  subst he
  exact ⟨rfl, rfl⟩

def f_X12_send_67 (x1 : Int32) (x4 : Int32) (s : fl_I) (l : fl_L) : Int32 × fl_I × fl_L :=
    f_X12_send_83  (f_X12_records (wi s 95 ((136 : Int32) + x1).toNatClampNeg x4) l).1 (f_X12_records (wi s 95 ((136 : Int32) + x1).toNatClampNeg x4) l).2

def p_X12_send_67 (x1 : Int32) (x4 : Int32) (s : fl_I) (l : fl_L) : Prop :=
    (vp_in ((136 : Int32) + x1) 141) ∧ (p_X12_records (wi s 95 ((136 : Int32) + x1).toNatClampNeg x4) l) ∧ p_X12_send_83  (f_X12_records (wi s 95 ((136 : Int32) + x1).toNatClampNeg x4) l).1 (f_X12_records (wi s 95 ((136 : Int32) + x1).toNatClampNeg x4) l).2

set_option maxRecDepth 100000 in
set_option maxHeartbeats 4000000 in
theorem lp_X12_send_67 {G : ab_G} {d : Nat} {D : fl_D} : ∀ (x1 : Int32) (x4 : Int32) (s : fl_I) (l : fl_L), p_X12_send_67 x1 x4 s l → ab_C G (d + 2) 0 0 M_X12_send 67 [some (.ref 60), some (.int x1), none, none, some (.int x4)] [] (hp D s l) (rt (some (.int (f_X12_send_67 x1 x4 s l).1)) (hp D (f_X12_send_67 x1 x4 s l).2.1 (f_X12_send_67 x1 x4 s l).2.2)) := by
  intro x1 x4 s l hk
  generalize he : f_X12_send_67 x1 x4 s l = res
  unfold f_X12_send_67 at he
  unfold p_X12_send_67 at hk
  refine r_aload_n rfl rfl ?_
  refine q_getfield rfl (cc_60 _) rfl ?_
  refine r_sipush_ (a := 136) rfl (by decide) ?_
  refine r_iload_n rfl rfl ?_
  refine r_iadd rfl ?_
  refine r_iload rfl rfl ?_
  obtain ⟨hb4, hk⟩ := hk
  refine w_iast rfl (cc_95 _) hb4 ?_
  refine r_aload_n rfl rfl ?_
  obtain ⟨hb5, hk⟩ := hk
  refine q_callV0 [] _ rfl kY_X12_records kT_X12_records rfl rfl (Nat.le_of_ble_eq_true rfl) (Nat.le_of_ble_eq_true rfl) (cc_60 _) (s_X12_records hb5) (fun r h q => ?_)
  obtain ⟨rfl, rfl⟩ := q
  simp only [Option.toList, List.cons_append, List.nil_append]
  subst he
  exact r_weak (L1 := [none, none, none, none, none]) trivial (lp_X12_send_83 _ _ hk)

def f_X12_send_23 (x1 : Int32) (x2 : Int32) (x3 : Int32) (s : fl_I) (l : fl_L) : Int32 × fl_I × fl_L :=
    if (x2 = (-1 : Int32)) then if ((s 94 ((136 : Int32) + x1).toNatClampNeg) = (-2 : Int32)) then ((0 : Int32), s, l) else f_X12_send_67 x1 (-2 : Int32) (f_X12_copies s l).1 (f_X12_copies s l).2 else if ((s 94 ((136 : Int32) + x1).toNatClampNeg) = (f_X12_goalAt x1 (((10 : Int32) * x3) + x2) s l)) then ((0 : Int32), s, l) else f_X12_send_67 x1 (f_X12_goalAt x1 (((10 : Int32) * x3) + x2) s l) (f_X12_copies s l).1 (f_X12_copies s l).2

def p_X12_send_23 (x1 : Int32) (x2 : Int32) (x3 : Int32) (s : fl_I) (l : fl_L) : Prop :=
    (((x2 = (-1 : Int32)) → (vp_in ((136 : Int32) + x1) 141) ∧ ((((s 94 ((136 : Int32) + x1).toNatClampNeg) = (-2 : Int32)) → True) ∧ (¬ ((s 94 ((136 : Int32) + x1).toNatClampNeg) = (-2 : Int32)) → (p_X12_copies s l) ∧ p_X12_send_67 x1 (-2 : Int32) (f_X12_copies s l).1 (f_X12_copies s l).2))) ∧ (¬ (x2 = (-1 : Int32)) → (p_X12_goalAt x1 (((10 : Int32) * x3) + x2) s l) ∧ (vp_in ((136 : Int32) + x1) 141) ∧ ((((s 94 ((136 : Int32) + x1).toNatClampNeg) = (f_X12_goalAt x1 (((10 : Int32) * x3) + x2) s l)) → True) ∧ (¬ ((s 94 ((136 : Int32) + x1).toNatClampNeg) = (f_X12_goalAt x1 (((10 : Int32) * x3) + x2) s l)) → (p_X12_copies s l) ∧ p_X12_send_67 x1 (f_X12_goalAt x1 (((10 : Int32) * x3) + x2) s l) (f_X12_copies s l).1 (f_X12_copies s l).2))))

set_option maxRecDepth 100000 in
set_option maxHeartbeats 4000000 in
theorem lp_X12_send_23 {G : ab_G} {d : Nat} {D : fl_D} : ∀ (x1 : Int32) (x2 : Int32) (x3 : Int32) (s : fl_I) (l : fl_L), p_X12_send_23 x1 x2 x3 s l → ab_C G (d + 2) 0 0 M_X12_send 23 [some (.ref 60), some (.int x1), some (.int x2), some (.int x3), none] [] (hp D s l) (rt (some (.int (f_X12_send_23 x1 x2 x3 s l).1)) (hp D (f_X12_send_23 x1 x2 x3 s l).2.1 (f_X12_send_23 x1 x2 x3 s l).2.2)) := by
  intro x1 x2 x3 s l hk
  generalize he : f_X12_send_23 x1 x2 x3 s l = res
  unfold f_X12_send_23 at he
  unfold p_X12_send_23 at hk
  refine r_iload_n rfl rfl ?_
  refine r_iconst_ (a := -1) rfl (by decide) ?_
  refine r_icmp_ne rfl (fun c_25 => ?_) (fun c_25 => ?_)
  · rw [if_neg c_25] at he
    replace hk := hk.2 c_25
    refine r_aload_n rfl rfl ?_
    refine r_iload_n rfl rfl ?_
    refine r_bipush_ (a := 10) rfl (by decide) ?_
    refine r_iload_n rfl rfl ?_
    refine r_imul rfl ?_
    refine r_iload_n rfl rfl ?_
    refine r_iadd rfl ?_
    obtain ⟨hb1, hk⟩ := hk
    refine q_callV0 [_, _] _ rfl kY_X12_goalAt kT_X12_goalAt rfl rfl (Nat.le_of_ble_eq_true rfl) (Nat.le_of_ble_eq_true rfl) (cc_60 _) (s_X12_goalAt hb1) (fun r h q => ?_)
    obtain ⟨rfl, rfl⟩ := q
    simp only [Option.toList, List.cons_append, List.nil_append]
    refine r_istore rfl (Nat.le_of_ble_eq_true rfl) rfl ?_
    refine r_aload_n rfl rfl ?_
    refine q_getfield rfl (cc_60 _) rfl ?_
    refine r_sipush_ (a := 136) rfl (by decide) ?_
    refine r_iload_n rfl rfl ?_
    refine r_iadd rfl ?_
    obtain ⟨hb2, hk⟩ := hk
    refine q_iald rfl (cc_94 _) hb2 ?_
    refine r_iload rfl rfl ?_
    refine r_icmp_ne rfl (fun c_58 => ?_) (fun c_58 => ?_)
    · rw [if_neg c_58] at he
      replace hk := hk.2 c_58
      refine r_aload_n rfl rfl ?_
      obtain ⟨hb3, hk⟩ := hk
      refine q_callV0 [] _ rfl kY_X12_copies kT_X12_copies rfl rfl (Nat.le_of_ble_eq_true rfl) (Nat.le_of_ble_eq_true rfl) (cc_60 _) (s_X12_copies hb3) (fun r h q => ?_)
      obtain ⟨rfl, rfl⟩ := q
      simp only [Option.toList, List.cons_append, List.nil_append]
      subst he
      exact r_weak (L1 := [some (.ref 60), some (.int x1), none, none, some (.int (f_X12_goalAt x1 (((10 : Int32) * x3) + x2) s l))]) ⟨rfl, rfl, rfl, trivial⟩ (lp_X12_send_67 _ _ _ _ hk)
    · rw [if_pos c_58] at he
      replace hk := hk.1 c_58
      refine r_iconst_ (a := 0) rfl (by decide) ?_
      refine r_iret rfl rfl rfl ?_
      subst he
      exact ⟨rfl, rfl⟩
  · rw [if_pos c_25] at he
    replace hk := hk.1 c_25
    refine r_bipush_ (a := -2) rfl (by decide) ?_
    refine r_goto rfl ?_
    refine r_istore rfl (Nat.le_of_ble_eq_true rfl) rfl ?_
    refine r_aload_n rfl rfl ?_
    refine q_getfield rfl (cc_60 _) rfl ?_
    refine r_sipush_ (a := 136) rfl (by decide) ?_
    refine r_iload_n rfl rfl ?_
    refine r_iadd rfl ?_
    obtain ⟨hb6, hk⟩ := hk
    refine q_iald rfl (cc_94 _) hb6 ?_
    refine r_iload rfl rfl ?_
    refine r_icmp_ne rfl (fun c_58 => ?_) (fun c_58 => ?_)
    · rw [if_neg c_58] at he
      replace hk := hk.2 c_58
      refine r_aload_n rfl rfl ?_
      obtain ⟨hb7, hk⟩ := hk
      refine q_callV0 [] _ rfl kY_X12_copies kT_X12_copies rfl rfl (Nat.le_of_ble_eq_true rfl) (Nat.le_of_ble_eq_true rfl) (cc_60 _) (s_X12_copies hb7) (fun r h q => ?_)
      obtain ⟨rfl, rfl⟩ := q
      simp only [Option.toList, List.cons_append, List.nil_append]
      subst he
      exact r_weak (L1 := [some (.ref 60), some (.int x1), none, none, some (.int (-2 : Int32))]) ⟨rfl, rfl, rfl, trivial⟩ (lp_X12_send_67 _ _ _ _ hk)
    · rw [if_pos c_58] at he
      replace hk := hk.1 c_58
      refine r_iconst_ (a := 0) rfl (by decide) ?_
      refine r_iret rfl rfl rfl ?_
      subst he
      exact ⟨rfl, rfl⟩

def f_X12_send (v0 : Int32) (v1 : Int32) (v2 : Int32) (s : fl_I) (l : fl_L) : Int32 × fl_I × fl_L :=
  if ((f_X12_isPicker v0 s l) = 0) then f_X12_send_21  s l else if (v1 = (-1 : Int32)) then f_X12_send_23 v0 v1 v2 s l else if ((f_X12_isCell v1 v2) = 0) then f_X12_send_21  s l else f_X12_send_23 v0 v1 v2 s l

def p_X12_send (v0 : Int32) (v1 : Int32) (v2 : Int32) (s : fl_I) (l : fl_L) : Prop :=
  (p_X12_isPicker v0 s l) ∧ ((((f_X12_isPicker v0 s l) = 0) → p_X12_send_21  s l) ∧ (¬ ((f_X12_isPicker v0 s l) = 0) → (((v1 = (-1 : Int32)) → p_X12_send_23 v0 v1 v2 s l) ∧ (¬ (v1 = (-1 : Int32)) → (p_X12_isCell v1 v2) ∧ ((((f_X12_isCell v1 v2) = 0) → p_X12_send_21  s l) ∧ (¬ ((f_X12_isCell v1 v2) = 0) → p_X12_send_23 v0 v1 v2 s l))))))

set_option maxRecDepth 100000 in
set_option maxHeartbeats 4000000 in
theorem s_X12_send {G : ab_G} {d : Nat} {D : fl_D} {s : fl_I} {l : fl_L} {v0 : Int32} {v1 : Int32} {v2 : Int32} (hk : p_X12_send v0 v1 v2 s l) : ab_C G (d + 2) 0 0 M_X12_send 0 (ab_ent [.ref 60, .int v0, .int v1, .int v2]) [] (hp D s l) (rt (some (.int (f_X12_send v0 v1 v2 s l).1)) (hp D (f_X12_send v0 v1 v2 s l).2.1 (f_X12_send v0 v1 v2 s l).2.2)) := by
  generalize he : (f_X12_send v0 v1 v2 s l) = res
  unfold f_X12_send at he
  unfold p_X12_send at hk
  refine r_weak (L1 := [some (.ref 60), some (.int v0), some (.int v1), some (.int v2), none]) ⟨rfl, rfl, rfl, rfl, trivial⟩ ?_
  refine r_aload_n rfl rfl ?_
  refine r_iload_n rfl rfl ?_
  obtain ⟨hb0, hk⟩ := hk
  refine q_callV0 [_] _ rfl kY_X12_isPicker kT_X12_isPicker rfl rfl (Nat.le_of_ble_eq_true rfl) (Nat.le_of_ble_eq_true rfl) (cc_60 _) (s_X12_isPicker hb0) (fun r h q => ?_)
  obtain ⟨rfl, rfl⟩ := q
  simp only [Option.toList, List.cons_append, List.nil_append]
  refine r_if_eq rfl (fun c_5 => ?_) (fun c_5 => ?_)
  · rw [if_pos c_5] at he
    replace hk := hk.1 c_5
    subst he
    exact r_weak (L1 := [none, none, none, none, none]) trivial (lp_X12_send_21 _ _ hk)
  · rw [if_neg c_5] at he
    replace hk := hk.2 c_5
    refine r_iload_n rfl rfl ?_
    refine r_iconst_ (a := -1) rfl (by decide) ?_
    refine r_icmp_eq rfl (fun c_10 => ?_) (fun c_10 => ?_)
    · rw [if_pos c_10] at he
      replace hk := hk.1 c_10
      subst he
      exact r_weak (L1 := [some (.ref 60), some (.int v0), some (.int v1), some (.int v2), none]) ⟨rfl, rfl, rfl, rfl, trivial⟩ (lp_X12_send_23 _ _ _ _ _ hk)
    · rw [if_neg c_10] at he
      replace hk := hk.2 c_10
      refine r_iload_n rfl rfl ?_
      refine r_iload_n rfl rfl ?_
      obtain ⟨hb8, hk⟩ := hk
      refine r_callS0 [_, _] _ rfl kY_X12_isCell kT_X12_isCell rfl rfl (Nat.le_of_ble_eq_true rfl) (Nat.le_of_ble_eq_true rfl) (s_X12_isCell hb8) (fun r h q => ?_)
      obtain ⟨rfl, rfl⟩ := q
      simp only [Option.toList, List.cons_append, List.nil_append]
      refine r_if_ne rfl (fun c_18 => ?_) (fun c_18 => ?_)
      · rw [if_neg c_18] at he
        replace hk := hk.2 c_18
        subst he
        exact r_weak (L1 := [some (.ref 60), some (.int v0), some (.int v1), some (.int v2), none]) ⟨rfl, rfl, rfl, rfl, trivial⟩ (lp_X12_send_23 _ _ _ _ _ hk)
      · rw [if_pos c_18] at he
        replace hk := hk.1 c_18
        subst he
        exact r_weak (L1 := [none, none, none, none, none]) trivial (lp_X12_send_21 _ _ hk)

def f_X0_makesAtOnce_47 : Nat → Int32 → Int32 → Int32 → Nat → fl_I → fl_L → Int32 × fl_I × fl_L
  | 0, x2, x3, x4, t, s, l => (0, s, l)
  | n + 1, x2, x3, x4, t, s, l =>
    if ((s t 1) ≤ x4) then if (x3 = 0) then ((1 : Int32), s, l) else ((0 : Int32), s, l) else if (((x2 >>> (x4 &&& 31)) &&& (1 : Int32)) = (1 : Int32)) then f_X0_makesAtOnce_47 n x2 x3 (x4 + 1) t (f_X0_putBack (l (t + 2) x4.toNatClampNeg) s l).1 (f_X0_putBack (l (t + 2) x4.toNatClampNeg) s l).2 else f_X0_makesAtOnce_47 n x2 x3 (x4 + 1) t s l

def p_X0_makesAtOnce_47 : Nat → Int32 → Int32 → Int32 → Nat → fl_I → fl_L → Prop
  | 0, _, _, _, _, _, _ => False
  | n + 1, x2, x3, x4, t, s, l =>
    ((((s t 1) ≤ x4) → (((x3 = 0) → True) ∧ (¬ (x3 = 0) → True))) ∧ (¬ ((s t 1) ≤ x4) → (((((x2 >>> (x4 &&& 31)) &&& (1 : Int32)) = (1 : Int32)) → (vp_in x4 8) ∧ (p_X0_putBack (l (t + 2) x4.toNatClampNeg) s l) ∧ p_X0_makesAtOnce_47 n x2 x3 (x4 + 1) t (f_X0_putBack (l (t + 2) x4.toNatClampNeg) s l).1 (f_X0_putBack (l (t + 2) x4.toNatClampNeg) s l).2) ∧ (¬ (((x2 >>> (x4 &&& 31)) &&& (1 : Int32)) = (1 : Int32)) → p_X0_makesAtOnce_47 n x2 x3 (x4 + 1) t s l))))

set_option maxRecDepth 100000 in
set_option maxHeartbeats 4000000 in
theorem lp_X0_makesAtOnce_47 {G : ab_G} {d : Nat} {D : fl_D} {t : Nat} (htt : isT t) : ∀ (n : Nat) (x2 : Int32) (x3 : Int32) (x4 : Int32) (s : fl_I) (l : fl_L), p_X0_makesAtOnce_47 n x2 x3 x4 t s l → ab_C G (d + 3) 0 0 M_X0_makesAtOnce 47 [some (.ref 55), some (.ref t), some (.int x2), some (.int x3), some (.int x4)] [] (hp D s l) (rt (some (.int (f_X0_makesAtOnce_47 n x2 x3 x4 t s l).1)) (hp D (f_X0_makesAtOnce_47 n x2 x3 x4 t s l).2.1 (f_X0_makesAtOnce_47 n x2 x3 x4 t s l).2.2)) := by
  intro n
  induction n with
  | zero => intro x2 x3 x4 s l hk; exact hk.elim
  | succ n ih =>
    intro x2 x3 x4 s l hk
    generalize he : f_X0_makesAtOnce_47 (n + 1) x2 x3 x4 t s l = res
    unfold f_X0_makesAtOnce_47 at he
    unfold p_X0_makesAtOnce_47 at hk
    refine r_iload rfl rfl ?_
    refine r_aload_n rfl rfl ?_
    refine q_getfield rfl (cT_0 htt) rfl ?_
    refine r_icmp_ge rfl (fun c_53 => ?_) (fun c_53 => ?_)
    · rw [if_pos c_53] at he
      replace hk := hk.1 c_53
      refine r_iload_n rfl rfl ?_
      refine r_if_ne rfl (fun c_84 => ?_) (fun c_84 => ?_)
      · rw [if_neg c_84] at he
        replace hk := hk.2 c_84
        refine r_iconst_ (a := 0) rfl (by decide) ?_
        refine r_iret rfl rfl rfl ?_
        subst he
        exact ⟨rfl, rfl⟩
      · rw [if_pos c_84] at he
        replace hk := hk.1 c_84
        refine r_iconst_ (a := 1) rfl (by decide) ?_
        refine r_goto rfl ?_
        refine r_iret rfl rfl rfl ?_
        subst he
        exact ⟨rfl, rfl⟩
    · rw [if_neg c_53] at he
      replace hk := hk.2 c_53
      refine r_iload_n rfl rfl ?_
      refine r_iload rfl rfl ?_
      refine r_ishr rfl ?_
      refine r_iconst_ (a := 1) rfl (by decide) ?_
      refine r_iand rfl ?_
      refine r_iconst_ (a := 1) rfl (by decide) ?_
      refine r_icmp_ne rfl (fun c_63 => ?_) (fun c_63 => ?_)
      · rw [if_neg c_63] at he
        replace hk := hk.2 c_63
        refine r_iinc (b := x4 + 1) rfl rfl rfl (Nat.le_of_ble_eq_true rfl) rfl ?_
        refine r_goto rfl ?_
        subst he
        exact r_weak (L1 := [some (.ref 55), some (.ref t), some (.int x2), some (.int x3), some (.int (x4 + 1))]) ⟨rfl, rfl, rfl, rfl, rfl, trivial⟩ (ih _ _ _ _ _ hk)
      · rw [if_pos c_63] at he
        replace hk := hk.1 c_63
        refine r_aload_n rfl rfl ?_
        refine r_aload_n rfl rfl ?_
        refine q_getfield rfl (cT_0 htt) rfl ?_
        refine r_iload rfl rfl ?_
        obtain ⟨hb0, hk⟩ := hk
        refine q_lald rfl (cT_2 htt) hb0 ?_
        obtain ⟨hb1, hk⟩ := hk
        refine q_callV0 [_] _ rfl kY_X0_putBack kT_X0_putBack rfl rfl (Nat.le_of_ble_eq_true rfl) (Nat.le_of_ble_eq_true rfl) (cc_55 _) (s_X0_putBack hb1) (fun r h q => ?_)
        obtain ⟨rfl, rfl⟩ := q
        simp only [Option.toList, List.cons_append, List.nil_append]
        refine r_iinc (b := x4 + 1) rfl rfl rfl (Nat.le_of_ble_eq_true rfl) rfl ?_
        refine r_goto rfl ?_
        subst he
        exact r_weak (L1 := [some (.ref 55), some (.ref t), some (.int x2), some (.int x3), some (.int (x4 + 1))]) ⟨rfl, rfl, rfl, rfl, rfl, trivial⟩ (ih _ _ _ _ _ hk)

def f_X0_makesAtOnce_5 : Nat → Int32 → Int32 → Int32 → Nat → fl_I → fl_L → Int32 × fl_I × fl_L
  | 0, x2, x3, x4, t, s, l => (0, s, l)
  | n + 1, x2, x3, x4, t, s, l =>
    if ((s t 1) ≤ x4) then f_X0_makesAtOnce_47 fu x2 x3 (0 : Int32) t s l else if (((x2 >>> (x4 &&& 31)) &&& (1 : Int32)) = (1 : Int32)) then f_X0_makesAtOnce_5 n x2 (x3 + (f_X0_takeOut (l (t + 2) x4.toNatClampNeg) s l).1) (x4 + 1) t (f_X0_takeOut (l (t + 2) x4.toNatClampNeg) s l).2.1 (f_X0_takeOut (l (t + 2) x4.toNatClampNeg) s l).2.2 else f_X0_makesAtOnce_5 n x2 x3 (x4 + 1) t s l

def p_X0_makesAtOnce_5 : Nat → Int32 → Int32 → Int32 → Nat → fl_I → fl_L → Prop
  | 0, _, _, _, _, _, _ => False
  | n + 1, x2, x3, x4, t, s, l =>
    ((((s t 1) ≤ x4) → p_X0_makesAtOnce_47 fu x2 x3 (0 : Int32) t s l) ∧ (¬ ((s t 1) ≤ x4) → (((((x2 >>> (x4 &&& 31)) &&& (1 : Int32)) = (1 : Int32)) → (vp_in x4 8) ∧ (p_X0_takeOut (l (t + 2) x4.toNatClampNeg) s l) ∧ p_X0_makesAtOnce_5 n x2 (x3 + (f_X0_takeOut (l (t + 2) x4.toNatClampNeg) s l).1) (x4 + 1) t (f_X0_takeOut (l (t + 2) x4.toNatClampNeg) s l).2.1 (f_X0_takeOut (l (t + 2) x4.toNatClampNeg) s l).2.2) ∧ (¬ (((x2 >>> (x4 &&& 31)) &&& (1 : Int32)) = (1 : Int32)) → p_X0_makesAtOnce_5 n x2 x3 (x4 + 1) t s l))))

set_option maxRecDepth 100000 in
set_option maxHeartbeats 4000000 in
theorem lp_X0_makesAtOnce_5 {G : ab_G} {d : Nat} {D : fl_D} {t : Nat} (htt : isT t) : ∀ (n : Nat) (x2 : Int32) (x3 : Int32) (x4 : Int32) (s : fl_I) (l : fl_L), p_X0_makesAtOnce_5 n x2 x3 x4 t s l → ab_C G (d + 3) 0 0 M_X0_makesAtOnce 5 [some (.ref 55), some (.ref t), some (.int x2), some (.int x3), some (.int x4)] [] (hp D s l) (rt (some (.int (f_X0_makesAtOnce_5 n x2 x3 x4 t s l).1)) (hp D (f_X0_makesAtOnce_5 n x2 x3 x4 t s l).2.1 (f_X0_makesAtOnce_5 n x2 x3 x4 t s l).2.2)) := by
  intro n
  induction n with
  | zero => intro x2 x3 x4 s l hk; exact hk.elim
  | succ n ih =>
    intro x2 x3 x4 s l hk
    generalize he : f_X0_makesAtOnce_5 (n + 1) x2 x3 x4 t s l = res
    unfold f_X0_makesAtOnce_5 at he
    unfold p_X0_makesAtOnce_5 at hk
    refine r_iload rfl rfl ?_
    refine r_aload_n rfl rfl ?_
    refine q_getfield rfl (cT_0 htt) rfl ?_
    refine r_icmp_ge rfl (fun c_11 => ?_) (fun c_11 => ?_)
    · rw [if_pos c_11] at he
      replace hk := hk.1 c_11
      refine r_iconst_ (a := 0) rfl (by decide) ?_
      refine r_istore rfl (Nat.le_of_ble_eq_true rfl) rfl ?_
      subst he
      exact r_weak (L1 := [some (.ref 55), some (.ref t), some (.int x2), some (.int x3), some (.int (0 : Int32))]) ⟨rfl, rfl, rfl, rfl, rfl, trivial⟩ (lp_X0_makesAtOnce_47 htt fu _ _ _ _ _ hk)
    · rw [if_neg c_11] at he
      replace hk := hk.2 c_11
      refine r_iload_n rfl rfl ?_
      refine r_iload rfl rfl ?_
      refine r_ishr rfl ?_
      refine r_iconst_ (a := 1) rfl (by decide) ?_
      refine r_iand rfl ?_
      refine r_iconst_ (a := 1) rfl (by decide) ?_
      refine r_icmp_ne rfl (fun c_21 => ?_) (fun c_21 => ?_)
      · rw [if_neg c_21] at he
        replace hk := hk.2 c_21
        refine r_iinc (b := x4 + 1) rfl rfl rfl (Nat.le_of_ble_eq_true rfl) rfl ?_
        refine r_goto rfl ?_
        subst he
        exact r_weak (L1 := [some (.ref 55), some (.ref t), some (.int x2), some (.int x3), some (.int (x4 + 1))]) ⟨rfl, rfl, rfl, rfl, rfl, trivial⟩ (ih _ _ _ _ _ hk)
      · rw [if_pos c_21] at he
        replace hk := hk.1 c_21
        refine r_iload_n rfl rfl ?_
        refine r_aload_n rfl rfl ?_
        refine r_aload_n rfl rfl ?_
        refine q_getfield rfl (cT_0 htt) rfl ?_
        refine r_iload rfl rfl ?_
        obtain ⟨hb2, hk⟩ := hk
        refine q_lald rfl (cT_2 htt) hb2 ?_
        obtain ⟨hb3, hk⟩ := hk
        refine q_callV0 [_] _ rfl kY_X0_takeOut kT_X0_takeOut rfl rfl (Nat.le_of_ble_eq_true rfl) (Nat.le_of_ble_eq_true rfl) (cc_55 _) (s_X0_takeOut hb3) (fun r h q => ?_)
        obtain ⟨rfl, rfl⟩ := q
        simp only [Option.toList, List.cons_append, List.nil_append]
        refine r_iadd rfl ?_
        refine r_istore_n rfl (Nat.le_of_ble_eq_true rfl) rfl ?_
        refine r_iinc (b := x4 + 1) rfl rfl rfl (Nat.le_of_ble_eq_true rfl) rfl ?_
        refine r_goto rfl ?_
        subst he
        exact r_weak (L1 := [some (.ref 55), some (.ref t), some (.int x2), some (.int (x3 + (f_X0_takeOut (l (t + 2) x4.toNatClampNeg) s l).1)), some (.int (x4 + 1))]) ⟨rfl, rfl, rfl, rfl, rfl, trivial⟩ (ih _ _ _ _ _ hk)

def f_X0_makesAtOnce (v1 : Int32) (t : Nat) (s : fl_I) (l : fl_L) : Int32 × fl_I × fl_L :=
  f_X0_makesAtOnce_5 fu v1 (0 : Int32) (0 : Int32) t s l

def p_X0_makesAtOnce (v1 : Int32) (t : Nat) (s : fl_I) (l : fl_L) : Prop :=
  p_X0_makesAtOnce_5 fu v1 (0 : Int32) (0 : Int32) t s l

set_option maxRecDepth 100000 in
set_option maxHeartbeats 4000000 in
theorem s_X0_makesAtOnce {G : ab_G} {d : Nat} {D : fl_D} {s : fl_I} {l : fl_L} {t : Nat} (htt : isT t) {v1 : Int32} (hk : p_X0_makesAtOnce v1 t s l) : ab_C G (d + 3) 0 0 M_X0_makesAtOnce 0 (ab_ent [.ref 55, .ref t, .int v1]) [] (hp D s l) (rt (some (.int (f_X0_makesAtOnce v1 t s l).1)) (hp D (f_X0_makesAtOnce v1 t s l).2.1 (f_X0_makesAtOnce v1 t s l).2.2)) := by
  generalize he : (f_X0_makesAtOnce v1 t s l) = res
  unfold f_X0_makesAtOnce at he
  unfold p_X0_makesAtOnce at hk
  refine r_weak (L1 := [some (.ref 55), some (.ref t), some (.int v1), none, none]) ⟨rfl, rfl, rfl, trivial⟩ ?_
  refine r_iconst_ (a := 0) rfl (by decide) ?_
  refine r_istore_n rfl (Nat.le_of_ble_eq_true rfl) rfl ?_
  refine r_iconst_ (a := 0) rfl (by decide) ?_
  refine r_istore rfl (Nat.le_of_ble_eq_true rfl) rfl ?_
  subst he
  exact r_weak (L1 := [some (.ref 55), some (.ref t), some (.int v1), some (.int (0 : Int32)), some (.int (0 : Int32))]) ⟨rfl, rfl, rfl, rfl, rfl, trivial⟩ (lp_X0_makesAtOnce_5 htt fu _ _ _ _ _ hk)

def f_X3_ifTold_47 (t : Nat) (s : fl_I) (l : fl_L) : Int32 × fl_I × fl_L :=
    ((0 : Int32), s, l)

def p_X3_ifTold_47 (t : Nat) (s : fl_I) (l : fl_L) : Prop :=
    True

set_option maxRecDepth 100000 in
set_option maxHeartbeats 4000000 in
theorem lp_X3_ifTold_47 {G : ab_G} {d : Nat} {D : fl_D} {t : Nat} (htt : isT t) : ∀ (s : fl_I) (l : fl_L), p_X3_ifTold_47  t s l → ab_C G (d + 33) 0 0 M_X3_ifTold 47 [none, none, none] [] (hp D s l) (rt (some (.int (f_X3_ifTold_47  t s l).1)) (hp D (f_X3_ifTold_47  t s l).2.1 (f_X3_ifTold_47  t s l).2.2)) := by
  intro  s l hk
  generalize he : f_X3_ifTold_47  t s l = res
  unfold f_X3_ifTold_47 at he
  unfold p_X3_ifTold_47 at hk
  refine r_iconst_ (a := 0) rfl (by decide) ?_
  refine r_iret rfl rfl rfl ?_
  subst he
  exact ⟨rfl, rfl⟩

def f_X3_ifTold_84 (t : Nat) (s : fl_I) (l : fl_L) : Int32 × fl_I × fl_L :=
    ((0 : Int32), s, l)

def p_X3_ifTold_84 (t : Nat) (s : fl_I) (l : fl_L) : Prop :=
    True

set_option maxRecDepth 100000 in
set_option maxHeartbeats 4000000 in
theorem lp_X3_ifTold_84 {G : ab_G} {d : Nat} {D : fl_D} {t : Nat} (htt : isT t) : ∀ (s : fl_I) (l : fl_L), p_X3_ifTold_84  t s l → ab_C G (d + 33) 0 0 M_X3_ifTold 84 [none, none, none] [] (hp D s l) (rt (some (.int (f_X3_ifTold_84  t s l).1)) (hp D (f_X3_ifTold_84  t s l).2.1 (f_X3_ifTold_84  t s l).2.2)) := by
  intro  s l hk
  generalize he : f_X3_ifTold_84  t s l = res
  unfold f_X3_ifTold_84 at he
  unfold p_X3_ifTold_84 at hk
  refine r_iconst_ (a := 0) rfl (by decide) ?_
  refine r_iret rfl rfl rfl ?_
  subst he
  exact ⟨rfl, rfl⟩

def f_X3_ifTold_101 (t : Nat) (s : fl_I) (l : fl_L) : Int32 × fl_I × fl_L :=
    ((1 : Int32), s, l)

def p_X3_ifTold_101 (t : Nat) (s : fl_I) (l : fl_L) : Prop :=
    True

set_option maxRecDepth 100000 in
set_option maxHeartbeats 4000000 in
theorem lp_X3_ifTold_101 {G : ab_G} {d : Nat} {D : fl_D} {t : Nat} (htt : isT t) : ∀ (s : fl_I) (l : fl_L), p_X3_ifTold_101  t s l → ab_C G (d + 33) 0 0 M_X3_ifTold 101 [none, none, none] [] (hp D s l) (rt (some (.int (f_X3_ifTold_101  t s l).1)) (hp D (f_X3_ifTold_101  t s l).2.1 (f_X3_ifTold_101  t s l).2.2)) := by
  intro  s l hk
  generalize he : f_X3_ifTold_101  t s l = res
  unfold f_X3_ifTold_101 at he
  unfold p_X3_ifTold_101 at hk
  refine r_iconst_ (a := 1) rfl (by decide) ?_
  refine r_iret rfl rfl rfl ?_
  subst he
  exact ⟨rfl, rfl⟩

def f_X3_ifTold_92 (x2 : Int32) (t : Nat) (s : fl_I) (l : fl_L) : Int32 × fl_I × fl_L :=
    f_X3_ifTold_101  t (f_X5_setCode x2 (s t 14) t s l).1 (f_X5_setCode x2 (s t 14) t s l).2

def p_X3_ifTold_92 (x2 : Int32) (t : Nat) (s : fl_I) (l : fl_L) : Prop :=
    (p_X5_setCode x2 (s t 14) t s l) ∧ p_X3_ifTold_101  t (f_X5_setCode x2 (s t 14) t s l).1 (f_X5_setCode x2 (s t 14) t s l).2

set_option maxRecDepth 100000 in
set_option maxHeartbeats 4000000 in
theorem lp_X3_ifTold_92 {G : ab_G} {d : Nat} {D : fl_D} {t : Nat} (htt : isT t) : ∀ (x2 : Int32) (s : fl_I) (l : fl_L), p_X3_ifTold_92 x2 t s l → ab_C G (d + 33) 0 0 M_X3_ifTold 92 [none, some (.ref t), some (.int x2)] [] (hp D s l) (rt (some (.int (f_X3_ifTold_92 x2 t s l).1)) (hp D (f_X3_ifTold_92 x2 t s l).2.1 (f_X3_ifTold_92 x2 t s l).2.2)) := by
  intro x2 s l hk
  generalize he : f_X3_ifTold_92 x2 t s l = res
  unfold f_X3_ifTold_92 at he
  unfold p_X3_ifTold_92 at hk
  refine r_aload_n rfl rfl ?_
  refine r_iload_n rfl rfl ?_
  refine r_aload_n rfl rfl ?_
  refine q_getfield rfl (cT_0 htt) rfl ?_
  obtain ⟨hb10, hk⟩ := hk
  refine q_callV0 [_, _] _ rfl kY_X5_setCode kT_X5_setCode rfl rfl (Nat.le_of_ble_eq_true rfl) (Nat.le_of_ble_eq_true rfl) (cT_0 htt) (s_X5_setCode htt hb10) (fun r h q => ?_)
  obtain ⟨rfl, rfl⟩ := q
  simp only [Option.toList, List.cons_append, List.nil_append]
  subst he
  exact r_weak (L1 := [none, none, none]) trivial (lp_X3_ifTold_101 htt _ _ hk)

def f_X3_ifTold_81 (x2 : Int32) (y0 : Int32) (t : Nat) (s : fl_I) (l : fl_L) : Int32 × fl_I × fl_L :=
    if (y0 = 0) then f_X3_ifTold_84  t s l else f_X3_ifTold_92 x2 t (f_X5_addCode (-6 : Int32) t s l).1 (f_X5_addCode (-6 : Int32) t s l).2

def p_X3_ifTold_81 (x2 : Int32) (y0 : Int32) (t : Nat) (s : fl_I) (l : fl_L) : Prop :=
    (((y0 = 0) → p_X3_ifTold_84  t s l) ∧ (¬ (y0 = 0) → (p_X5_addCode (-6 : Int32) t s l) ∧ p_X3_ifTold_92 x2 t (f_X5_addCode (-6 : Int32) t s l).1 (f_X5_addCode (-6 : Int32) t s l).2))

set_option maxRecDepth 100000 in
set_option maxHeartbeats 4000000 in
theorem lp_X3_ifTold_81 {G : ab_G} {d : Nat} {D : fl_D} {t : Nat} (htt : isT t) : ∀ (x2 : Int32) (y0 : Int32) (s : fl_I) (l : fl_L), p_X3_ifTold_81 x2 y0 t s l → ab_C G (d + 33) 0 0 M_X3_ifTold 81 [none, some (.ref t), some (.int x2)] [.int y0] (hp D s l) (rt (some (.int (f_X3_ifTold_81 x2 y0 t s l).1)) (hp D (f_X3_ifTold_81 x2 y0 t s l).2.1 (f_X3_ifTold_81 x2 y0 t s l).2.2)) := by
  intro x2 y0 s l hk
  generalize he : f_X3_ifTold_81 x2 y0 t s l = res
  unfold f_X3_ifTold_81 at he
  unfold p_X3_ifTold_81 at hk
  refine r_if_ne rfl (fun c_81 => ?_) (fun c_81 => ?_)
  · rw [if_neg c_81] at he
    replace hk := hk.2 c_81
    refine r_aload_n rfl rfl ?_
    refine r_bipush_ (a := -6) rfl (by decide) ?_
    obtain ⟨hb9, hk⟩ := hk
    refine q_callV0 [_] _ rfl kY_X5_addCode kT_X5_addCode rfl rfl (Nat.le_of_ble_eq_true rfl) (Nat.le_of_ble_eq_true rfl) (cT_0 htt) (s_X5_addCode htt hb9) (fun r h q => ?_)
    obtain ⟨rfl, rfl⟩ := q
    simp only [Option.toList, List.cons_append, List.nil_append]
    subst he
    exact r_weak (L1 := [none, some (.ref t), some (.int x2)]) ⟨rfl, rfl, trivial⟩ (lp_X3_ifTold_92 htt _ _ _ hk)
  · rw [if_pos c_81] at he
    replace hk := hk.1 c_81
    subst he
    exact r_weak (L1 := [none, none, none]) trivial (lp_X3_ifTold_84 htt _ _ hk)

def f_X3_ifTold_71 (x2 : Int32) (y0 : Int32) (t : Nat) (s : fl_I) (l : fl_L) : Int32 × fl_I × fl_L :=
    if (y0 = 0) then f_X3_ifTold_84  t s l else f_X3_ifTold_81 x2 (f_X3_take (267 : Int32) s l).1 t (f_X3_take (267 : Int32) s l).2.1 (f_X3_take (267 : Int32) s l).2.2

def p_X3_ifTold_71 (x2 : Int32) (y0 : Int32) (t : Nat) (s : fl_I) (l : fl_L) : Prop :=
    (((y0 = 0) → p_X3_ifTold_84  t s l) ∧ (¬ (y0 = 0) → (p_X3_take (267 : Int32) s l) ∧ p_X3_ifTold_81 x2 (f_X3_take (267 : Int32) s l).1 t (f_X3_take (267 : Int32) s l).2.1 (f_X3_take (267 : Int32) s l).2.2))

set_option maxRecDepth 100000 in
set_option maxHeartbeats 4000000 in
theorem lp_X3_ifTold_71 {G : ab_G} {d : Nat} {D : fl_D} {t : Nat} (htt : isT t) : ∀ (x2 : Int32) (y0 : Int32) (s : fl_I) (l : fl_L), p_X3_ifTold_71 x2 y0 t s l → ab_C G (d + 33) 0 0 M_X3_ifTold 71 [some (.ref 3), some (.ref t), some (.int x2)] [.int y0] (hp D s l) (rt (some (.int (f_X3_ifTold_71 x2 y0 t s l).1)) (hp D (f_X3_ifTold_71 x2 y0 t s l).2.1 (f_X3_ifTold_71 x2 y0 t s l).2.2)) := by
  intro x2 y0 s l hk
  generalize he : f_X3_ifTold_71 x2 y0 t s l = res
  unfold f_X3_ifTold_71 at he
  unfold p_X3_ifTold_71 at hk
  refine r_if_eq rfl (fun c_71 => ?_) (fun c_71 => ?_)
  · rw [if_pos c_71] at he
    replace hk := hk.1 c_71
    subst he
    exact r_weak (L1 := [none, none, none]) trivial (lp_X3_ifTold_84 htt _ _ hk)
  · rw [if_neg c_71] at he
    replace hk := hk.2 c_71
    refine r_aload_n rfl rfl ?_
    refine r_sipush_ (a := 267) rfl (by decide) ?_
    obtain ⟨hb8, hk⟩ := hk
    refine q_callV0 [_] _ rfl kY_X3_take kT_X3_take rfl rfl (Nat.le_of_ble_eq_true rfl) (Nat.le_of_ble_eq_true rfl) (cc_3 _) (s_X3_take hb8) (fun r h q => ?_)
    obtain ⟨rfl, rfl⟩ := q
    simp only [Option.toList, List.cons_append, List.nil_append]
    subst he
    exact r_weak (L1 := [none, some (.ref t), some (.int x2)]) ⟨rfl, rfl, trivial⟩ (lp_X3_ifTold_81 htt _ _ _ _ hk)

def f_X3_ifTold_65 (x2 : Int32) (t : Nat) (s : fl_I) (l : fl_L) : Int32 × fl_I × fl_L :=
    f_X3_ifTold_71 x2 (f_sumD 8 (0 : Int32) t s l).1 t (f_sumD 8 (0 : Int32) t s l).2.1 (f_sumD 8 (0 : Int32) t s l).2.2

def p_X3_ifTold_65 (x2 : Int32) (t : Nat) (s : fl_I) (l : fl_L) : Prop :=
    (p_sumD 8 (0 : Int32) t s l) ∧ p_X3_ifTold_71 x2 (f_sumD 8 (0 : Int32) t s l).1 t (f_sumD 8 (0 : Int32) t s l).2.1 (f_sumD 8 (0 : Int32) t s l).2.2

set_option maxRecDepth 100000 in
set_option maxHeartbeats 4000000 in
theorem lp_X3_ifTold_65 {G : ab_G} {d : Nat} {D : fl_D} {t : Nat} (htt : isT t) : ∀ (x2 : Int32) (s : fl_I) (l : fl_L), p_X3_ifTold_65 x2 t s l → ab_C G (d + 33) 0 0 M_X3_ifTold 65 [some (.ref 3), some (.ref t), some (.int x2)] [] (hp D s l) (rt (some (.int (f_X3_ifTold_65 x2 t s l).1)) (hp D (f_X3_ifTold_65 x2 t s l).2.1 (f_X3_ifTold_65 x2 t s l).2.2)) := by
  intro x2 s l hk
  generalize he : f_X3_ifTold_65 x2 t s l = res
  unfold f_X3_ifTold_65 at he
  unfold p_X3_ifTold_65 at hk
  refine r_aload_n rfl rfl ?_
  refine r_aload_n rfl rfl ?_
  refine r_iconst_ (a := 0) rfl (by decide) ?_
  obtain ⟨hb7, hk⟩ := hk
  refine q_callV0 [_, _] _ rfl kY_X3_sum kT_X3_sum rfl rfl (Nat.le_of_ble_eq_true rfl) (Nat.le_of_ble_eq_true rfl) (cc_3 _) (s_sum8 htt hb7) (fun r h q => ?_)
  obtain ⟨rfl, rfl⟩ := q
  simp only [Option.toList, List.cons_append, List.nil_append]
  subst he
  exact r_weak (L1 := [some (.ref 3), some (.ref t), some (.int x2)]) ⟨rfl, rfl, rfl, trivial⟩ (lp_X3_ifTold_71 htt _ _ _ _ hk)

def f_X3_ifTold_55 (t : Nat) (s : fl_I) (l : fl_L) : Int32 × fl_I × fl_L :=
    f_X3_ifTold_65 (s t 14) t (f_X5_addCode (0 : Int32) t s l).1 (f_X5_addCode (0 : Int32) t s l).2

def p_X3_ifTold_55 (t : Nat) (s : fl_I) (l : fl_L) : Prop :=
    (p_X5_addCode (0 : Int32) t s l) ∧ p_X3_ifTold_65 (s t 14) t (f_X5_addCode (0 : Int32) t s l).1 (f_X5_addCode (0 : Int32) t s l).2

set_option maxRecDepth 100000 in
set_option maxHeartbeats 4000000 in
theorem lp_X3_ifTold_55 {G : ab_G} {d : Nat} {D : fl_D} {t : Nat} (htt : isT t) : ∀ (s : fl_I) (l : fl_L), p_X3_ifTold_55  t s l → ab_C G (d + 33) 0 0 M_X3_ifTold 55 [some (.ref 3), some (.ref t), none] [] (hp D s l) (rt (some (.int (f_X3_ifTold_55  t s l).1)) (hp D (f_X3_ifTold_55  t s l).2.1 (f_X3_ifTold_55  t s l).2.2)) := by
  intro  s l hk
  generalize he : f_X3_ifTold_55  t s l = res
  unfold f_X3_ifTold_55 at he
  unfold p_X3_ifTold_55 at hk
  refine r_aload_n rfl rfl ?_
  refine q_getfield rfl (cT_0 htt) rfl ?_
  refine r_istore_n rfl (Nat.le_of_ble_eq_true rfl) rfl ?_
  refine r_aload_n rfl rfl ?_
  refine r_iconst_ (a := 0) rfl (by decide) ?_
  obtain ⟨hb6, hk⟩ := hk
  refine q_callV0 [_] _ rfl kY_X5_addCode kT_X5_addCode rfl rfl (Nat.le_of_ble_eq_true rfl) (Nat.le_of_ble_eq_true rfl) (cT_0 htt) (s_X5_addCode htt hb6) (fun r h q => ?_)
  obtain ⟨rfl, rfl⟩ := q
  simp only [Option.toList, List.cons_append, List.nil_append]
  subst he
  exact r_weak (L1 := [some (.ref 3), some (.ref t), some (.int (s t 14))]) ⟨rfl, rfl, rfl, trivial⟩ (lp_X3_ifTold_65 htt _ _ _ hk)

def f_X3_ifTold_44 (y0 : Int32) (t : Nat) (s : fl_I) (l : fl_L) : Int32 × fl_I × fl_L :=
    if (y0 = 0) then f_X3_ifTold_47  t s l else f_X3_ifTold_55  t (f_X5_addCode (-5 : Int32) t s l).1 (f_X5_addCode (-5 : Int32) t s l).2

def p_X3_ifTold_44 (y0 : Int32) (t : Nat) (s : fl_I) (l : fl_L) : Prop :=
    (((y0 = 0) → p_X3_ifTold_47  t s l) ∧ (¬ (y0 = 0) → (p_X5_addCode (-5 : Int32) t s l) ∧ p_X3_ifTold_55  t (f_X5_addCode (-5 : Int32) t s l).1 (f_X5_addCode (-5 : Int32) t s l).2))

set_option maxRecDepth 100000 in
set_option maxHeartbeats 4000000 in
theorem lp_X3_ifTold_44 {G : ab_G} {d : Nat} {D : fl_D} {t : Nat} (htt : isT t) : ∀ (y0 : Int32) (s : fl_I) (l : fl_L), p_X3_ifTold_44 y0 t s l → ab_C G (d + 33) 0 0 M_X3_ifTold 44 [some (.ref 3), some (.ref t), none] [.int y0] (hp D s l) (rt (some (.int (f_X3_ifTold_44 y0 t s l).1)) (hp D (f_X3_ifTold_44 y0 t s l).2.1 (f_X3_ifTold_44 y0 t s l).2.2)) := by
  intro y0 s l hk
  generalize he : f_X3_ifTold_44 y0 t s l = res
  unfold f_X3_ifTold_44 at he
  unfold p_X3_ifTold_44 at hk
  refine r_if_ne rfl (fun c_44 => ?_) (fun c_44 => ?_)
  · rw [if_neg c_44] at he
    replace hk := hk.2 c_44
    refine r_aload_n rfl rfl ?_
    refine r_bipush_ (a := -5) rfl (by decide) ?_
    obtain ⟨hb5, hk⟩ := hk
    refine q_callV0 [_] _ rfl kY_X5_addCode kT_X5_addCode rfl rfl (Nat.le_of_ble_eq_true rfl) (Nat.le_of_ble_eq_true rfl) (cT_0 htt) (s_X5_addCode htt hb5) (fun r h q => ?_)
    obtain ⟨rfl, rfl⟩ := q
    simp only [Option.toList, List.cons_append, List.nil_append]
    subst he
    exact r_weak (L1 := [some (.ref 3), some (.ref t), none]) ⟨rfl, rfl, trivial⟩ (lp_X3_ifTold_55 htt _ _ hk)
  · rw [if_pos c_44] at he
    replace hk := hk.1 c_44
    subst he
    exact r_weak (L1 := [none, none, none]) trivial (lp_X3_ifTold_47 htt _ _ hk)

def f_X3_ifTold_34 (y0 : Int32) (t : Nat) (s : fl_I) (l : fl_L) : Int32 × fl_I × fl_L :=
    if (y0 = 0) then f_X3_ifTold_47  t s l else f_X3_ifTold_44 (f_X3_take (266 : Int32) s l).1 t (f_X3_take (266 : Int32) s l).2.1 (f_X3_take (266 : Int32) s l).2.2

def p_X3_ifTold_34 (y0 : Int32) (t : Nat) (s : fl_I) (l : fl_L) : Prop :=
    (((y0 = 0) → p_X3_ifTold_47  t s l) ∧ (¬ (y0 = 0) → (p_X3_take (266 : Int32) s l) ∧ p_X3_ifTold_44 (f_X3_take (266 : Int32) s l).1 t (f_X3_take (266 : Int32) s l).2.1 (f_X3_take (266 : Int32) s l).2.2))

set_option maxRecDepth 100000 in
set_option maxHeartbeats 4000000 in
theorem lp_X3_ifTold_34 {G : ab_G} {d : Nat} {D : fl_D} {t : Nat} (htt : isT t) : ∀ (y0 : Int32) (s : fl_I) (l : fl_L), p_X3_ifTold_34 y0 t s l → ab_C G (d + 33) 0 0 M_X3_ifTold 34 [some (.ref 3), some (.ref t), none] [.int y0] (hp D s l) (rt (some (.int (f_X3_ifTold_34 y0 t s l).1)) (hp D (f_X3_ifTold_34 y0 t s l).2.1 (f_X3_ifTold_34 y0 t s l).2.2)) := by
  intro y0 s l hk
  generalize he : f_X3_ifTold_34 y0 t s l = res
  unfold f_X3_ifTold_34 at he
  unfold p_X3_ifTold_34 at hk
  refine r_if_eq rfl (fun c_34 => ?_) (fun c_34 => ?_)
  · rw [if_pos c_34] at he
    replace hk := hk.1 c_34
    subst he
    exact r_weak (L1 := [none, none, none]) trivial (lp_X3_ifTold_47 htt _ _ hk)
  · rw [if_neg c_34] at he
    replace hk := hk.2 c_34
    refine r_aload_n rfl rfl ?_
    refine r_sipush_ (a := 266) rfl (by decide) ?_
    obtain ⟨hb4, hk⟩ := hk
    refine q_callV0 [_] _ rfl kY_X3_take kT_X3_take rfl rfl (Nat.le_of_ble_eq_true rfl) (Nat.le_of_ble_eq_true rfl) (cc_3 _) (s_X3_take hb4) (fun r h q => ?_)
    obtain ⟨rfl, rfl⟩ := q
    simp only [Option.toList, List.cons_append, List.nil_append]
    subst he
    exact r_weak (L1 := [some (.ref 3), some (.ref t), none]) ⟨rfl, rfl, trivial⟩ (lp_X3_ifTold_44 htt _ _ _ hk)

def f_X3_ifTold_25 (y0 : Int32) (t : Nat) (s : fl_I) (l : fl_L) : Int32 × fl_I × fl_L :=
    if (y0 = 0) then f_X3_ifTold_47  t s l else f_X3_ifTold_34 (f_sumD 8 (0 : Int32) t s l).1 t (f_sumD 8 (0 : Int32) t s l).2.1 (f_sumD 8 (0 : Int32) t s l).2.2

def p_X3_ifTold_25 (y0 : Int32) (t : Nat) (s : fl_I) (l : fl_L) : Prop :=
    (((y0 = 0) → p_X3_ifTold_47  t s l) ∧ (¬ (y0 = 0) → (p_sumD 8 (0 : Int32) t s l) ∧ p_X3_ifTold_34 (f_sumD 8 (0 : Int32) t s l).1 t (f_sumD 8 (0 : Int32) t s l).2.1 (f_sumD 8 (0 : Int32) t s l).2.2))

set_option maxRecDepth 100000 in
set_option maxHeartbeats 4000000 in
theorem lp_X3_ifTold_25 {G : ab_G} {d : Nat} {D : fl_D} {t : Nat} (htt : isT t) : ∀ (y0 : Int32) (s : fl_I) (l : fl_L), p_X3_ifTold_25 y0 t s l → ab_C G (d + 33) 0 0 M_X3_ifTold 25 [some (.ref 3), some (.ref t), none] [.int y0] (hp D s l) (rt (some (.int (f_X3_ifTold_25 y0 t s l).1)) (hp D (f_X3_ifTold_25 y0 t s l).2.1 (f_X3_ifTold_25 y0 t s l).2.2)) := by
  intro y0 s l hk
  generalize he : f_X3_ifTold_25 y0 t s l = res
  unfold f_X3_ifTold_25 at he
  unfold p_X3_ifTold_25 at hk
  refine r_if_eq rfl (fun c_25 => ?_) (fun c_25 => ?_)
  · rw [if_pos c_25] at he
    replace hk := hk.1 c_25
    subst he
    exact r_weak (L1 := [none, none, none]) trivial (lp_X3_ifTold_47 htt _ _ hk)
  · rw [if_neg c_25] at he
    replace hk := hk.2 c_25
    refine r_aload_n rfl rfl ?_
    refine r_aload_n rfl rfl ?_
    refine r_iconst_ (a := 0) rfl (by decide) ?_
    obtain ⟨hb3, hk⟩ := hk
    refine q_callV0 [_, _] _ rfl kY_X3_sum kT_X3_sum rfl rfl (Nat.le_of_ble_eq_true rfl) (Nat.le_of_ble_eq_true rfl) (cc_3 _) (s_sum8 htt hb3) (fun r h q => ?_)
    obtain ⟨rfl, rfl⟩ := q
    simp only [Option.toList, List.cons_append, List.nil_append]
    subst he
    exact r_weak (L1 := [some (.ref 3), some (.ref t), none]) ⟨rfl, rfl, trivial⟩ (lp_X3_ifTold_34 htt _ _ _ hk)

def f_X3_ifTold_16 (y0 : Int32) (t : Nat) (s : fl_I) (l : fl_L) : Int32 × fl_I × fl_L :=
    if (y0 = 0) then f_X3_ifTold_47  t s l else f_X3_ifTold_25 (f_X3_take (60 : Int32) s l).1 t (f_X3_take (60 : Int32) s l).2.1 (f_X3_take (60 : Int32) s l).2.2

def p_X3_ifTold_16 (y0 : Int32) (t : Nat) (s : fl_I) (l : fl_L) : Prop :=
    (((y0 = 0) → p_X3_ifTold_47  t s l) ∧ (¬ (y0 = 0) → (p_X3_take (60 : Int32) s l) ∧ p_X3_ifTold_25 (f_X3_take (60 : Int32) s l).1 t (f_X3_take (60 : Int32) s l).2.1 (f_X3_take (60 : Int32) s l).2.2))

set_option maxRecDepth 100000 in
set_option maxHeartbeats 4000000 in
theorem lp_X3_ifTold_16 {G : ab_G} {d : Nat} {D : fl_D} {t : Nat} (htt : isT t) : ∀ (y0 : Int32) (s : fl_I) (l : fl_L), p_X3_ifTold_16 y0 t s l → ab_C G (d + 33) 0 0 M_X3_ifTold 16 [some (.ref 3), some (.ref t), none] [.int y0] (hp D s l) (rt (some (.int (f_X3_ifTold_16 y0 t s l).1)) (hp D (f_X3_ifTold_16 y0 t s l).2.1 (f_X3_ifTold_16 y0 t s l).2.2)) := by
  intro y0 s l hk
  generalize he : f_X3_ifTold_16 y0 t s l = res
  unfold f_X3_ifTold_16 at he
  unfold p_X3_ifTold_16 at hk
  refine r_if_eq rfl (fun c_16 => ?_) (fun c_16 => ?_)
  · rw [if_pos c_16] at he
    replace hk := hk.1 c_16
    subst he
    exact r_weak (L1 := [none, none, none]) trivial (lp_X3_ifTold_47 htt _ _ hk)
  · rw [if_neg c_16] at he
    replace hk := hk.2 c_16
    refine r_aload_n rfl rfl ?_
    refine r_bipush_ (a := 60) rfl (by decide) ?_
    obtain ⟨hb2, hk⟩ := hk
    refine q_callV0 [_] _ rfl kY_X3_take kT_X3_take rfl rfl (Nat.le_of_ble_eq_true rfl) (Nat.le_of_ble_eq_true rfl) (cc_3 _) (s_X3_take hb2) (fun r h q => ?_)
    obtain ⟨rfl, rfl⟩ := q
    simp only [Option.toList, List.cons_append, List.nil_append]
    subst he
    exact r_weak (L1 := [some (.ref 3), some (.ref t), none]) ⟨rfl, rfl, trivial⟩ (lp_X3_ifTold_25 htt _ _ _ hk)

def f_X3_ifTold_7 (y0 : Int32) (t : Nat) (s : fl_I) (l : fl_L) : Int32 × fl_I × fl_L :=
    if (y0 = 0) then f_X3_ifTold_47  t s l else f_X3_ifTold_16 (f_sumD 8 (0 : Int32) t s l).1 t (f_sumD 8 (0 : Int32) t s l).2.1 (f_sumD 8 (0 : Int32) t s l).2.2

def p_X3_ifTold_7 (y0 : Int32) (t : Nat) (s : fl_I) (l : fl_L) : Prop :=
    (((y0 = 0) → p_X3_ifTold_47  t s l) ∧ (¬ (y0 = 0) → (p_sumD 8 (0 : Int32) t s l) ∧ p_X3_ifTold_16 (f_sumD 8 (0 : Int32) t s l).1 t (f_sumD 8 (0 : Int32) t s l).2.1 (f_sumD 8 (0 : Int32) t s l).2.2))

set_option maxRecDepth 100000 in
set_option maxHeartbeats 4000000 in
theorem lp_X3_ifTold_7 {G : ab_G} {d : Nat} {D : fl_D} {t : Nat} (htt : isT t) : ∀ (y0 : Int32) (s : fl_I) (l : fl_L), p_X3_ifTold_7 y0 t s l → ab_C G (d + 33) 0 0 M_X3_ifTold 7 [some (.ref 3), some (.ref t), none] [.int y0] (hp D s l) (rt (some (.int (f_X3_ifTold_7 y0 t s l).1)) (hp D (f_X3_ifTold_7 y0 t s l).2.1 (f_X3_ifTold_7 y0 t s l).2.2)) := by
  intro y0 s l hk
  generalize he : f_X3_ifTold_7 y0 t s l = res
  unfold f_X3_ifTold_7 at he
  unfold p_X3_ifTold_7 at hk
  refine r_if_eq rfl (fun c_7 => ?_) (fun c_7 => ?_)
  · rw [if_pos c_7] at he
    replace hk := hk.1 c_7
    subst he
    exact r_weak (L1 := [none, none, none]) trivial (lp_X3_ifTold_47 htt _ _ hk)
  · rw [if_neg c_7] at he
    replace hk := hk.2 c_7
    refine r_aload_n rfl rfl ?_
    refine r_aload_n rfl rfl ?_
    refine r_iconst_ (a := 0) rfl (by decide) ?_
    obtain ⟨hb1, hk⟩ := hk
    refine q_callV0 [_, _] _ rfl kY_X3_sum kT_X3_sum rfl rfl (Nat.le_of_ble_eq_true rfl) (Nat.le_of_ble_eq_true rfl) (cc_3 _) (s_sum8 htt hb1) (fun r h q => ?_)
    obtain ⟨rfl, rfl⟩ := q
    simp only [Option.toList, List.cons_append, List.nil_append]
    subst he
    exact r_weak (L1 := [some (.ref 3), some (.ref t), none]) ⟨rfl, rfl, trivial⟩ (lp_X3_ifTold_16 htt _ _ _ hk)

def f_X3_ifTold (t : Nat) (s : fl_I) (l : fl_L) : Int32 × fl_I × fl_L :=
  f_X3_ifTold_7 (f_X3_take (265 : Int32) s l).1 t (f_X3_take (265 : Int32) s l).2.1 (f_X3_take (265 : Int32) s l).2.2

def p_X3_ifTold (t : Nat) (s : fl_I) (l : fl_L) : Prop :=
  (p_X3_take (265 : Int32) s l) ∧ p_X3_ifTold_7 (f_X3_take (265 : Int32) s l).1 t (f_X3_take (265 : Int32) s l).2.1 (f_X3_take (265 : Int32) s l).2.2

set_option maxRecDepth 100000 in
set_option maxHeartbeats 4000000 in
theorem s_X3_ifTold {G : ab_G} {d : Nat} {D : fl_D} {s : fl_I} {l : fl_L} {t : Nat} (htt : isT t)  (hk : p_X3_ifTold t s l) : ab_C G (d + 33) 0 0 M_X3_ifTold 0 (ab_ent [.ref 3, .ref t]) [] (hp D s l) (rt (some (.int (f_X3_ifTold t s l).1)) (hp D (f_X3_ifTold t s l).2.1 (f_X3_ifTold t s l).2.2)) := by
  generalize he : (f_X3_ifTold t s l) = res
  unfold f_X3_ifTold at he
  unfold p_X3_ifTold at hk
  refine r_weak (L1 := [some (.ref 3), some (.ref t), none]) ⟨rfl, rfl, trivial⟩ ?_
  refine r_aload_n rfl rfl ?_
  refine r_sipush_ (a := 265) rfl (by decide) ?_
  obtain ⟨hb0, hk⟩ := hk
  refine q_callV0 [_] _ rfl kY_X3_take kT_X3_take rfl rfl (Nat.le_of_ble_eq_true rfl) (Nat.le_of_ble_eq_true rfl) (cc_3 _) (s_X3_take hb0) (fun r h q => ?_)
  obtain ⟨rfl, rfl⟩ := q
  simp only [Option.toList, List.cons_append, List.nil_append]
  subst he
  exact r_weak (L1 := [some (.ref 3), some (.ref t), none]) ⟨rfl, rfl, trivial⟩ (lp_X3_ifTold_7 htt _ _ _ hk)

def f_X7_bestQuestion_31 (K18 : Int32 → Int32 → Int32 → Int32 → Int32) : Nat → Int32 → Int32 → Int32 → Int32 → Int32 → Int32 → Nat → fl_I → fl_L → Int32
  | 0, _, _, _, _, _, _, _, _, _ => 0
  | n + 1, x2, x3, x4, x5, x6, x7, t, s, l =>
    if ((s t 1) ≤ x7) then if (x4 ≤ (i_max x6 ((f_J6_bitCount_0f7a4 x2) - x6))) then K18 x2 x3 x4 (x5 + 1) else K18 x2 x5 (i_max x6 ((f_J6_bitCount_0f7a4 x2) - x6)) (x5 + 1) else if (((x2 >>> (x7 &&& 31)) &&& (1 : Int32)) = (1 : Int32)) then if ((f_X7_hasSign (l (t + 2) x7.toNatClampNeg) x5) = 0) then f_X7_bestQuestion_31 K18 n x2 x3 x4 x5 x6 (x7 + 1) t s l else f_X7_bestQuestion_31 K18 n x2 x3 x4 x5 (x6 + 1) (x7 + 1) t s l else f_X7_bestQuestion_31 K18 n x2 x3 x4 x5 x6 (x7 + 1) t s l

def p_X7_bestQuestion_31 (P18 : Int32 → Int32 → Int32 → Int32 → Prop) : Nat → Int32 → Int32 → Int32 → Int32 → Int32 → Int32 → Nat → fl_I → fl_L → Prop
  | 0, _, _, _, _, _, _, _, _, _ => False
  | n + 1, x2, x3, x4, x5, x6, x7, t, s, l =>
    ((((s t 1) ≤ x7) → (p_J6_bitCount_0f7a4 x2) ∧ (((x4 ≤ (i_max x6 ((f_J6_bitCount_0f7a4 x2) - x6))) → P18 x2 x3 x4 (x5 + 1)) ∧ (¬ (x4 ≤ (i_max x6 ((f_J6_bitCount_0f7a4 x2) - x6))) → P18 x2 x5 (i_max x6 ((f_J6_bitCount_0f7a4 x2) - x6)) (x5 + 1)))) ∧ (¬ ((s t 1) ≤ x7) → (((((x2 >>> (x7 &&& 31)) &&& (1 : Int32)) = (1 : Int32)) → (vp_in x7 8) ∧ (p_X7_hasSign (l (t + 2) x7.toNatClampNeg) x5) ∧ ((((f_X7_hasSign (l (t + 2) x7.toNatClampNeg) x5) = 0) → p_X7_bestQuestion_31 P18 n x2 x3 x4 x5 x6 (x7 + 1) t s l) ∧ (¬ ((f_X7_hasSign (l (t + 2) x7.toNatClampNeg) x5) = 0) → p_X7_bestQuestion_31 P18 n x2 x3 x4 x5 (x6 + 1) (x7 + 1) t s l))) ∧ (¬ (((x2 >>> (x7 &&& 31)) &&& (1 : Int32)) = (1 : Int32)) → p_X7_bestQuestion_31 P18 n x2 x3 x4 x5 x6 (x7 + 1) t s l))))

set_option maxRecDepth 100000 in
set_option maxHeartbeats 4000000 in
theorem lp_X7_bestQuestion_31 {G : ab_G} {d : Nat} {D : fl_D} {s : fl_I} {l : fl_L} {t : Nat} (htt : isT t) (K18 : Int32 → Int32 → Int32 → Int32 → Int32) (P18 : Int32 → Int32 → Int32 → Int32 → Prop) (hK18 : ∀ (x2 : Int32) (x3 : Int32) (x4 : Int32) (x5 : Int32), P18 x2 x3 x4 x5 → ab_C G (d + 2) 0 0 M_X7_bestQuestion 18 [none, some (.ref t), some (.int x2), some (.int x3), some (.int x4), some (.int x5), none, none] [] (hp D s l) (rt (some (.int (K18 x2 x3 x4 x5))) (hp D s l))) : ∀ (n : Nat) (x2 : Int32) (x3 : Int32) (x4 : Int32) (x5 : Int32) (x6 : Int32) (x7 : Int32), p_X7_bestQuestion_31 P18 n x2 x3 x4 x5 x6 x7 t s l → ab_C G (d + 2) 0 0 M_X7_bestQuestion 31 [none, some (.ref t), some (.int x2), some (.int x3), some (.int x4), some (.int x5), some (.int x6), some (.int x7)] [] (hp D s l) (rt (some (.int (f_X7_bestQuestion_31 K18 n x2 x3 x4 x5 x6 x7 t s l))) (hp D s l)) := by
  intro n
  induction n with
  | zero => intro x2 x3 x4 x5 x6 x7 hk; exact hk.elim
  | succ n ih =>
    intro x2 x3 x4 x5 x6 x7 hk
    generalize he : f_X7_bestQuestion_31 K18 (n + 1) x2 x3 x4 x5 x6 x7 t s l = res
    unfold f_X7_bestQuestion_31 at he
    unfold p_X7_bestQuestion_31 at hk
    refine r_iload rfl rfl ?_
    refine r_aload_n rfl rfl ?_
    refine q_getfield rfl (cT_0 htt) rfl ?_
    refine r_icmp_ge rfl (fun c_37 => ?_) (fun c_37 => ?_)
    · rw [if_pos c_37] at he
      replace hk := hk.1 c_37
      refine r_iload rfl rfl ?_
      refine r_iload_n rfl rfl ?_
      obtain ⟨hb0, hk⟩ := hk
      refine r_callS0 [_] _ rfl kY_J6_bitCount_0f7a4 kT_J6_bitCount_0f7a4 rfl rfl (Nat.le_of_ble_eq_true rfl) (Nat.le_of_ble_eq_true rfl) (s_J6_bitCount_0f7a4 hb0) (fun r h q => ?_)
      obtain ⟨rfl, rfl⟩ := q
      simp only [Option.toList, List.cons_append, List.nil_append]
      refine r_iload rfl rfl ?_
      refine r_isub rfl ?_
      refine r_mmax rfl (Nat.le_of_ble_eq_true rfl) ?_
      refine r_istore rfl (Nat.le_of_ble_eq_true rfl) rfl ?_
      refine r_iload rfl rfl ?_
      refine r_iload rfl rfl ?_
      refine r_icmp_ge rfl (fun c_92 => ?_) (fun c_92 => ?_)
      · rw [if_pos c_92] at he
        replace hk := hk.1 c_92
        refine r_iinc (b := x5 + 1) rfl rfl rfl (Nat.le_of_ble_eq_true rfl) rfl ?_
        refine r_goto rfl ?_
        subst he
        exact r_weak (L1 := [none, some (.ref t), some (.int x2), some (.int x3), some (.int x4), some (.int (x5 + 1)), none, none]) ⟨rfl, rfl, rfl, rfl, rfl, trivial⟩ (hK18 _ _ _ _ hk)
      · rw [if_neg c_92] at he
        replace hk := hk.2 c_92
        refine r_iload rfl rfl ?_
        refine r_istore rfl (Nat.le_of_ble_eq_true rfl) rfl ?_
        refine r_iload rfl rfl ?_
        refine r_istore_n rfl (Nat.le_of_ble_eq_true rfl) rfl ?_
        refine r_iinc (b := x5 + 1) rfl rfl rfl (Nat.le_of_ble_eq_true rfl) rfl ?_
        refine r_goto rfl ?_
        subst he
        exact r_weak (L1 := [none, some (.ref t), some (.int x2), some (.int x5), some (.int (i_max x6 ((f_J6_bitCount_0f7a4 x2) - x6))), some (.int (x5 + 1)), none, none]) ⟨rfl, rfl, rfl, rfl, rfl, trivial⟩ (hK18 _ _ _ _ hk)
    · rw [if_neg c_37] at he
      replace hk := hk.2 c_37
      refine r_iload_n rfl rfl ?_
      refine r_iload rfl rfl ?_
      refine r_ishr rfl ?_
      refine r_iconst_ (a := 1) rfl (by decide) ?_
      refine r_iand rfl ?_
      refine r_iconst_ (a := 1) rfl (by decide) ?_
      refine r_icmp_ne rfl (fun c_47 => ?_) (fun c_47 => ?_)
      · rw [if_neg c_47] at he
        replace hk := hk.2 c_47
        refine r_iinc (b := x7 + 1) rfl rfl rfl (Nat.le_of_ble_eq_true rfl) rfl ?_
        refine r_goto rfl ?_
        subst he
        exact r_weak (L1 := [none, some (.ref t), some (.int x2), some (.int x3), some (.int x4), some (.int x5), some (.int x6), some (.int (x7 + 1))]) ⟨rfl, rfl, rfl, rfl, rfl, rfl, rfl, trivial⟩ (ih _ _ _ _ _ _ hk)
      · rw [if_pos c_47] at he
        replace hk := hk.1 c_47
        refine r_aload_n rfl rfl ?_
        refine q_getfield rfl (cT_0 htt) rfl ?_
        refine r_iload rfl rfl ?_
        obtain ⟨hb1, hk⟩ := hk
        refine q_lald rfl (cT_2 htt) hb1 ?_
        refine r_iload rfl rfl ?_
        obtain ⟨hb2, hk⟩ := hk
        refine r_callS0 [_, _] _ rfl kY_X7_hasSign kT_X7_hasSign rfl rfl (Nat.le_of_ble_eq_true rfl) (Nat.le_of_ble_eq_true rfl) (s_X7_hasSign hb2) (fun r h q => ?_)
        obtain ⟨rfl, rfl⟩ := q
        simp only [Option.toList, List.cons_append, List.nil_append]
        refine r_if_eq rfl (fun c_62 => ?_) (fun c_62 => ?_)
        · rw [if_pos c_62] at he
          replace hk := hk.1 c_62
          refine r_iinc (b := x7 + 1) rfl rfl rfl (Nat.le_of_ble_eq_true rfl) rfl ?_
          refine r_goto rfl ?_
          subst he
          exact r_weak (L1 := [none, some (.ref t), some (.int x2), some (.int x3), some (.int x4), some (.int x5), some (.int x6), some (.int (x7 + 1))]) ⟨rfl, rfl, rfl, rfl, rfl, rfl, rfl, trivial⟩ (ih _ _ _ _ _ _ hk)
        · rw [if_neg c_62] at he
          replace hk := hk.2 c_62
          refine r_iinc (b := x6 + 1) rfl rfl rfl (Nat.le_of_ble_eq_true rfl) rfl ?_
          refine r_iinc (b := x7 + 1) rfl rfl rfl (Nat.le_of_ble_eq_true rfl) rfl ?_
          refine r_goto rfl ?_
          subst he
          exact r_weak (L1 := [none, some (.ref t), some (.int x2), some (.int x3), some (.int x4), some (.int x5), some (.int (x6 + 1)), some (.int (x7 + 1))]) ⟨rfl, rfl, rfl, rfl, rfl, rfl, rfl, trivial⟩ (ih _ _ _ _ _ _ hk)

def f_X7_bestQuestion_18 : Nat → Int32 → Int32 → Int32 → Int32 → Nat → fl_I → fl_L → Int32
  | 0, _, _, _, _, _, _, _ => 0
  | n + 1, x2, x3, x4, x5, t, s, l =>
    if ((26 : Int32) < x5) then x3 else f_X7_bestQuestion_31 (fun x2 x3 x4 x5 => f_X7_bestQuestion_18 n x2 x3 x4 x5 t s l) fu x2 x3 x4 x5 (0 : Int32) (0 : Int32) t s l

def p_X7_bestQuestion_18 : Nat → Int32 → Int32 → Int32 → Int32 → Nat → fl_I → fl_L → Prop
  | 0, _, _, _, _, _, _, _ => False
  | n + 1, x2, x3, x4, x5, t, s, l =>
    ((((26 : Int32) < x5) → True) ∧ (¬ ((26 : Int32) < x5) → p_X7_bestQuestion_31 (fun x2 x3 x4 x5 => p_X7_bestQuestion_18 n x2 x3 x4 x5 t s l) fu x2 x3 x4 x5 (0 : Int32) (0 : Int32) t s l))

set_option maxRecDepth 100000 in
set_option maxHeartbeats 4000000 in
theorem lp_X7_bestQuestion_18 {G : ab_G} {d : Nat} {D : fl_D} {s : fl_I} {l : fl_L} {t : Nat} (htt : isT t) : ∀ (n : Nat) (x2 : Int32) (x3 : Int32) (x4 : Int32) (x5 : Int32), p_X7_bestQuestion_18 n x2 x3 x4 x5 t s l → ab_C G (d + 2) 0 0 M_X7_bestQuestion 18 [none, some (.ref t), some (.int x2), some (.int x3), some (.int x4), some (.int x5), none, none] [] (hp D s l) (rt (some (.int (f_X7_bestQuestion_18 n x2 x3 x4 x5 t s l))) (hp D s l)) := by
  intro n
  induction n with
  | zero => intro x2 x3 x4 x5 hk; exact hk.elim
  | succ n ih =>
    intro x2 x3 x4 x5 hk
    generalize he : f_X7_bestQuestion_18 (n + 1) x2 x3 x4 x5 t s l = res
    unfold f_X7_bestQuestion_18 at he
    unfold p_X7_bestQuestion_18 at hk
    refine r_iload rfl rfl ?_
    refine r_bipush_ (a := 26) rfl (by decide) ?_
    refine r_icmp_gt rfl (fun c_22 => ?_) (fun c_22 => ?_)
    · rw [if_pos c_22] at he
      replace hk := hk.1 c_22
      refine r_iload_n rfl rfl ?_
      refine r_iret rfl rfl rfl ?_
      subst he
      exact ⟨rfl, rfl⟩
    · rw [if_neg c_22] at he
      replace hk := hk.2 c_22
      refine r_iconst_ (a := 0) rfl (by decide) ?_
      refine r_istore rfl (Nat.le_of_ble_eq_true rfl) rfl ?_
      refine r_iconst_ (a := 0) rfl (by decide) ?_
      refine r_istore rfl (Nat.le_of_ble_eq_true rfl) rfl ?_
      subst he
      exact r_weak (L1 := [none, some (.ref t), some (.int x2), some (.int x3), some (.int x4), some (.int x5), some (.int (0 : Int32)), some (.int (0 : Int32))]) ⟨rfl, rfl, rfl, rfl, rfl, rfl, rfl, trivial⟩ (lp_X7_bestQuestion_31 htt _ _ (fun _ _ _ _ h9 => ih _ _ _ _ h9) fu _ _ _ _ _ _ hk)

def f_X7_bestQuestion (v1 : Int32) (t : Nat) (s : fl_I) (l : fl_L) : Int32 :=
  if (v1 = 0) then f_X7_bestQuestion_18 fu v1 (-2 : Int32) (0 : Int32) (1 : Int32) t s l else f_X7_bestQuestion_18 fu v1 (-2 : Int32) (9 : Int32) (1 : Int32) t s l

def p_X7_bestQuestion (v1 : Int32) (t : Nat) (s : fl_I) (l : fl_L) : Prop :=
  (((v1 = 0) → p_X7_bestQuestion_18 fu v1 (-2 : Int32) (0 : Int32) (1 : Int32) t s l) ∧ (¬ (v1 = 0) → p_X7_bestQuestion_18 fu v1 (-2 : Int32) (9 : Int32) (1 : Int32) t s l))

set_option maxRecDepth 100000 in
set_option maxHeartbeats 4000000 in
theorem s_X7_bestQuestion {G : ab_G} {d : Nat} {D : fl_D} {s : fl_I} {l : fl_L} {t : Nat} (htt : isT t) {v1 : Int32} (hk : p_X7_bestQuestion v1 t s l) : ab_C G (d + 2) 0 0 M_X7_bestQuestion 0 (ab_ent [.ref 57, .ref t, .int v1]) [] (hp D s l) (rt (some (.int (f_X7_bestQuestion v1 t s l))) (hp D s l)) := by
  generalize he : (f_X7_bestQuestion v1 t s l) = res
  unfold f_X7_bestQuestion at he
  unfold p_X7_bestQuestion at hk
  refine r_weak (L1 := [some (.ref 57), some (.ref t), some (.int v1), none, none, none, none, none]) ⟨rfl, rfl, rfl, trivial⟩ ?_
  refine r_bipush_ (a := -2) rfl (by decide) ?_
  refine r_istore_n rfl (Nat.le_of_ble_eq_true rfl) rfl ?_
  refine r_iload_n rfl rfl ?_
  refine r_if_ne rfl (fun c_4 => ?_) (fun c_4 => ?_)
  · rw [if_neg c_4] at he
    replace hk := hk.2 c_4
    refine r_bipush_ (a := 9) rfl (by decide) ?_
    refine r_istore rfl (Nat.le_of_ble_eq_true rfl) rfl ?_
    refine r_iconst_ (a := 1) rfl (by decide) ?_
    refine r_istore rfl (Nat.le_of_ble_eq_true rfl) rfl ?_
    subst he
    exact r_weak (L1 := [none, some (.ref t), some (.int v1), some (.int (-2 : Int32)), some (.int (9 : Int32)), some (.int (1 : Int32)), none, none]) ⟨rfl, rfl, rfl, rfl, rfl, trivial⟩ (lp_X7_bestQuestion_18 htt fu _ _ _ _ hk)
  · rw [if_pos c_4] at he
    replace hk := hk.1 c_4
    refine r_iconst_ (a := 0) rfl (by decide) ?_
    refine r_goto rfl ?_
    refine r_istore rfl (Nat.le_of_ble_eq_true rfl) rfl ?_
    refine r_iconst_ (a := 1) rfl (by decide) ?_
    refine r_istore rfl (Nat.le_of_ble_eq_true rfl) rfl ?_
    subst he
    exact r_weak (L1 := [none, some (.ref t), some (.int v1), some (.int (-2 : Int32)), some (.int (0 : Int32)), some (.int (1 : Int32)), none, none]) ⟨rfl, rfl, rfl, rfl, rfl, trivial⟩ (lp_X7_bestQuestion_18 htt fu _ _ _ _ hk)

def f_X12_tellLetter_97 (s : fl_I) (l : fl_L) : fl_I × fl_L :=
    (s, l)

def p_X12_tellLetter_97 (s : fl_I) (l : fl_L) : Prop :=
    True

set_option maxRecDepth 100000 in
set_option maxHeartbeats 4000000 in
theorem lp_X12_tellLetter_97 {G : ab_G} {d : Nat} {D : fl_D} : ∀ (s : fl_I) (l : fl_L), p_X12_tellLetter_97  s l → ab_C G (d + 4) 0 0 M_X12_tellLetter 97 [none, none] [] (hp D s l) (rt none (hp D (f_X12_tellLetter_97  s l).1 (f_X12_tellLetter_97  s l).2)) := by
  intro  s l hk
  generalize he : f_X12_tellLetter_97  s l = res
  unfold f_X12_tellLetter_97 at he
  unfold p_X12_tellLetter_97 at hk
  refine r_ret rfl rfl ?_
  subst he
  exact ⟨rfl, rfl⟩

def f_X12_tellLetter_77 (s : fl_I) (l : fl_L) : fl_I × fl_L :=
    if ((s 60 13) = 0) then f_X12_tellLetter_97  (wi s 68 (s 60 19).toNatClampNeg ((s 68 (s 60 19).toNatClampNeg) + (1 : Int32))) l else f_X12_tellLetter_97  s l

def p_X12_tellLetter_77 (s : fl_I) (l : fl_L) : Prop :=
    ((((s 60 13) = 0) → (vp_in (s 60 19) 2) ∧ (vp_in (s 60 19) 2) ∧ p_X12_tellLetter_97  (wi s 68 (s 60 19).toNatClampNeg ((s 68 (s 60 19).toNatClampNeg) + (1 : Int32))) l) ∧ (¬ ((s 60 13) = 0) → p_X12_tellLetter_97  s l))

set_option maxRecDepth 100000 in
set_option maxHeartbeats 4000000 in
theorem lp_X12_tellLetter_77 {G : ab_G} {d : Nat} {D : fl_D} : ∀ (s : fl_I) (l : fl_L), p_X12_tellLetter_77  s l → ab_C G (d + 4) 0 0 M_X12_tellLetter 77 [some (.ref 60), none] [] (hp D s l) (rt none (hp D (f_X12_tellLetter_77  s l).1 (f_X12_tellLetter_77  s l).2)) := by
  intro  s l hk
  generalize he : f_X12_tellLetter_77  s l = res
  unfold f_X12_tellLetter_77 at he
  unfold p_X12_tellLetter_77 at hk
  refine r_aload_n rfl rfl ?_
  refine q_getfield rfl (cc_60 _) rfl ?_
  refine r_if_ne rfl (fun c_81 => ?_) (fun c_81 => ?_)
  · rw [if_neg c_81] at he
    replace hk := hk.2 c_81
    subst he
    exact r_weak (L1 := [none, none]) trivial (lp_X12_tellLetter_97 _ _ hk)
  · rw [if_pos c_81] at he
    replace hk := hk.1 c_81
    refine r_aload_n rfl rfl ?_
    refine q_getfield rfl (cc_60 _) rfl ?_
    refine r_aload_n rfl rfl ?_
    refine q_getfield rfl (cc_60 _) rfl ?_
    refine r_dup2 rfl rfl rfl ?_
    obtain ⟨hb9, hk⟩ := hk
    refine q_iald rfl (cc_68 _) hb9 ?_
    refine r_iconst_ (a := 1) rfl (by decide) ?_
    refine r_iadd rfl ?_
    obtain ⟨hb10, hk⟩ := hk
    refine w_iast rfl (cc_68 _) hb10 ?_
    subst he
    exact r_weak (L1 := [none, none]) trivial (lp_X12_tellLetter_97 _ _ hk)

def f_X12_tellLetter_71 (y1 : Int32) (y2 : Int32) (s : fl_I) (l : fl_L) : fl_I × fl_L :=
    f_X12_tellLetter_77  (f_X12_must (4 : Int32) (wi s 71 y1.toNatClampNeg y2) l).1 (f_X12_must (4 : Int32) (wi s 71 y1.toNatClampNeg y2) l).2

def p_X12_tellLetter_71 (y1 : Int32) (y2 : Int32) (s : fl_I) (l : fl_L) : Prop :=
    (vp_in y1 8) ∧ (p_X12_must (4 : Int32) (wi s 71 y1.toNatClampNeg y2) l) ∧ p_X12_tellLetter_77  (f_X12_must (4 : Int32) (wi s 71 y1.toNatClampNeg y2) l).1 (f_X12_must (4 : Int32) (wi s 71 y1.toNatClampNeg y2) l).2

set_option maxRecDepth 100000 in
set_option maxHeartbeats 4000000 in
theorem lp_X12_tellLetter_71 {G : ab_G} {d : Nat} {D : fl_D} : ∀ (y1 : Int32) (y2 : Int32) (s : fl_I) (l : fl_L), p_X12_tellLetter_71 y1 y2 s l → ab_C G (d + 4) 0 0 M_X12_tellLetter 71 [some (.ref 60), none] [.int y2, .int y1, .ref 71] (hp D s l) (rt none (hp D (f_X12_tellLetter_71 y1 y2 s l).1 (f_X12_tellLetter_71 y1 y2 s l).2)) := by
  intro y1 y2 s l hk
  generalize he : f_X12_tellLetter_71 y1 y2 s l = res
  unfold f_X12_tellLetter_71 at he
  unfold p_X12_tellLetter_71 at hk
  obtain ⟨hb7, hk⟩ := hk
  refine w_iast rfl (cc_71 _) hb7 ?_
  refine r_aload_n rfl rfl ?_
  refine r_iconst_ (a := 4) rfl (by decide) ?_
  obtain ⟨hb8, hk⟩ := hk
  refine q_callV0 [_] _ rfl kY_X12_must kT_X12_must rfl rfl (Nat.le_of_ble_eq_true rfl) (Nat.le_of_ble_eq_true rfl) (cc_60 _) (s_X12_must hb8) (fun r h q => ?_)
  obtain ⟨rfl, rfl⟩ := q
  simp only [Option.toList, List.cons_append, List.nil_append]
  subst he
  exact r_weak (L1 := [some (.ref 60), none]) ⟨rfl, trivial⟩ (lp_X12_tellLetter_77 _ _ hk)

def f_X12_tellLetter_58 (x1 : Int32) (y1 : Int32) (y2 : Int32) (s : fl_I) (l : fl_L) : fl_I × fl_L :=
    f_X12_tellLetter_71 x1 (f_X12_bounded (0 : Int32) (7 : Int32) (wi s 70 y1.toNatClampNeg y2) l).1 (f_X12_bounded (0 : Int32) (7 : Int32) (wi s 70 y1.toNatClampNeg y2) l).2.1 (f_X12_bounded (0 : Int32) (7 : Int32) (wi s 70 y1.toNatClampNeg y2) l).2.2

def p_X12_tellLetter_58 (x1 : Int32) (y1 : Int32) (y2 : Int32) (s : fl_I) (l : fl_L) : Prop :=
    (vp_in y1 8) ∧ (p_X12_bounded (0 : Int32) (7 : Int32) (wi s 70 y1.toNatClampNeg y2) l) ∧ p_X12_tellLetter_71 x1 (f_X12_bounded (0 : Int32) (7 : Int32) (wi s 70 y1.toNatClampNeg y2) l).1 (f_X12_bounded (0 : Int32) (7 : Int32) (wi s 70 y1.toNatClampNeg y2) l).2.1 (f_X12_bounded (0 : Int32) (7 : Int32) (wi s 70 y1.toNatClampNeg y2) l).2.2

set_option maxRecDepth 100000 in
set_option maxHeartbeats 4000000 in
theorem lp_X12_tellLetter_58 {G : ab_G} {d : Nat} {D : fl_D} : ∀ (x1 : Int32) (y1 : Int32) (y2 : Int32) (s : fl_I) (l : fl_L), p_X12_tellLetter_58 x1 y1 y2 s l → ab_C G (d + 4) 0 0 M_X12_tellLetter 58 [some (.ref 60), some (.int x1)] [.int y2, .int y1, .ref 70] (hp D s l) (rt none (hp D (f_X12_tellLetter_58 x1 y1 y2 s l).1 (f_X12_tellLetter_58 x1 y1 y2 s l).2)) := by
  intro x1 y1 y2 s l hk
  generalize he : f_X12_tellLetter_58 x1 y1 y2 s l = res
  unfold f_X12_tellLetter_58 at he
  unfold p_X12_tellLetter_58 at hk
  obtain ⟨hb5, hk⟩ := hk
  refine w_iast rfl (cc_70 _) hb5 ?_
  refine r_aload_n rfl rfl ?_
  refine q_getfield rfl (cc_60 _) rfl ?_
  refine r_iload_n rfl rfl ?_
  refine r_aload_n rfl rfl ?_
  refine r_iconst_ (a := 0) rfl (by decide) ?_
  refine r_bipush_ (a := 7) rfl (by decide) ?_
  obtain ⟨hb6, hk⟩ := hk
  refine q_callV0 [_, _] _ rfl kY_X12_bounded kT_X12_bounded rfl rfl (Nat.le_of_ble_eq_true rfl) (Nat.le_of_ble_eq_true rfl) (cc_60 _) (s_X12_bounded hb6) (fun r h q => ?_)
  obtain ⟨rfl, rfl⟩ := q
  simp only [Option.toList, List.cons_append, List.nil_append]
  subst he
  exact r_weak (L1 := [some (.ref 60), none]) ⟨rfl, trivial⟩ (lp_X12_tellLetter_71 _ _ _ _ hk)

def f_X12_tellLetter_45 (x1 : Int32) (y1 : Int32) (y2 : Int64) (s : fl_I) (l : fl_L) : fl_I × fl_L :=
    f_X12_tellLetter_58 x1 x1 (f_X12_bounded (0 : Int32) (9 : Int32) s (wl l 69 y1.toNatClampNeg y2)).1 (f_X12_bounded (0 : Int32) (9 : Int32) s (wl l 69 y1.toNatClampNeg y2)).2.1 (f_X12_bounded (0 : Int32) (9 : Int32) s (wl l 69 y1.toNatClampNeg y2)).2.2

def p_X12_tellLetter_45 (x1 : Int32) (y1 : Int32) (y2 : Int64) (s : fl_I) (l : fl_L) : Prop :=
    (vp_in y1 8) ∧ (p_X12_bounded (0 : Int32) (9 : Int32) s (wl l 69 y1.toNatClampNeg y2)) ∧ p_X12_tellLetter_58 x1 x1 (f_X12_bounded (0 : Int32) (9 : Int32) s (wl l 69 y1.toNatClampNeg y2)).1 (f_X12_bounded (0 : Int32) (9 : Int32) s (wl l 69 y1.toNatClampNeg y2)).2.1 (f_X12_bounded (0 : Int32) (9 : Int32) s (wl l 69 y1.toNatClampNeg y2)).2.2

set_option maxRecDepth 100000 in
set_option maxHeartbeats 4000000 in
theorem lp_X12_tellLetter_45 {G : ab_G} {d : Nat} {D : fl_D} : ∀ (x1 : Int32) (y1 : Int32) (y2 : Int64) (s : fl_I) (l : fl_L), p_X12_tellLetter_45 x1 y1 y2 s l → ab_C G (d + 4) 0 0 M_X12_tellLetter 45 [some (.ref 60), some (.int x1)] [.long y2, .int y1, .ref 69] (hp D s l) (rt none (hp D (f_X12_tellLetter_45 x1 y1 y2 s l).1 (f_X12_tellLetter_45 x1 y1 y2 s l).2)) := by
  intro x1 y1 y2 s l hk
  generalize he : f_X12_tellLetter_45 x1 y1 y2 s l = res
  unfold f_X12_tellLetter_45 at he
  unfold p_X12_tellLetter_45 at hk
  obtain ⟨hb3, hk⟩ := hk
  refine w_last rfl (cc_69 _) hb3 ?_
  refine r_aload_n rfl rfl ?_
  refine q_getfield rfl (cc_60 _) rfl ?_
  refine r_iload_n rfl rfl ?_
  refine r_aload_n rfl rfl ?_
  refine r_iconst_ (a := 0) rfl (by decide) ?_
  refine r_bipush_ (a := 9) rfl (by decide) ?_
  obtain ⟨hb4, hk⟩ := hk
  refine q_callV0 [_, _] _ rfl kY_X12_bounded kT_X12_bounded rfl rfl (Nat.le_of_ble_eq_true rfl) (Nat.le_of_ble_eq_true rfl) (cc_60 _) (s_X12_bounded hb4) (fun r h q => ?_)
  obtain ⟨rfl, rfl⟩ := q
  simp only [Option.toList, List.cons_append, List.nil_append]
  subst he
  exact r_weak (L1 := [some (.ref 60), some (.int x1)]) ⟨rfl, rfl, trivial⟩ (lp_X12_tellLetter_58 _ _ _ _ _ hk)

def f_X12_tellLetter (s : fl_I) (l : fl_L) : fl_I × fl_L :=
  f_X12_tellLetter_45 (((4 : Int32) * (s 60 19)) + (s 68 (s 60 19).toNatClampNeg)) (((4 : Int32) * (s 60 19)) + (s 68 (s 60 19).toNatClampNeg)) (f_X12_named ((4 : Int32) * (s 60 19)) (s 68 (s 60 19).toNatClampNeg) 69 8 s l).1 (f_X12_named ((4 : Int32) * (s 60 19)) (s 68 (s 60 19).toNatClampNeg) 69 8 s l).2.1 (f_X12_named ((4 : Int32) * (s 60 19)) (s 68 (s 60 19).toNatClampNeg) 69 8 s l).2.2

def p_X12_tellLetter (s : fl_I) (l : fl_L) : Prop :=
  (vp_in (s 60 19) 2) ∧ (vp_in (s 60 19) 2) ∧ (p_X12_named ((4 : Int32) * (s 60 19)) (s 68 (s 60 19).toNatClampNeg) 69 8 s l) ∧ p_X12_tellLetter_45 (((4 : Int32) * (s 60 19)) + (s 68 (s 60 19).toNatClampNeg)) (((4 : Int32) * (s 60 19)) + (s 68 (s 60 19).toNatClampNeg)) (f_X12_named ((4 : Int32) * (s 60 19)) (s 68 (s 60 19).toNatClampNeg) 69 8 s l).1 (f_X12_named ((4 : Int32) * (s 60 19)) (s 68 (s 60 19).toNatClampNeg) 69 8 s l).2.1 (f_X12_named ((4 : Int32) * (s 60 19)) (s 68 (s 60 19).toNatClampNeg) 69 8 s l).2.2

set_option maxRecDepth 100000 in
set_option maxHeartbeats 4000000 in
theorem s_X12_tellLetter {G : ab_G} {d : Nat} {D : fl_D} {s : fl_I} {l : fl_L}  (hk : p_X12_tellLetter s l) : ab_C G (d + 4) 0 0 M_X12_tellLetter 0 (ab_ent [.ref 60]) [] (hp D s l) (rt none (hp D (f_X12_tellLetter s l).1 (f_X12_tellLetter s l).2)) := by
  generalize he : (f_X12_tellLetter s l) = res
  unfold f_X12_tellLetter at he
  unfold p_X12_tellLetter at hk
  refine r_weak (L1 := [some (.ref 60), none]) ⟨rfl, trivial⟩ ?_
  refine r_iconst_ (a := 4) rfl (by decide) ?_
  refine r_aload_n rfl rfl ?_
  refine q_getfield rfl (cc_60 _) rfl ?_
  refine r_imul rfl ?_
  refine r_aload_n rfl rfl ?_
  refine q_getfield rfl (cc_60 _) rfl ?_
  refine r_aload_n rfl rfl ?_
  refine q_getfield rfl (cc_60 _) rfl ?_
  obtain ⟨hb0, hk⟩ := hk
  refine q_iald rfl (cc_68 _) hb0 ?_
  refine r_iadd rfl ?_
  refine r_istore_n rfl (Nat.le_of_ble_eq_true rfl) rfl ?_
  refine r_aload_n rfl rfl ?_
  refine q_getfield rfl (cc_60 _) rfl ?_
  refine r_iload_n rfl rfl ?_
  refine r_aload_n rfl rfl ?_
  refine r_aload_n rfl rfl ?_
  refine q_getfield rfl (cc_60 _) rfl ?_
  refine r_iconst_ (a := 4) rfl (by decide) ?_
  refine r_aload_n rfl rfl ?_
  refine q_getfield rfl (cc_60 _) rfl ?_
  refine r_imul rfl ?_
  refine r_aload_n rfl rfl ?_
  refine q_getfield rfl (cc_60 _) rfl ?_
  refine r_aload_n rfl rfl ?_
  refine q_getfield rfl (cc_60 _) rfl ?_
  obtain ⟨hb1, hk⟩ := hk
  refine q_iald rfl (cc_68 _) hb1 ?_
  obtain ⟨hb2, hk⟩ := hk
  refine q_callV0 [_, _, _] _ rfl kY_X12_named kT_X12_named rfl rfl (Nat.le_of_ble_eq_true rfl) (Nat.le_of_ble_eq_true rfl) (cc_60 _) (s_X12_named (cc_69 _) hb2) (fun r h q => ?_)
  obtain ⟨rfl, rfl⟩ := q
  simp only [Option.toList, List.cons_append, List.nil_append]
  subst he
  exact r_weak (L1 := [some (.ref 60), some (.int (((4 : Int32) * (s 60 19)) + (s 68 (s 60 19).toNatClampNeg)))]) ⟨rfl, rfl, trivial⟩ (lp_X12_tellLetter_45 _ _ _ _ _ hk)

def f_X3_pickerTold_49 (t : Nat) (s : fl_I) (l : fl_L) : Int32 × fl_I × fl_L :=
    ((0 : Int32), s, l)

def p_X3_pickerTold_49 (t : Nat) (s : fl_I) (l : fl_L) : Prop :=
    True

set_option maxRecDepth 100000 in
set_option maxHeartbeats 4000000 in
theorem lp_X3_pickerTold_49 {G : ab_G} {d : Nat} {D : fl_D} {t : Nat} (htt : isT t) : ∀ (s : fl_I) (l : fl_L), p_X3_pickerTold_49  t s l → ab_C G (d + 3) 0 0 M_X3_pickerTold 49 [none, none, none, none] [] (hp D s l) (rt (some (.int (f_X3_pickerTold_49  t s l).1)) (hp D (f_X3_pickerTold_49  t s l).2.1 (f_X3_pickerTold_49  t s l).2.2)) := by
  intro  s l hk
  generalize he : f_X3_pickerTold_49  t s l = res
  unfold f_X3_pickerTold_49 at he
  unfold p_X3_pickerTold_49 at hk
  refine r_iconst_ (a := 0) rfl (by decide) ?_
  refine r_iret rfl rfl rfl ?_
  subst he
  exact ⟨rfl, rfl⟩

def f_X3_pickerTold_92 (t : Nat) (s : fl_I) (l : fl_L) : Int32 × fl_I × fl_L :=
    ((0 : Int32), s, l)

def p_X3_pickerTold_92 (t : Nat) (s : fl_I) (l : fl_L) : Prop :=
    True

set_option maxRecDepth 100000 in
set_option maxHeartbeats 4000000 in
theorem lp_X3_pickerTold_92 {G : ab_G} {d : Nat} {D : fl_D} {t : Nat} (htt : isT t) : ∀ (s : fl_I) (l : fl_L), p_X3_pickerTold_92  t s l → ab_C G (d + 3) 0 0 M_X3_pickerTold 92 [none, none, none, none] [] (hp D s l) (rt (some (.int (f_X3_pickerTold_92  t s l).1)) (hp D (f_X3_pickerTold_92  t s l).2.1 (f_X3_pickerTold_92  t s l).2.2)) := by
  intro  s l hk
  generalize he : f_X3_pickerTold_92  t s l = res
  unfold f_X3_pickerTold_92 at he
  unfold p_X3_pickerTold_92 at hk
  refine r_iconst_ (a := 0) rfl (by decide) ?_
  refine r_iret rfl rfl rfl ?_
  subst he
  exact ⟨rfl, rfl⟩

def f_X3_pickerTold_112 (t : Nat) (s : fl_I) (l : fl_L) : Int32 × fl_I × fl_L :=
    ((1 : Int32), s, l)

def p_X3_pickerTold_112 (t : Nat) (s : fl_I) (l : fl_L) : Prop :=
    True

set_option maxRecDepth 100000 in
set_option maxHeartbeats 4000000 in
theorem lp_X3_pickerTold_112 {G : ab_G} {d : Nat} {D : fl_D} {t : Nat} (htt : isT t) : ∀ (s : fl_I) (l : fl_L), p_X3_pickerTold_112  t s l → ab_C G (d + 3) 0 0 M_X3_pickerTold 112 [none, none, none, none] [] (hp D s l) (rt (some (.int (f_X3_pickerTold_112  t s l).1)) (hp D (f_X3_pickerTold_112  t s l).2.1 (f_X3_pickerTold_112  t s l).2.2)) := by
  intro  s l hk
  generalize he : f_X3_pickerTold_112  t s l = res
  unfold f_X3_pickerTold_112 at he
  unfold p_X3_pickerTold_112 at hk
  refine r_iconst_ (a := 1) rfl (by decide) ?_
  refine r_iret rfl rfl rfl ?_
  subst he
  exact ⟨rfl, rfl⟩

def f_X3_pickerTold_89 (x2 : Int32) (x3 : Int32) (y0 : Int32) (t : Nat) (s : fl_I) (l : fl_L) : Int32 × fl_I × fl_L :=
    if (y0 = 0) then f_X3_pickerTold_92  t s l else f_X3_pickerTold_112  t (f_X5_addPicker (l 3 7) (((10 : Int32) * x3) + x2) (s 3 6) t s l).1 (f_X5_addPicker (l 3 7) (((10 : Int32) * x3) + x2) (s 3 6) t s l).2

def p_X3_pickerTold_89 (x2 : Int32) (x3 : Int32) (y0 : Int32) (t : Nat) (s : fl_I) (l : fl_L) : Prop :=
    (((y0 = 0) → p_X3_pickerTold_92  t s l) ∧ (¬ (y0 = 0) → (p_X5_addPicker (l 3 7) (((10 : Int32) * x3) + x2) (s 3 6) t s l) ∧ p_X3_pickerTold_112  t (f_X5_addPicker (l 3 7) (((10 : Int32) * x3) + x2) (s 3 6) t s l).1 (f_X5_addPicker (l 3 7) (((10 : Int32) * x3) + x2) (s 3 6) t s l).2))

set_option maxRecDepth 100000 in
set_option maxHeartbeats 4000000 in
theorem lp_X3_pickerTold_89 {G : ab_G} {d : Nat} {D : fl_D} {t : Nat} (htt : isT t) : ∀ (x2 : Int32) (x3 : Int32) (y0 : Int32) (s : fl_I) (l : fl_L), p_X3_pickerTold_89 x2 x3 y0 t s l → ab_C G (d + 3) 0 0 M_X3_pickerTold 89 [some (.ref 3), some (.ref t), some (.int x2), some (.int x3)] [.int y0] (hp D s l) (rt (some (.int (f_X3_pickerTold_89 x2 x3 y0 t s l).1)) (hp D (f_X3_pickerTold_89 x2 x3 y0 t s l).2.1 (f_X3_pickerTold_89 x2 x3 y0 t s l).2.2)) := by
  intro x2 x3 y0 s l hk
  generalize he : f_X3_pickerTold_89 x2 x3 y0 t s l = res
  unfold f_X3_pickerTold_89 at he
  unfold p_X3_pickerTold_89 at hk
  refine r_if_ne rfl (fun c_89 => ?_) (fun c_89 => ?_)
  · rw [if_neg c_89] at he
    replace hk := hk.2 c_89
    refine r_aload_n rfl rfl ?_
    refine r_aload_n rfl rfl ?_
    refine q_getfield rfl (cc_3 _) rfl ?_
    refine r_bipush_ (a := 10) rfl (by decide) ?_
    refine r_iload_n rfl rfl ?_
    refine r_imul rfl ?_
    refine r_iload_n rfl rfl ?_
    refine r_iadd rfl ?_
    refine r_aload_n rfl rfl ?_
    refine q_getfield rfl (cc_3 _) rfl ?_
    obtain ⟨hb6, hk⟩ := hk
    refine q_callV0 [_, _, _] _ rfl kY_X5_addPicker kT_X5_addPicker rfl rfl (Nat.le_of_ble_eq_true rfl) (Nat.le_of_ble_eq_true rfl) (cT_0 htt) (s_X5_addPicker htt hb6) (fun r h q => ?_)
    obtain ⟨rfl, rfl⟩ := q
    simp only [Option.toList, List.cons_append, List.nil_append]
    subst he
    exact r_weak (L1 := [none, none, none, none]) trivial (lp_X3_pickerTold_112 htt _ _ hk)
  · rw [if_pos c_89] at he
    replace hk := hk.1 c_89
    subst he
    exact r_weak (L1 := [none, none, none, none]) trivial (lp_X3_pickerTold_92 htt _ _ hk)

def f_X3_pickerTold_80 (x2 : Int32) (x3 : Int32) (y0 : Int32) (t : Nat) (s : fl_I) (l : fl_L) : Int32 × fl_I × fl_L :=
    if (y0 = 0) then f_X3_pickerTold_92  t s l else f_X3_pickerTold_89 x2 x3 (f_X3_take (59 : Int32) s l).1 t (f_X3_take (59 : Int32) s l).2.1 (f_X3_take (59 : Int32) s l).2.2

def p_X3_pickerTold_80 (x2 : Int32) (x3 : Int32) (y0 : Int32) (t : Nat) (s : fl_I) (l : fl_L) : Prop :=
    (((y0 = 0) → p_X3_pickerTold_92  t s l) ∧ (¬ (y0 = 0) → (p_X3_take (59 : Int32) s l) ∧ p_X3_pickerTold_89 x2 x3 (f_X3_take (59 : Int32) s l).1 t (f_X3_take (59 : Int32) s l).2.1 (f_X3_take (59 : Int32) s l).2.2))

set_option maxRecDepth 100000 in
set_option maxHeartbeats 4000000 in
theorem lp_X3_pickerTold_80 {G : ab_G} {d : Nat} {D : fl_D} {t : Nat} (htt : isT t) : ∀ (x2 : Int32) (x3 : Int32) (y0 : Int32) (s : fl_I) (l : fl_L), p_X3_pickerTold_80 x2 x3 y0 t s l → ab_C G (d + 3) 0 0 M_X3_pickerTold 80 [some (.ref 3), some (.ref t), some (.int x2), some (.int x3)] [.int y0] (hp D s l) (rt (some (.int (f_X3_pickerTold_80 x2 x3 y0 t s l).1)) (hp D (f_X3_pickerTold_80 x2 x3 y0 t s l).2.1 (f_X3_pickerTold_80 x2 x3 y0 t s l).2.2)) := by
  intro x2 x3 y0 s l hk
  generalize he : f_X3_pickerTold_80 x2 x3 y0 t s l = res
  unfold f_X3_pickerTold_80 at he
  unfold p_X3_pickerTold_80 at hk
  refine r_if_eq rfl (fun c_80 => ?_) (fun c_80 => ?_)
  · rw [if_pos c_80] at he
    replace hk := hk.1 c_80
    subst he
    exact r_weak (L1 := [none, none, none, none]) trivial (lp_X3_pickerTold_92 htt _ _ hk)
  · rw [if_neg c_80] at he
    replace hk := hk.2 c_80
    refine r_aload_n rfl rfl ?_
    refine r_bipush_ (a := 59) rfl (by decide) ?_
    obtain ⟨hb5, hk⟩ := hk
    refine q_callV0 [_] _ rfl kY_X3_take kT_X3_take rfl rfl (Nat.le_of_ble_eq_true rfl) (Nat.le_of_ble_eq_true rfl) (cc_3 _) (s_X3_take hb5) (fun r h q => ?_)
    obtain ⟨rfl, rfl⟩ := q
    simp only [Option.toList, List.cons_append, List.nil_append]
    subst he
    exact r_weak (L1 := [some (.ref 3), some (.ref t), some (.int x2), some (.int x3)]) ⟨rfl, rfl, rfl, rfl, trivial⟩ (lp_X3_pickerTold_89 htt _ _ _ _ _ hk)

def f_X3_pickerTold_63 (x2 : Int32) (y0 : Int32) (t : Nat) (s : fl_I) (l : fl_L) : Int32 × fl_I × fl_L :=
    if (y0 = 0) then ((0 : Int32), s, l) else f_X3_pickerTold_80 x2 (s 3 6) (f_X3_takeInt (1 : Int32) (32 : Int32) s l).1 t (f_X3_takeInt (1 : Int32) (32 : Int32) s l).2.1 (f_X3_takeInt (1 : Int32) (32 : Int32) s l).2.2

def p_X3_pickerTold_63 (x2 : Int32) (y0 : Int32) (t : Nat) (s : fl_I) (l : fl_L) : Prop :=
    (((y0 = 0) → True) ∧ (¬ (y0 = 0) → (p_X3_takeInt (1 : Int32) (32 : Int32) s l) ∧ p_X3_pickerTold_80 x2 (s 3 6) (f_X3_takeInt (1 : Int32) (32 : Int32) s l).1 t (f_X3_takeInt (1 : Int32) (32 : Int32) s l).2.1 (f_X3_takeInt (1 : Int32) (32 : Int32) s l).2.2))

set_option maxRecDepth 100000 in
set_option maxHeartbeats 4000000 in
theorem lp_X3_pickerTold_63 {G : ab_G} {d : Nat} {D : fl_D} {t : Nat} (htt : isT t) : ∀ (x2 : Int32) (y0 : Int32) (s : fl_I) (l : fl_L), p_X3_pickerTold_63 x2 y0 t s l → ab_C G (d + 3) 0 0 M_X3_pickerTold 63 [some (.ref 3), some (.ref t), some (.int x2), none] [.int y0] (hp D s l) (rt (some (.int (f_X3_pickerTold_63 x2 y0 t s l).1)) (hp D (f_X3_pickerTold_63 x2 y0 t s l).2.1 (f_X3_pickerTold_63 x2 y0 t s l).2.2)) := by
  intro x2 y0 s l hk
  generalize he : f_X3_pickerTold_63 x2 y0 t s l = res
  unfold f_X3_pickerTold_63 at he
  unfold p_X3_pickerTold_63 at hk
  refine r_if_ne rfl (fun c_63 => ?_) (fun c_63 => ?_)
  · rw [if_neg c_63] at he
    replace hk := hk.2 c_63
    refine r_aload_n rfl rfl ?_
    refine q_getfield rfl (cc_3 _) rfl ?_
    refine r_istore_n rfl (Nat.le_of_ble_eq_true rfl) rfl ?_
    refine r_aload_n rfl rfl ?_
    refine r_iconst_ (a := 1) rfl (by decide) ?_
    refine r_bipush_ (a := 32) rfl (by decide) ?_
    obtain ⟨hb4, hk⟩ := hk
    refine q_callV0 [_, _] _ rfl kY_X3_takeInt kT_X3_takeInt rfl rfl (Nat.le_of_ble_eq_true rfl) (Nat.le_of_ble_eq_true rfl) (cc_3 _) (s_X3_takeInt hb4) (fun r h q => ?_)
    obtain ⟨rfl, rfl⟩ := q
    simp only [Option.toList, List.cons_append, List.nil_append]
    subst he
    exact r_weak (L1 := [some (.ref 3), some (.ref t), some (.int x2), some (.int (s 3 6))]) ⟨rfl, rfl, rfl, rfl, trivial⟩ (lp_X3_pickerTold_80 htt _ _ _ _ _ hk)
  · rw [if_pos c_63] at he
    replace hk := hk.1 c_63
    refine r_iconst_ (a := 0) rfl (by decide) ?_
    refine r_iret rfl rfl rfl ?_
    subst he
    exact ⟨rfl, rfl⟩

def f_X3_pickerTold_46 (y0 : Int32) (t : Nat) (s : fl_I) (l : fl_L) : Int32 × fl_I × fl_L :=
    if (y0 = 0) then f_X3_pickerTold_49  t s l else f_X3_pickerTold_63 (s 3 6) (f_X3_takeInt (0 : Int32) (7 : Int32) s l).1 t (f_X3_takeInt (0 : Int32) (7 : Int32) s l).2.1 (f_X3_takeInt (0 : Int32) (7 : Int32) s l).2.2

def p_X3_pickerTold_46 (y0 : Int32) (t : Nat) (s : fl_I) (l : fl_L) : Prop :=
    (((y0 = 0) → p_X3_pickerTold_49  t s l) ∧ (¬ (y0 = 0) → (p_X3_takeInt (0 : Int32) (7 : Int32) s l) ∧ p_X3_pickerTold_63 (s 3 6) (f_X3_takeInt (0 : Int32) (7 : Int32) s l).1 t (f_X3_takeInt (0 : Int32) (7 : Int32) s l).2.1 (f_X3_takeInt (0 : Int32) (7 : Int32) s l).2.2))

set_option maxRecDepth 100000 in
set_option maxHeartbeats 4000000 in
theorem lp_X3_pickerTold_46 {G : ab_G} {d : Nat} {D : fl_D} {t : Nat} (htt : isT t) : ∀ (y0 : Int32) (s : fl_I) (l : fl_L), p_X3_pickerTold_46 y0 t s l → ab_C G (d + 3) 0 0 M_X3_pickerTold 46 [some (.ref 3), some (.ref t), none, none] [.int y0] (hp D s l) (rt (some (.int (f_X3_pickerTold_46 y0 t s l).1)) (hp D (f_X3_pickerTold_46 y0 t s l).2.1 (f_X3_pickerTold_46 y0 t s l).2.2)) := by
  intro y0 s l hk
  generalize he : f_X3_pickerTold_46 y0 t s l = res
  unfold f_X3_pickerTold_46 at he
  unfold p_X3_pickerTold_46 at hk
  refine r_if_ne rfl (fun c_46 => ?_) (fun c_46 => ?_)
  · rw [if_neg c_46] at he
    replace hk := hk.2 c_46
    refine r_aload_n rfl rfl ?_
    refine q_getfield rfl (cc_3 _) rfl ?_
    refine r_istore_n rfl (Nat.le_of_ble_eq_true rfl) rfl ?_
    refine r_aload_n rfl rfl ?_
    refine r_iconst_ (a := 0) rfl (by decide) ?_
    refine r_bipush_ (a := 7) rfl (by decide) ?_
    obtain ⟨hb3, hk⟩ := hk
    refine q_callV0 [_, _] _ rfl kY_X3_takeInt kT_X3_takeInt rfl rfl (Nat.le_of_ble_eq_true rfl) (Nat.le_of_ble_eq_true rfl) (cc_3 _) (s_X3_takeInt hb3) (fun r h q => ?_)
    obtain ⟨rfl, rfl⟩ := q
    simp only [Option.toList, List.cons_append, List.nil_append]
    subst he
    exact r_weak (L1 := [some (.ref 3), some (.ref t), some (.int (s 3 6)), none]) ⟨rfl, rfl, rfl, trivial⟩ (lp_X3_pickerTold_63 htt _ _ _ _ hk)
  · rw [if_pos c_46] at he
    replace hk := hk.1 c_46
    subst he
    exact r_weak (L1 := [none, none, none, none]) trivial (lp_X3_pickerTold_49 htt _ _ hk)

def f_X3_pickerTold_36 (y0 : Int32) (t : Nat) (s : fl_I) (l : fl_L) : Int32 × fl_I × fl_L :=
    if (y0 = 0) then f_X3_pickerTold_49  t s l else f_X3_pickerTold_46 (f_X3_takeInt (0 : Int32) (9 : Int32) s l).1 t (f_X3_takeInt (0 : Int32) (9 : Int32) s l).2.1 (f_X3_takeInt (0 : Int32) (9 : Int32) s l).2.2

def p_X3_pickerTold_36 (y0 : Int32) (t : Nat) (s : fl_I) (l : fl_L) : Prop :=
    (((y0 = 0) → p_X3_pickerTold_49  t s l) ∧ (¬ (y0 = 0) → (p_X3_takeInt (0 : Int32) (9 : Int32) s l) ∧ p_X3_pickerTold_46 (f_X3_takeInt (0 : Int32) (9 : Int32) s l).1 t (f_X3_takeInt (0 : Int32) (9 : Int32) s l).2.1 (f_X3_takeInt (0 : Int32) (9 : Int32) s l).2.2))

set_option maxRecDepth 100000 in
set_option maxHeartbeats 4000000 in
theorem lp_X3_pickerTold_36 {G : ab_G} {d : Nat} {D : fl_D} {t : Nat} (htt : isT t) : ∀ (y0 : Int32) (s : fl_I) (l : fl_L), p_X3_pickerTold_36 y0 t s l → ab_C G (d + 3) 0 0 M_X3_pickerTold 36 [some (.ref 3), some (.ref t), none, none] [.int y0] (hp D s l) (rt (some (.int (f_X3_pickerTold_36 y0 t s l).1)) (hp D (f_X3_pickerTold_36 y0 t s l).2.1 (f_X3_pickerTold_36 y0 t s l).2.2)) := by
  intro y0 s l hk
  generalize he : f_X3_pickerTold_36 y0 t s l = res
  unfold f_X3_pickerTold_36 at he
  unfold p_X3_pickerTold_36 at hk
  refine r_if_eq rfl (fun c_36 => ?_) (fun c_36 => ?_)
  · rw [if_pos c_36] at he
    replace hk := hk.1 c_36
    subst he
    exact r_weak (L1 := [none, none, none, none]) trivial (lp_X3_pickerTold_49 htt _ _ hk)
  · rw [if_neg c_36] at he
    replace hk := hk.2 c_36
    refine r_aload_n rfl rfl ?_
    refine r_iconst_ (a := 0) rfl (by decide) ?_
    refine r_bipush_ (a := 9) rfl (by decide) ?_
    obtain ⟨hb2, hk⟩ := hk
    refine q_callV0 [_, _] _ rfl kY_X3_takeInt kT_X3_takeInt rfl rfl (Nat.le_of_ble_eq_true rfl) (Nat.le_of_ble_eq_true rfl) (cc_3 _) (s_X3_takeInt hb2) (fun r h q => ?_)
    obtain ⟨rfl, rfl⟩ := q
    simp only [Option.toList, List.cons_append, List.nil_append]
    subst he
    exact r_weak (L1 := [some (.ref 3), some (.ref t), none, none]) ⟨rfl, rfl, trivial⟩ (lp_X3_pickerTold_46 htt _ _ _ hk)

def f_X3_pickerTold_21 (y0 : Int32) (t : Nat) (s : fl_I) (l : fl_L) : Int32 × fl_I × fl_L :=
    if (y0 = 0) then f_X3_pickerTold_49  t s l else f_X3_pickerTold_36 (f_X3_takeName (s t 2) (t + 3) 4 s l).1 t (f_X3_takeName (s t 2) (t + 3) 4 s l).2.1 (f_X3_takeName (s t 2) (t + 3) 4 s l).2.2

def p_X3_pickerTold_21 (y0 : Int32) (t : Nat) (s : fl_I) (l : fl_L) : Prop :=
    (((y0 = 0) → p_X3_pickerTold_49  t s l) ∧ (¬ (y0 = 0) → (p_X3_takeName (s t 2) (t + 3) 4 s l) ∧ p_X3_pickerTold_36 (f_X3_takeName (s t 2) (t + 3) 4 s l).1 t (f_X3_takeName (s t 2) (t + 3) 4 s l).2.1 (f_X3_takeName (s t 2) (t + 3) 4 s l).2.2))

set_option maxRecDepth 100000 in
set_option maxHeartbeats 4000000 in
theorem lp_X3_pickerTold_21 {G : ab_G} {d : Nat} {D : fl_D} {t : Nat} (htt : isT t) : ∀ (y0 : Int32) (s : fl_I) (l : fl_L), p_X3_pickerTold_21 y0 t s l → ab_C G (d + 3) 0 0 M_X3_pickerTold 21 [some (.ref 3), some (.ref t), none, none] [.int y0] (hp D s l) (rt (some (.int (f_X3_pickerTold_21 y0 t s l).1)) (hp D (f_X3_pickerTold_21 y0 t s l).2.1 (f_X3_pickerTold_21 y0 t s l).2.2)) := by
  intro y0 s l hk
  generalize he : f_X3_pickerTold_21 y0 t s l = res
  unfold f_X3_pickerTold_21 at he
  unfold p_X3_pickerTold_21 at hk
  refine r_if_eq rfl (fun c_21 => ?_) (fun c_21 => ?_)
  · rw [if_pos c_21] at he
    replace hk := hk.1 c_21
    subst he
    exact r_weak (L1 := [none, none, none, none]) trivial (lp_X3_pickerTold_49 htt _ _ hk)
  · rw [if_neg c_21] at he
    replace hk := hk.2 c_21
    refine r_aload_n rfl rfl ?_
    refine r_aload_n rfl rfl ?_
    refine q_getfield rfl (cT_0 htt) rfl ?_
    refine r_aload_n rfl rfl ?_
    refine q_getfield rfl (cT_0 htt) rfl ?_
    obtain ⟨hb1, hk⟩ := hk
    refine q_callV0 [_, _] _ rfl kY_X3_takeName kT_X3_takeName rfl rfl (Nat.le_of_ble_eq_true rfl) (Nat.le_of_ble_eq_true rfl) (cc_3 _) (s_X3_takeName (cT_3 htt) hb1) (fun r h q => ?_)
    obtain ⟨rfl, rfl⟩ := q
    simp only [Option.toList, List.cons_append, List.nil_append]
    subst he
    exact r_weak (L1 := [some (.ref 3), some (.ref t), none, none]) ⟨rfl, rfl, trivial⟩ (lp_X3_pickerTold_36 htt _ _ _ hk)

def f_X3_pickerTold_13 (y0 : Int32) (t : Nat) (s : fl_I) (l : fl_L) : Int32 × fl_I × fl_L :=
    (y0, s, l)

def p_X3_pickerTold_13 (y0 : Int32) (t : Nat) (s : fl_I) (l : fl_L) : Prop :=
    (y0 = 0 ∨ y0 = 1) ∧ True

set_option maxRecDepth 100000 in
set_option maxHeartbeats 4000000 in
theorem lp_X3_pickerTold_13 {G : ab_G} {d : Nat} {D : fl_D} {t : Nat} (htt : isT t) : ∀ (y0 : Int32) (s : fl_I) (l : fl_L), p_X3_pickerTold_13 y0 t s l → ab_C G (d + 3) 0 0 M_X3_pickerTold 13 [none, none, none, none] [.int y0] (hp D s l) (rt (some (.int (f_X3_pickerTold_13 y0 t s l).1)) (hp D (f_X3_pickerTold_13 y0 t s l).2.1 (f_X3_pickerTold_13 y0 t s l).2.2)) := by
  intro y0 s l hk
  generalize he : f_X3_pickerTold_13 y0 t s l = res
  unfold f_X3_pickerTold_13 at he
  unfold p_X3_pickerTold_13 at hk
  obtain ⟨hb8, hk⟩ := hk
  refine r_iret rfl rfl (nar_b hb8) ?_
  subst he
  exact ⟨rfl, rfl⟩

def f_X3_pickerTold (t : Nat) (s : fl_I) (l : fl_L) : Int32 × fl_I × fl_L :=
  if ((s t 2) < (4 : Int32)) then f_X3_pickerTold_21 (f_X3_take (258 : Int32) s l).1 t (f_X3_take (258 : Int32) s l).2.1 (f_X3_take (258 : Int32) s l).2.2 else f_X3_pickerTold_13 (f_X3_stop (2 : Int32) s l).1 t (f_X3_stop (2 : Int32) s l).2.1 (f_X3_stop (2 : Int32) s l).2.2

def p_X3_pickerTold (t : Nat) (s : fl_I) (l : fl_L) : Prop :=
  ((((s t 2) < (4 : Int32)) → (p_X3_take (258 : Int32) s l) ∧ p_X3_pickerTold_21 (f_X3_take (258 : Int32) s l).1 t (f_X3_take (258 : Int32) s l).2.1 (f_X3_take (258 : Int32) s l).2.2) ∧ (¬ ((s t 2) < (4 : Int32)) → (p_X3_stop (2 : Int32) s l) ∧ p_X3_pickerTold_13 (f_X3_stop (2 : Int32) s l).1 t (f_X3_stop (2 : Int32) s l).2.1 (f_X3_stop (2 : Int32) s l).2.2))

set_option maxRecDepth 100000 in
set_option maxHeartbeats 4000000 in
theorem s_X3_pickerTold {G : ab_G} {d : Nat} {D : fl_D} {s : fl_I} {l : fl_L} {t : Nat} (htt : isT t)  (hk : p_X3_pickerTold t s l) : ab_C G (d + 3) 0 0 M_X3_pickerTold 0 (ab_ent [.ref 3, .ref t]) [] (hp D s l) (rt (some (.int (f_X3_pickerTold t s l).1)) (hp D (f_X3_pickerTold t s l).2.1 (f_X3_pickerTold t s l).2.2)) := by
  generalize he : (f_X3_pickerTold t s l) = res
  unfold f_X3_pickerTold at he
  unfold p_X3_pickerTold at hk
  refine r_weak (L1 := [some (.ref 3), some (.ref t), none, none]) ⟨rfl, rfl, trivial⟩ ?_
  refine r_aload_n rfl rfl ?_
  refine q_getfield rfl (cT_0 htt) rfl ?_
  refine r_iconst_ (a := 4) rfl (by decide) ?_
  refine r_icmp_lt rfl (fun c_5 => ?_) (fun c_5 => ?_)
  · rw [if_pos c_5] at he
    replace hk := hk.1 c_5
    refine r_aload_n rfl rfl ?_
    refine r_sipush_ (a := 258) rfl (by decide) ?_
    obtain ⟨hb0, hk⟩ := hk
    refine q_callV0 [_] _ rfl kY_X3_take kT_X3_take rfl rfl (Nat.le_of_ble_eq_true rfl) (Nat.le_of_ble_eq_true rfl) (cc_3 _) (s_X3_take hb0) (fun r h q => ?_)
    obtain ⟨rfl, rfl⟩ := q
    simp only [Option.toList, List.cons_append, List.nil_append]
    subst he
    exact r_weak (L1 := [some (.ref 3), some (.ref t), none, none]) ⟨rfl, rfl, trivial⟩ (lp_X3_pickerTold_21 htt _ _ _ hk)
  · rw [if_neg c_5] at he
    replace hk := hk.2 c_5
    refine r_aload_n rfl rfl ?_
    refine r_iconst_ (a := 2) rfl (by decide) ?_
    obtain ⟨hb7, hk⟩ := hk
    refine q_callV0 [_] _ rfl kY_X3_stop kT_X3_stop rfl rfl (Nat.le_of_ble_eq_true rfl) (Nat.le_of_ble_eq_true rfl) (cc_3 _) (s_X3_stop hb7) (fun r h q => ?_)
    obtain ⟨rfl, rfl⟩ := q
    simp only [Option.toList, List.cons_append, List.nil_append]
    subst he
    exact r_weak (L1 := [none, none, none, none]) trivial (lp_X3_pickerTold_13 htt _ _ _ hk)

def f_X3_lawTold_34 : Nat → Int32 → Int32 → Int32 → Int32 → Nat → fl_I → fl_L → Int32 × fl_I × fl_L
  | 0, x2, x3, x4, x5, t, s, l => (0, s, l)
  | n + 1, x2, x3, x4, x5, t, s, l =>
    if ((4 : Int32) < x5) then if (x4 = 0) then ((0 : Int32), s, l) else if ((f_sumD 8 (0 : Int32) t s l).1 = 0) then ((0 : Int32), (f_sumD 8 (0 : Int32) t s l).2.1, (f_sumD 8 (0 : Int32) t s l).2.2) else if ((f_X3_take (59 : Int32) (f_sumD 8 (0 : Int32) t s l).2.1 (f_sumD 8 (0 : Int32) t s l).2.2).1 = 0) then ((0 : Int32), (f_X3_take (59 : Int32) (f_sumD 8 (0 : Int32) t s l).2.1 (f_sumD 8 (0 : Int32) t s l).2.2).2.1, (f_X3_take (59 : Int32) (f_sumD 8 (0 : Int32) t s l).2.1 (f_sumD 8 (0 : Int32) t s l).2.2).2.2) else ((1 : Int32), (wi (f_X5_addCode (-6 : Int32) t (f_X3_take (59 : Int32) (f_sumD 8 (0 : Int32) t s l).2.1 (f_sumD 8 (0 : Int32) t s l).2.2).2.1 (f_X3_take (59 : Int32) (f_sumD 8 (0 : Int32) t s l).2.1 (f_sumD 8 (0 : Int32) t s l).2.2).2.2).1 (t + 10) x2.toNatClampNeg x3), (f_X5_addCode (-6 : Int32) t (f_X3_take (59 : Int32) (f_sumD 8 (0 : Int32) t s l).2.1 (f_sumD 8 (0 : Int32) t s l).2.2).2.1 (f_X3_take (59 : Int32) (f_sumD 8 (0 : Int32) t s l).2.1 (f_sumD 8 (0 : Int32) t s l).2.2).2.2).2) else if (x4 = 0) then if (x4 = 0) then ((0 : Int32), s, l) else if ((f_sumD 8 (0 : Int32) t s l).1 = 0) then ((0 : Int32), (f_sumD 8 (0 : Int32) t s l).2.1, (f_sumD 8 (0 : Int32) t s l).2.2) else if ((f_X3_take (59 : Int32) (f_sumD 8 (0 : Int32) t s l).2.1 (f_sumD 8 (0 : Int32) t s l).2.2).1 = 0) then ((0 : Int32), (f_X3_take (59 : Int32) (f_sumD 8 (0 : Int32) t s l).2.1 (f_sumD 8 (0 : Int32) t s l).2.2).2.1, (f_X3_take (59 : Int32) (f_sumD 8 (0 : Int32) t s l).2.1 (f_sumD 8 (0 : Int32) t s l).2.2).2.2) else ((1 : Int32), (wi (f_X5_addCode (-6 : Int32) t (f_X3_take (59 : Int32) (f_sumD 8 (0 : Int32) t s l).2.1 (f_sumD 8 (0 : Int32) t s l).2.2).2.1 (f_X3_take (59 : Int32) (f_sumD 8 (0 : Int32) t s l).2.1 (f_sumD 8 (0 : Int32) t s l).2.2).2.2).1 (t + 10) x2.toNatClampNeg x3), (f_X5_addCode (-6 : Int32) t (f_X3_take (59 : Int32) (f_sumD 8 (0 : Int32) t s l).2.1 (f_sumD 8 (0 : Int32) t s l).2.2).2.1 (f_X3_take (59 : Int32) (f_sumD 8 (0 : Int32) t s l).2.1 (f_sumD 8 (0 : Int32) t s l).2.2).2.2).2) else if ((f_X3_kindNow s l) = (265 : Int32)) then if (x5 = (4 : Int32)) then f_X3_lawTold_34 n x2 x3 (f_X3_stop (2 : Int32) s l).1 (x5 + 1) t (f_X3_stop (2 : Int32) s l).2.1 (f_X3_stop (2 : Int32) s l).2.2 else f_X3_lawTold_34 n x2 x3 (f_X3_ifTold t s l).1 (x5 + 1) t (f_X3_ifTold t s l).2.1 (f_X3_ifTold t s l).2.2 else if (x4 = 0) then ((0 : Int32), s, l) else if ((f_sumD 8 (0 : Int32) t s l).1 = 0) then ((0 : Int32), (f_sumD 8 (0 : Int32) t s l).2.1, (f_sumD 8 (0 : Int32) t s l).2.2) else if ((f_X3_take (59 : Int32) (f_sumD 8 (0 : Int32) t s l).2.1 (f_sumD 8 (0 : Int32) t s l).2.2).1 = 0) then ((0 : Int32), (f_X3_take (59 : Int32) (f_sumD 8 (0 : Int32) t s l).2.1 (f_sumD 8 (0 : Int32) t s l).2.2).2.1, (f_X3_take (59 : Int32) (f_sumD 8 (0 : Int32) t s l).2.1 (f_sumD 8 (0 : Int32) t s l).2.2).2.2) else ((1 : Int32), (wi (f_X5_addCode (-6 : Int32) t (f_X3_take (59 : Int32) (f_sumD 8 (0 : Int32) t s l).2.1 (f_sumD 8 (0 : Int32) t s l).2.2).2.1 (f_X3_take (59 : Int32) (f_sumD 8 (0 : Int32) t s l).2.1 (f_sumD 8 (0 : Int32) t s l).2.2).2.2).1 (t + 10) x2.toNatClampNeg x3), (f_X5_addCode (-6 : Int32) t (f_X3_take (59 : Int32) (f_sumD 8 (0 : Int32) t s l).2.1 (f_sumD 8 (0 : Int32) t s l).2.2).2.1 (f_X3_take (59 : Int32) (f_sumD 8 (0 : Int32) t s l).2.1 (f_sumD 8 (0 : Int32) t s l).2.2).2.2).2)

def p_X3_lawTold_34 : Nat → Int32 → Int32 → Int32 → Int32 → Nat → fl_I → fl_L → Prop
  | 0, _, _, _, _, _, _, _ => False
  | n + 1, x2, x3, x4, x5, t, s, l =>
    ((((4 : Int32) < x5) → (((x4 = 0) → True) ∧ (¬ (x4 = 0) → (p_sumD 8 (0 : Int32) t s l) ∧ ((((f_sumD 8 (0 : Int32) t s l).1 = 0) → True) ∧ (¬ ((f_sumD 8 (0 : Int32) t s l).1 = 0) → (p_X3_take (59 : Int32) (f_sumD 8 (0 : Int32) t s l).2.1 (f_sumD 8 (0 : Int32) t s l).2.2) ∧ ((((f_X3_take (59 : Int32) (f_sumD 8 (0 : Int32) t s l).2.1 (f_sumD 8 (0 : Int32) t s l).2.2).1 = 0) → True) ∧ (¬ ((f_X3_take (59 : Int32) (f_sumD 8 (0 : Int32) t s l).2.1 (f_sumD 8 (0 : Int32) t s l).2.2).1 = 0) → (p_X5_addCode (-6 : Int32) t (f_X3_take (59 : Int32) (f_sumD 8 (0 : Int32) t s l).2.1 (f_sumD 8 (0 : Int32) t s l).2.2).2.1 (f_X3_take (59 : Int32) (f_sumD 8 (0 : Int32) t s l).2.1 (f_sumD 8 (0 : Int32) t s l).2.2).2.2) ∧ (vp_in x2 3) ∧ True))))))) ∧ (¬ ((4 : Int32) < x5) → (((x4 = 0) → (((x4 = 0) → True) ∧ (¬ (x4 = 0) → (p_sumD 8 (0 : Int32) t s l) ∧ ((((f_sumD 8 (0 : Int32) t s l).1 = 0) → True) ∧ (¬ ((f_sumD 8 (0 : Int32) t s l).1 = 0) → (p_X3_take (59 : Int32) (f_sumD 8 (0 : Int32) t s l).2.1 (f_sumD 8 (0 : Int32) t s l).2.2) ∧ ((((f_X3_take (59 : Int32) (f_sumD 8 (0 : Int32) t s l).2.1 (f_sumD 8 (0 : Int32) t s l).2.2).1 = 0) → True) ∧ (¬ ((f_X3_take (59 : Int32) (f_sumD 8 (0 : Int32) t s l).2.1 (f_sumD 8 (0 : Int32) t s l).2.2).1 = 0) → (p_X5_addCode (-6 : Int32) t (f_X3_take (59 : Int32) (f_sumD 8 (0 : Int32) t s l).2.1 (f_sumD 8 (0 : Int32) t s l).2.2).2.1 (f_X3_take (59 : Int32) (f_sumD 8 (0 : Int32) t s l).2.1 (f_sumD 8 (0 : Int32) t s l).2.2).2.2) ∧ (vp_in x2 3) ∧ True))))))) ∧ (¬ (x4 = 0) → (p_X3_kindNow s l) ∧ ((((f_X3_kindNow s l) = (265 : Int32)) → (((x5 = (4 : Int32)) → (p_X3_stop (2 : Int32) s l) ∧ p_X3_lawTold_34 n x2 x3 (f_X3_stop (2 : Int32) s l).1 (x5 + 1) t (f_X3_stop (2 : Int32) s l).2.1 (f_X3_stop (2 : Int32) s l).2.2) ∧ (¬ (x5 = (4 : Int32)) → (p_X3_ifTold t s l) ∧ p_X3_lawTold_34 n x2 x3 (f_X3_ifTold t s l).1 (x5 + 1) t (f_X3_ifTold t s l).2.1 (f_X3_ifTold t s l).2.2))) ∧ (¬ ((f_X3_kindNow s l) = (265 : Int32)) → (((x4 = 0) → True) ∧ (¬ (x4 = 0) → (p_sumD 8 (0 : Int32) t s l) ∧ ((((f_sumD 8 (0 : Int32) t s l).1 = 0) → True) ∧ (¬ ((f_sumD 8 (0 : Int32) t s l).1 = 0) → (p_X3_take (59 : Int32) (f_sumD 8 (0 : Int32) t s l).2.1 (f_sumD 8 (0 : Int32) t s l).2.2) ∧ ((((f_X3_take (59 : Int32) (f_sumD 8 (0 : Int32) t s l).2.1 (f_sumD 8 (0 : Int32) t s l).2.2).1 = 0) → True) ∧ (¬ ((f_X3_take (59 : Int32) (f_sumD 8 (0 : Int32) t s l).2.1 (f_sumD 8 (0 : Int32) t s l).2.2).1 = 0) → (p_X5_addCode (-6 : Int32) t (f_X3_take (59 : Int32) (f_sumD 8 (0 : Int32) t s l).2.1 (f_sumD 8 (0 : Int32) t s l).2.2).2.1 (f_X3_take (59 : Int32) (f_sumD 8 (0 : Int32) t s l).2.1 (f_sumD 8 (0 : Int32) t s l).2.2).2.2) ∧ (vp_in x2 3) ∧ True))))))))))))

set_option maxRecDepth 100000 in
set_option maxHeartbeats 4000000 in
theorem lp_X3_lawTold_34 {G : ab_G} {d : Nat} {D : fl_D} {t : Nat} (htt : isT t) : ∀ (n : Nat) (x2 : Int32) (x3 : Int32) (x4 : Int32) (x5 : Int32) (s : fl_I) (l : fl_L), p_X3_lawTold_34 n x2 x3 x4 x5 t s l → ab_C G (d + 34) 0 0 M_X3_lawTold 34 [some (.ref 3), some (.ref t), some (.int x2), some (.int x3), some (.int x4), some (.int x5)] [] (hp D s l) (rt (some (.int (f_X3_lawTold_34 n x2 x3 x4 x5 t s l).1)) (hp D (f_X3_lawTold_34 n x2 x3 x4 x5 t s l).2.1 (f_X3_lawTold_34 n x2 x3 x4 x5 t s l).2.2)) := by
  intro n
  induction n with
  | zero => intro x2 x3 x4 x5 s l hk; exact hk.elim
  | succ n ih =>
    intro x2 x3 x4 x5 s l hk
    generalize he : f_X3_lawTold_34 (n + 1) x2 x3 x4 x5 t s l = res
    unfold f_X3_lawTold_34 at he
    unfold p_X3_lawTold_34 at hk
    refine r_iload rfl rfl ?_
    refine r_iconst_ (a := 4) rfl (by decide) ?_
    refine r_icmp_gt rfl (fun c_37 => ?_) (fun c_37 => ?_)
    · rw [if_pos c_37] at he
      replace hk := hk.1 c_37
      refine r_iload rfl rfl ?_
      refine r_if_eq rfl (fun c_84 => ?_) (fun c_84 => ?_)
      · rw [if_pos c_84] at he
        replace hk := hk.1 c_84
        refine r_iconst_ (a := 0) rfl (by decide) ?_
        refine r_iret rfl rfl rfl ?_
        subst he
        exact ⟨rfl, rfl⟩
      · rw [if_neg c_84] at he
        replace hk := hk.2 c_84
        refine r_aload_n rfl rfl ?_
        refine r_aload_n rfl rfl ?_
        refine r_iconst_ (a := 0) rfl (by decide) ?_
        obtain ⟨hb2, hk⟩ := hk
        refine q_callV0 [_, _] _ rfl kY_X3_sum kT_X3_sum rfl rfl (Nat.le_of_ble_eq_true rfl) (Nat.le_of_ble_eq_true rfl) (cc_3 _) (s_sum8 htt hb2) (fun r h q => ?_)
        obtain ⟨rfl, rfl⟩ := q
        simp only [Option.toList, List.cons_append, List.nil_append]
        refine r_if_eq rfl (fun c_93 => ?_) (fun c_93 => ?_)
        · rw [if_pos c_93] at he
          replace hk := hk.1 c_93
          refine r_iconst_ (a := 0) rfl (by decide) ?_
          refine r_iret rfl rfl rfl ?_
          subst he
          exact ⟨rfl, rfl⟩
        · rw [if_neg c_93] at he
          replace hk := hk.2 c_93
          refine r_aload_n rfl rfl ?_
          refine r_bipush_ (a := 59) rfl (by decide) ?_
          obtain ⟨hb3, hk⟩ := hk
          refine q_callV0 [_] _ rfl kY_X3_take kT_X3_take rfl rfl (Nat.le_of_ble_eq_true rfl) (Nat.le_of_ble_eq_true rfl) (cc_3 _) (s_X3_take hb3) (fun r h q => ?_)
          obtain ⟨rfl, rfl⟩ := q
          simp only [Option.toList, List.cons_append, List.nil_append]
          refine r_if_ne rfl (fun c_102 => ?_) (fun c_102 => ?_)
          · rw [if_neg c_102] at he
            replace hk := hk.2 c_102
            refine r_aload_n rfl rfl ?_
            refine r_bipush_ (a := -6) rfl (by decide) ?_
            obtain ⟨hb4, hk⟩ := hk
            refine q_callV0 [_] _ rfl kY_X5_addCode kT_X5_addCode rfl rfl (Nat.le_of_ble_eq_true rfl) (Nat.le_of_ble_eq_true rfl) (cT_0 htt) (s_X5_addCode htt hb4) (fun r h q => ?_)
            obtain ⟨rfl, rfl⟩ := q
            simp only [Option.toList, List.cons_append, List.nil_append]
            refine r_aload_n rfl rfl ?_
            refine q_getfield rfl (cT_0 htt) rfl ?_
            refine r_iload_n rfl rfl ?_
            refine r_iload_n rfl rfl ?_
            obtain ⟨hb5, hk⟩ := hk
            refine w_iast rfl (cT_10 htt) hb5 ?_
            refine r_iconst_ (a := 1) rfl (by decide) ?_
            refine r_iret rfl rfl rfl ?_
            subst he
            exact ⟨rfl, rfl⟩
          · rw [if_pos c_102] at he
            replace hk := hk.1 c_102
            refine r_iconst_ (a := 0) rfl (by decide) ?_
            refine r_iret rfl rfl rfl ?_
            subst he
            exact ⟨rfl, rfl⟩
    · rw [if_neg c_37] at he
      replace hk := hk.2 c_37
      refine r_iload rfl rfl ?_
      refine r_if_eq rfl (fun c_42 => ?_) (fun c_42 => ?_)
      · rw [if_pos c_42] at he
        replace hk := hk.1 c_42
        refine r_iload rfl rfl ?_
        refine r_if_eq rfl (fun c_84 => ?_) (fun c_84 => ?_)
        · rw [if_pos c_84] at he
          replace hk := hk.1 c_84
          refine r_iconst_ (a := 0) rfl (by decide) ?_
          refine r_iret rfl rfl rfl ?_
          subst he
          exact ⟨rfl, rfl⟩
        · rw [if_neg c_84] at he
          replace hk := hk.2 c_84
          refine r_aload_n rfl rfl ?_
          refine r_aload_n rfl rfl ?_
          refine r_iconst_ (a := 0) rfl (by decide) ?_
          obtain ⟨hb6, hk⟩ := hk
          refine q_callV0 [_, _] _ rfl kY_X3_sum kT_X3_sum rfl rfl (Nat.le_of_ble_eq_true rfl) (Nat.le_of_ble_eq_true rfl) (cc_3 _) (s_sum8 htt hb6) (fun r h q => ?_)
          obtain ⟨rfl, rfl⟩ := q
          simp only [Option.toList, List.cons_append, List.nil_append]
          refine r_if_eq rfl (fun c_93 => ?_) (fun c_93 => ?_)
          · rw [if_pos c_93] at he
            replace hk := hk.1 c_93
            refine r_iconst_ (a := 0) rfl (by decide) ?_
            refine r_iret rfl rfl rfl ?_
            subst he
            exact ⟨rfl, rfl⟩
          · rw [if_neg c_93] at he
            replace hk := hk.2 c_93
            refine r_aload_n rfl rfl ?_
            refine r_bipush_ (a := 59) rfl (by decide) ?_
            obtain ⟨hb7, hk⟩ := hk
            refine q_callV0 [_] _ rfl kY_X3_take kT_X3_take rfl rfl (Nat.le_of_ble_eq_true rfl) (Nat.le_of_ble_eq_true rfl) (cc_3 _) (s_X3_take hb7) (fun r h q => ?_)
            obtain ⟨rfl, rfl⟩ := q
            simp only [Option.toList, List.cons_append, List.nil_append]
            refine r_if_ne rfl (fun c_102 => ?_) (fun c_102 => ?_)
            · rw [if_neg c_102] at he
              replace hk := hk.2 c_102
              refine r_aload_n rfl rfl ?_
              refine r_bipush_ (a := -6) rfl (by decide) ?_
              obtain ⟨hb8, hk⟩ := hk
              refine q_callV0 [_] _ rfl kY_X5_addCode kT_X5_addCode rfl rfl (Nat.le_of_ble_eq_true rfl) (Nat.le_of_ble_eq_true rfl) (cT_0 htt) (s_X5_addCode htt hb8) (fun r h q => ?_)
              obtain ⟨rfl, rfl⟩ := q
              simp only [Option.toList, List.cons_append, List.nil_append]
              refine r_aload_n rfl rfl ?_
              refine q_getfield rfl (cT_0 htt) rfl ?_
              refine r_iload_n rfl rfl ?_
              refine r_iload_n rfl rfl ?_
              obtain ⟨hb9, hk⟩ := hk
              refine w_iast rfl (cT_10 htt) hb9 ?_
              refine r_iconst_ (a := 1) rfl (by decide) ?_
              refine r_iret rfl rfl rfl ?_
              subst he
              exact ⟨rfl, rfl⟩
            · rw [if_pos c_102] at he
              replace hk := hk.1 c_102
              refine r_iconst_ (a := 0) rfl (by decide) ?_
              refine r_iret rfl rfl rfl ?_
              subst he
              exact ⟨rfl, rfl⟩
      · rw [if_neg c_42] at he
        replace hk := hk.2 c_42
        refine r_aload_n rfl rfl ?_
        obtain ⟨hb10, hk⟩ := hk
        refine q_callV0 [] _ rfl kY_X3_kindNow kT_X3_kindNow rfl rfl (Nat.le_of_ble_eq_true rfl) (Nat.le_of_ble_eq_true rfl) (cc_3 _) (s_X3_kindNow hb10) (fun r h q => ?_)
        obtain ⟨rfl, rfl⟩ := q
        simp only [Option.toList, List.cons_append, List.nil_append]
        refine r_sipush_ (a := 265) rfl (by decide) ?_
        refine r_icmp_ne rfl (fun c_52 => ?_) (fun c_52 => ?_)
        · rw [if_neg c_52] at he
          replace hk := hk.2 c_52
          refine r_iload rfl rfl ?_
          refine r_if_eq rfl (fun c_84 => ?_) (fun c_84 => ?_)
          · rw [if_pos c_84] at he
            replace hk := hk.1 c_84
            refine r_iconst_ (a := 0) rfl (by decide) ?_
            refine r_iret rfl rfl rfl ?_
            subst he
            exact ⟨rfl, rfl⟩
          · rw [if_neg c_84] at he
            replace hk := hk.2 c_84
            refine r_aload_n rfl rfl ?_
            refine r_aload_n rfl rfl ?_
            refine r_iconst_ (a := 0) rfl (by decide) ?_
            obtain ⟨hb11, hk⟩ := hk
            refine q_callV0 [_, _] _ rfl kY_X3_sum kT_X3_sum rfl rfl (Nat.le_of_ble_eq_true rfl) (Nat.le_of_ble_eq_true rfl) (cc_3 _) (s_sum8 htt hb11) (fun r h q => ?_)
            obtain ⟨rfl, rfl⟩ := q
            simp only [Option.toList, List.cons_append, List.nil_append]
            refine r_if_eq rfl (fun c_93 => ?_) (fun c_93 => ?_)
            · rw [if_pos c_93] at he
              replace hk := hk.1 c_93
              refine r_iconst_ (a := 0) rfl (by decide) ?_
              refine r_iret rfl rfl rfl ?_
              subst he
              exact ⟨rfl, rfl⟩
            · rw [if_neg c_93] at he
              replace hk := hk.2 c_93
              refine r_aload_n rfl rfl ?_
              refine r_bipush_ (a := 59) rfl (by decide) ?_
              obtain ⟨hb12, hk⟩ := hk
              refine q_callV0 [_] _ rfl kY_X3_take kT_X3_take rfl rfl (Nat.le_of_ble_eq_true rfl) (Nat.le_of_ble_eq_true rfl) (cc_3 _) (s_X3_take hb12) (fun r h q => ?_)
              obtain ⟨rfl, rfl⟩ := q
              simp only [Option.toList, List.cons_append, List.nil_append]
              refine r_if_ne rfl (fun c_102 => ?_) (fun c_102 => ?_)
              · rw [if_neg c_102] at he
                replace hk := hk.2 c_102
                refine r_aload_n rfl rfl ?_
                refine r_bipush_ (a := -6) rfl (by decide) ?_
                obtain ⟨hb13, hk⟩ := hk
                refine q_callV0 [_] _ rfl kY_X5_addCode kT_X5_addCode rfl rfl (Nat.le_of_ble_eq_true rfl) (Nat.le_of_ble_eq_true rfl) (cT_0 htt) (s_X5_addCode htt hb13) (fun r h q => ?_)
                obtain ⟨rfl, rfl⟩ := q
                simp only [Option.toList, List.cons_append, List.nil_append]
                refine r_aload_n rfl rfl ?_
                refine q_getfield rfl (cT_0 htt) rfl ?_
                refine r_iload_n rfl rfl ?_
                refine r_iload_n rfl rfl ?_
                obtain ⟨hb14, hk⟩ := hk
                refine w_iast rfl (cT_10 htt) hb14 ?_
                refine r_iconst_ (a := 1) rfl (by decide) ?_
                refine r_iret rfl rfl rfl ?_
                subst he
                exact ⟨rfl, rfl⟩
              · rw [if_pos c_102] at he
                replace hk := hk.1 c_102
                refine r_iconst_ (a := 0) rfl (by decide) ?_
                refine r_iret rfl rfl rfl ?_
                subst he
                exact ⟨rfl, rfl⟩
        · rw [if_pos c_52] at he
          replace hk := hk.1 c_52
          refine r_iload rfl rfl ?_
          refine r_iconst_ (a := 4) rfl (by decide) ?_
          refine r_icmp_ne rfl (fun c_58 => ?_) (fun c_58 => ?_)
          · rw [if_neg c_58] at he
            replace hk := hk.2 c_58
            refine r_aload_n rfl rfl ?_
            refine r_aload_n rfl rfl ?_
            obtain ⟨hb15, hk⟩ := hk
            refine q_callV0 [_] _ rfl kY_X3_ifTold kT_X3_ifTold rfl rfl (Nat.le_of_ble_eq_true rfl) (Nat.le_of_ble_eq_true rfl) (cc_3 _) (s_X3_ifTold htt hb15) (fun r h q => ?_)
            obtain ⟨rfl, rfl⟩ := q
            simp only [Option.toList, List.cons_append, List.nil_append]
            refine r_istore rfl (Nat.le_of_ble_eq_true rfl) rfl ?_
            refine r_iinc (b := x5 + 1) rfl rfl rfl (Nat.le_of_ble_eq_true rfl) rfl ?_
            refine r_goto rfl ?_
            subst he
            exact r_weak (L1 := [some (.ref 3), some (.ref t), some (.int x2), some (.int x3), some (.int (f_X3_ifTold t s l).1), some (.int (x5 + 1))]) ⟨rfl, rfl, rfl, rfl, rfl, rfl, trivial⟩ (ih _ _ _ _ _ _ hk)
          · rw [if_pos c_58] at he
            replace hk := hk.1 c_58
            refine r_aload_n rfl rfl ?_
            refine r_iconst_ (a := 2) rfl (by decide) ?_
            obtain ⟨hb16, hk⟩ := hk
            refine q_callV0 [_] _ rfl kY_X3_stop kT_X3_stop rfl rfl (Nat.le_of_ble_eq_true rfl) (Nat.le_of_ble_eq_true rfl) (cc_3 _) (s_X3_stop hb16) (fun r h q => ?_)
            obtain ⟨rfl, rfl⟩ := q
            simp only [Option.toList, List.cons_append, List.nil_append]
            refine r_goto rfl ?_
            refine r_istore rfl (Nat.le_of_ble_eq_true rfl) rfl ?_
            refine r_iinc (b := x5 + 1) rfl rfl rfl (Nat.le_of_ble_eq_true rfl) rfl ?_
            refine r_goto rfl ?_
            subst he
            exact r_weak (L1 := [some (.ref 3), some (.ref t), some (.int x2), some (.int x3), some (.int (f_X3_stop (2 : Int32) s l).1), some (.int (x5 + 1))]) ⟨rfl, rfl, rfl, rfl, rfl, rfl, trivial⟩ (ih _ _ _ _ _ _ hk)

def f_X3_lawTold (v1 : Int32) (t : Nat) (s : fl_I) (l : fl_L) : Int32 × fl_I × fl_L :=
  if ((f_X3_take ((259 : Int32) + v1) s l).1 = 0) then ((0 : Int32), (f_X3_take ((259 : Int32) + v1) s l).2.1, (f_X3_take ((259 : Int32) + v1) s l).2.2) else if ((f_X3_take (61 : Int32) (f_X3_take ((259 : Int32) + v1) s l).2.1 (f_X3_take ((259 : Int32) + v1) s l).2.2).1 = 0) then ((0 : Int32), (f_X3_take (61 : Int32) (f_X3_take ((259 : Int32) + v1) s l).2.1 (f_X3_take ((259 : Int32) + v1) s l).2.2).2.1, (f_X3_take (61 : Int32) (f_X3_take ((259 : Int32) + v1) s l).2.1 (f_X3_take ((259 : Int32) + v1) s l).2.2).2.2) else f_X3_lawTold_34 fu v1 ((f_X3_take (61 : Int32) (f_X3_take ((259 : Int32) + v1) s l).2.1 (f_X3_take ((259 : Int32) + v1) s l).2.2).2.1 t 14) (1 : Int32) (0 : Int32) t (f_X3_take (61 : Int32) (f_X3_take ((259 : Int32) + v1) s l).2.1 (f_X3_take ((259 : Int32) + v1) s l).2.2).2.1 (f_X3_take (61 : Int32) (f_X3_take ((259 : Int32) + v1) s l).2.1 (f_X3_take ((259 : Int32) + v1) s l).2.2).2.2

def p_X3_lawTold (v1 : Int32) (t : Nat) (s : fl_I) (l : fl_L) : Prop :=
  (p_X3_take ((259 : Int32) + v1) s l) ∧ ((((f_X3_take ((259 : Int32) + v1) s l).1 = 0) → True) ∧ (¬ ((f_X3_take ((259 : Int32) + v1) s l).1 = 0) → (p_X3_take (61 : Int32) (f_X3_take ((259 : Int32) + v1) s l).2.1 (f_X3_take ((259 : Int32) + v1) s l).2.2) ∧ ((((f_X3_take (61 : Int32) (f_X3_take ((259 : Int32) + v1) s l).2.1 (f_X3_take ((259 : Int32) + v1) s l).2.2).1 = 0) → True) ∧ (¬ ((f_X3_take (61 : Int32) (f_X3_take ((259 : Int32) + v1) s l).2.1 (f_X3_take ((259 : Int32) + v1) s l).2.2).1 = 0) → p_X3_lawTold_34 fu v1 ((f_X3_take (61 : Int32) (f_X3_take ((259 : Int32) + v1) s l).2.1 (f_X3_take ((259 : Int32) + v1) s l).2.2).2.1 t 14) (1 : Int32) (0 : Int32) t (f_X3_take (61 : Int32) (f_X3_take ((259 : Int32) + v1) s l).2.1 (f_X3_take ((259 : Int32) + v1) s l).2.2).2.1 (f_X3_take (61 : Int32) (f_X3_take ((259 : Int32) + v1) s l).2.1 (f_X3_take ((259 : Int32) + v1) s l).2.2).2.2))))

set_option maxRecDepth 100000 in
set_option maxHeartbeats 4000000 in
theorem s_X3_lawTold {G : ab_G} {d : Nat} {D : fl_D} {s : fl_I} {l : fl_L} {t : Nat} (htt : isT t) {v1 : Int32} (hk : p_X3_lawTold v1 t s l) : ab_C G (d + 34) 0 0 M_X3_lawTold 0 (ab_ent [.ref 3, .ref t, .int v1]) [] (hp D s l) (rt (some (.int (f_X3_lawTold v1 t s l).1)) (hp D (f_X3_lawTold v1 t s l).2.1 (f_X3_lawTold v1 t s l).2.2)) := by
  generalize he : (f_X3_lawTold v1 t s l) = res
  unfold f_X3_lawTold at he
  unfold p_X3_lawTold at hk
  refine r_weak (L1 := [some (.ref 3), some (.ref t), some (.int v1), none, none, none]) ⟨rfl, rfl, rfl, trivial⟩ ?_
  refine r_aload_n rfl rfl ?_
  refine r_sipush_ (a := 259) rfl (by decide) ?_
  refine r_iload_n rfl rfl ?_
  refine r_iadd rfl ?_
  obtain ⟨hb0, hk⟩ := hk
  refine q_callV0 [_] _ rfl kY_X3_take kT_X3_take rfl rfl (Nat.le_of_ble_eq_true rfl) (Nat.le_of_ble_eq_true rfl) (cc_3 _) (s_X3_take hb0) (fun r h q => ?_)
  obtain ⟨rfl, rfl⟩ := q
  simp only [Option.toList, List.cons_append, List.nil_append]
  refine r_if_eq rfl (fun c_9 => ?_) (fun c_9 => ?_)
  · rw [if_pos c_9] at he
    replace hk := hk.1 c_9
    refine r_iconst_ (a := 0) rfl (by decide) ?_
    refine r_iret rfl rfl rfl ?_
    subst he
    exact ⟨rfl, rfl⟩
  · rw [if_neg c_9] at he
    replace hk := hk.2 c_9
    refine r_aload_n rfl rfl ?_
    refine r_bipush_ (a := 61) rfl (by decide) ?_
    obtain ⟨hb1, hk⟩ := hk
    refine q_callV0 [_] _ rfl kY_X3_take kT_X3_take rfl rfl (Nat.le_of_ble_eq_true rfl) (Nat.le_of_ble_eq_true rfl) (cc_3 _) (s_X3_take hb1) (fun r h q => ?_)
    obtain ⟨rfl, rfl⟩ := q
    simp only [Option.toList, List.cons_append, List.nil_append]
    refine r_if_ne rfl (fun c_18 => ?_) (fun c_18 => ?_)
    · rw [if_neg c_18] at he
      replace hk := hk.2 c_18
      refine r_aload_n rfl rfl ?_
      refine q_getfield rfl (cT_0 htt) rfl ?_
      refine r_istore_n rfl (Nat.le_of_ble_eq_true rfl) rfl ?_
      refine r_iconst_ (a := 1) rfl (by decide) ?_
      refine r_istore rfl (Nat.le_of_ble_eq_true rfl) rfl ?_
      refine r_iconst_ (a := 0) rfl (by decide) ?_
      refine r_istore rfl (Nat.le_of_ble_eq_true rfl) rfl ?_
      subst he
      exact r_weak (L1 := [some (.ref 3), some (.ref t), some (.int v1), some (.int ((f_X3_take (61 : Int32) (f_X3_take ((259 : Int32) + v1) s l).2.1 (f_X3_take ((259 : Int32) + v1) s l).2.2).2.1 t 14)), some (.int (1 : Int32)), some (.int (0 : Int32))]) ⟨rfl, rfl, rfl, rfl, rfl, rfl, trivial⟩ (lp_X3_lawTold_34 htt fu _ _ _ _ _ _ hk)
    · rw [if_pos c_18] at he
      replace hk := hk.1 c_18
      refine r_iconst_ (a := 0) rfl (by decide) ?_
      refine r_iret rfl rfl rfl ?_
      subst he
      exact ⟨rfl, rfl⟩

def f_X12_drop (v0 : Int32) (s : fl_I) (l : fl_L) : Int32 × fl_I × fl_L :=
  if ((f_X12_isPiece v0 s l) = 0) then ((0 : Int32), s, l) else if (0 ≤ (s 94 ((64 : Int32) + v0).toNatClampNeg)) then ((1 : Int32), (f_X12_records (wi (wi (wi (wi (f_X12_copies s l).1 95 v0.toNatClampNeg ((f_X12_copies s l).1 95 ((128 : Int32) + ((f_X12_copies s l).1 94 ((64 : Int32) + v0).toNatClampNeg)).toNatClampNeg)) 95 ((32 : Int32) + v0).toNatClampNeg ((wi (f_X12_copies s l).1 95 v0.toNatClampNeg ((f_X12_copies s l).1 95 ((128 : Int32) + ((f_X12_copies s l).1 94 ((64 : Int32) + v0).toNatClampNeg)).toNatClampNeg)) 95 ((132 : Int32) + ((wi (f_X12_copies s l).1 95 v0.toNatClampNeg ((f_X12_copies s l).1 95 ((128 : Int32) + ((f_X12_copies s l).1 94 ((64 : Int32) + v0).toNatClampNeg)).toNatClampNeg)) 94 ((64 : Int32) + v0).toNatClampNeg)).toNatClampNeg)) 95 ((64 : Int32) + v0).toNatClampNeg (-2 : Int32)) 95 ((96 : Int32) + v0).toNatClampNeg (0 : Int32)) (f_X12_copies s l).2).1, (f_X12_records (wi (wi (wi (wi (f_X12_copies s l).1 95 v0.toNatClampNeg ((f_X12_copies s l).1 95 ((128 : Int32) + ((f_X12_copies s l).1 94 ((64 : Int32) + v0).toNatClampNeg)).toNatClampNeg)) 95 ((32 : Int32) + v0).toNatClampNeg ((wi (f_X12_copies s l).1 95 v0.toNatClampNeg ((f_X12_copies s l).1 95 ((128 : Int32) + ((f_X12_copies s l).1 94 ((64 : Int32) + v0).toNatClampNeg)).toNatClampNeg)) 95 ((132 : Int32) + ((wi (f_X12_copies s l).1 95 v0.toNatClampNeg ((f_X12_copies s l).1 95 ((128 : Int32) + ((f_X12_copies s l).1 94 ((64 : Int32) + v0).toNatClampNeg)).toNatClampNeg)) 94 ((64 : Int32) + v0).toNatClampNeg)).toNatClampNeg)) 95 ((64 : Int32) + v0).toNatClampNeg (-2 : Int32)) 95 ((96 : Int32) + v0).toNatClampNeg (0 : Int32)) (f_X12_copies s l).2).2) else ((0 : Int32), s, l)

def p_X12_drop (v0 : Int32) (s : fl_I) (l : fl_L) : Prop :=
  (p_X12_isPiece v0 s l) ∧ ((((f_X12_isPiece v0 s l) = 0) → True) ∧ (¬ ((f_X12_isPiece v0 s l) = 0) → (vp_in ((64 : Int32) + v0) 141) ∧ (((0 ≤ (s 94 ((64 : Int32) + v0).toNatClampNeg)) → (p_X12_copies s l) ∧ (vp_in ((64 : Int32) + v0) 141) ∧ (vp_in ((128 : Int32) + ((f_X12_copies s l).1 94 ((64 : Int32) + v0).toNatClampNeg)) 141) ∧ (vp_in v0 141) ∧ (vp_in ((64 : Int32) + v0) 141) ∧ (vp_in ((132 : Int32) + ((wi (f_X12_copies s l).1 95 v0.toNatClampNeg ((f_X12_copies s l).1 95 ((128 : Int32) + ((f_X12_copies s l).1 94 ((64 : Int32) + v0).toNatClampNeg)).toNatClampNeg)) 94 ((64 : Int32) + v0).toNatClampNeg)) 141) ∧ (vp_in ((32 : Int32) + v0) 141) ∧ (vp_in ((64 : Int32) + v0) 141) ∧ (vp_in ((96 : Int32) + v0) 141) ∧ (p_X12_records (wi (wi (wi (wi (f_X12_copies s l).1 95 v0.toNatClampNeg ((f_X12_copies s l).1 95 ((128 : Int32) + ((f_X12_copies s l).1 94 ((64 : Int32) + v0).toNatClampNeg)).toNatClampNeg)) 95 ((32 : Int32) + v0).toNatClampNeg ((wi (f_X12_copies s l).1 95 v0.toNatClampNeg ((f_X12_copies s l).1 95 ((128 : Int32) + ((f_X12_copies s l).1 94 ((64 : Int32) + v0).toNatClampNeg)).toNatClampNeg)) 95 ((132 : Int32) + ((wi (f_X12_copies s l).1 95 v0.toNatClampNeg ((f_X12_copies s l).1 95 ((128 : Int32) + ((f_X12_copies s l).1 94 ((64 : Int32) + v0).toNatClampNeg)).toNatClampNeg)) 94 ((64 : Int32) + v0).toNatClampNeg)).toNatClampNeg)) 95 ((64 : Int32) + v0).toNatClampNeg (-2 : Int32)) 95 ((96 : Int32) + v0).toNatClampNeg (0 : Int32)) (f_X12_copies s l).2) ∧ True) ∧ (¬ (0 ≤ (s 94 ((64 : Int32) + v0).toNatClampNeg)) → True))))

set_option maxRecDepth 100000 in
set_option maxHeartbeats 4000000 in
theorem s_X12_drop {G : ab_G} {d : Nat} {D : fl_D} {s : fl_I} {l : fl_L} {v0 : Int32} (hk : p_X12_drop v0 s l) : ab_C G (d + 2) 0 0 M_X12_drop 0 (ab_ent [.ref 60, .int v0]) [] (hp D s l) (rt (some (.int (f_X12_drop v0 s l).1)) (hp D (f_X12_drop v0 s l).2.1 (f_X12_drop v0 s l).2.2)) := by
  generalize he : (f_X12_drop v0 s l) = res
  unfold f_X12_drop at he
  unfold p_X12_drop at hk
  refine r_weak (L1 := [some (.ref 60), some (.int v0)]) ⟨rfl, rfl, trivial⟩ ?_
  refine r_aload_n rfl rfl ?_
  refine r_iload_n rfl rfl ?_
  obtain ⟨hb0, hk⟩ := hk
  refine q_callV0 [_] _ rfl kY_X12_isPiece kT_X12_isPiece rfl rfl (Nat.le_of_ble_eq_true rfl) (Nat.le_of_ble_eq_true rfl) (cc_60 _) (s_X12_isPiece hb0) (fun r h q => ?_)
  obtain ⟨rfl, rfl⟩ := q
  simp only [Option.toList, List.cons_append, List.nil_append]
  refine r_if_eq rfl (fun c_5 => ?_) (fun c_5 => ?_)
  · rw [if_pos c_5] at he
    replace hk := hk.1 c_5
    refine r_iconst_ (a := 0) rfl (by decide) ?_
    refine r_iret rfl rfl rfl ?_
    subst he
    exact ⟨rfl, rfl⟩
  · rw [if_neg c_5] at he
    replace hk := hk.2 c_5
    refine r_aload_n rfl rfl ?_
    refine q_getfield rfl (cc_60 _) rfl ?_
    refine r_bipush_ (a := 64) rfl (by decide) ?_
    refine r_iload_n rfl rfl ?_
    refine r_iadd rfl ?_
    obtain ⟨hb1, hk⟩ := hk
    refine q_iald rfl (cc_94 _) hb1 ?_
    refine r_if_ge rfl (fun c_17 => ?_) (fun c_17 => ?_)
    · rw [if_pos c_17] at he
      replace hk := hk.1 c_17
      refine r_aload_n rfl rfl ?_
      obtain ⟨hb2, hk⟩ := hk
      refine q_callV0 [] _ rfl kY_X12_copies kT_X12_copies rfl rfl (Nat.le_of_ble_eq_true rfl) (Nat.le_of_ble_eq_true rfl) (cc_60 _) (s_X12_copies hb2) (fun r h q => ?_)
      obtain ⟨rfl, rfl⟩ := q
      simp only [Option.toList, List.cons_append, List.nil_append]
      refine r_aload_n rfl rfl ?_
      refine q_getfield rfl (cc_60 _) rfl ?_
      refine r_iload_n rfl rfl ?_
      refine r_aload_n rfl rfl ?_
      refine q_getfield rfl (cc_60 _) rfl ?_
      refine r_sipush_ (a := 128) rfl (by decide) ?_
      refine r_aload_n rfl rfl ?_
      refine q_getfield rfl (cc_60 _) rfl ?_
      refine r_bipush_ (a := 64) rfl (by decide) ?_
      refine r_iload_n rfl rfl ?_
      refine r_iadd rfl ?_
      obtain ⟨hb3, hk⟩ := hk
      refine q_iald rfl (cc_94 _) hb3 ?_
      refine r_iadd rfl ?_
      obtain ⟨hb4, hk⟩ := hk
      refine q_iald rfl (cc_95 _) hb4 ?_
      obtain ⟨hb5, hk⟩ := hk
      refine w_iast rfl (cc_95 _) hb5 ?_
      refine r_aload_n rfl rfl ?_
      refine q_getfield rfl (cc_60 _) rfl ?_
      refine r_bipush_ (a := 32) rfl (by decide) ?_
      refine r_iload_n rfl rfl ?_
      refine r_iadd rfl ?_
      refine r_aload_n rfl rfl ?_
      refine q_getfield rfl (cc_60 _) rfl ?_
      refine r_sipush_ (a := 132) rfl (by decide) ?_
      refine r_aload_n rfl rfl ?_
      refine q_getfield rfl (cc_60 _) rfl ?_
      refine r_bipush_ (a := 64) rfl (by decide) ?_
      refine r_iload_n rfl rfl ?_
      refine r_iadd rfl ?_
      obtain ⟨hb6, hk⟩ := hk
      refine q_iald rfl (cc_94 _) hb6 ?_
      refine r_iadd rfl ?_
      obtain ⟨hb7, hk⟩ := hk
      refine q_iald rfl (cc_95 _) hb7 ?_
      obtain ⟨hb8, hk⟩ := hk
      refine w_iast rfl (cc_95 _) hb8 ?_
      refine r_aload_n rfl rfl ?_
      refine q_getfield rfl (cc_60 _) rfl ?_
      refine r_bipush_ (a := 64) rfl (by decide) ?_
      refine r_iload_n rfl rfl ?_
      refine r_iadd rfl ?_
      refine r_bipush_ (a := -2) rfl (by decide) ?_
      obtain ⟨hb9, hk⟩ := hk
      refine w_iast rfl (cc_95 _) hb9 ?_
      refine r_aload_n rfl rfl ?_
      refine q_getfield rfl (cc_60 _) rfl ?_
      refine r_bipush_ (a := 96) rfl (by decide) ?_
      refine r_iload_n rfl rfl ?_
      refine r_iadd rfl ?_
      refine r_iconst_ (a := 0) rfl (by decide) ?_
      obtain ⟨hb10, hk⟩ := hk
      refine w_iast rfl (cc_95 _) hb10 ?_
      refine r_aload_n rfl rfl ?_
      obtain ⟨hb11, hk⟩ := hk
      refine q_callV0 [] _ rfl kY_X12_records kT_X12_records rfl rfl (Nat.le_of_ble_eq_true rfl) (Nat.le_of_ble_eq_true rfl) (cc_60 _) (s_X12_records hb11) (fun r h q => ?_)
      obtain ⟨rfl, rfl⟩ := q
      simp only [Option.toList, List.cons_append, List.nil_append]
      refine r_iconst_ (a := 1) rfl (by decide) ?_
      refine r_iret rfl rfl rfl ?_
      subst he
      exact ⟨rfl, rfl⟩
    · rw [if_neg c_17] at he
      replace hk := hk.2 c_17
      refine r_iconst_ (a := 0) rfl (by decide) ?_
      refine r_iret rfl rfl rfl ?_
      subst he
      exact ⟨rfl, rfl⟩

def f_X1_ofPiece (v0 : Int32) (v3 : Int32) (v4 : Int32) (t : Nat) (a : Nat) (s : fl_I) (l : fl_L) : Int32 × fl_I × fl_L :=
  ((f_X1_value v0 t (wi (wi (wi (wi (wi (wi (wi (wi (wi s 48 (0 : Int32).toNatClampNeg (s (t + 4) v3.toNatClampNeg)) 48 (1 : Int32).toNatClampNeg ((s (a + 1) v3.toNatClampNeg) - (s (a + 1) v3.toNatClampNeg) / (10 : Int32) * (10 : Int32))) 48 (2 : Int32).toNatClampNeg ((s (a + 1) v3.toNatClampNeg) / (10 : Int32))) 48 (3 : Int32).toNatClampNeg ((wi (wi (wi s 48 (0 : Int32).toNatClampNeg (s (t + 4) v3.toNatClampNeg)) 48 (1 : Int32).toNatClampNeg ((s (a + 1) v3.toNatClampNeg) - (s (a + 1) v3.toNatClampNeg) / (10 : Int32) * (10 : Int32))) 48 (2 : Int32).toNatClampNeg ((s (a + 1) v3.toNatClampNeg) / (10 : Int32))) a 0)) 48 (4 : Int32).toNatClampNeg ((wi (wi (wi (wi s 48 (0 : Int32).toNatClampNeg (s (t + 4) v3.toNatClampNeg)) 48 (1 : Int32).toNatClampNeg ((s (a + 1) v3.toNatClampNeg) - (s (a + 1) v3.toNatClampNeg) / (10 : Int32) * (10 : Int32))) 48 (2 : Int32).toNatClampNeg ((s (a + 1) v3.toNatClampNeg) / (10 : Int32))) 48 (3 : Int32).toNatClampNeg ((wi (wi (wi s 48 (0 : Int32).toNatClampNeg (s (t + 4) v3.toNatClampNeg)) 48 (1 : Int32).toNatClampNeg ((s (a + 1) v3.toNatClampNeg) - (s (a + 1) v3.toNatClampNeg) / (10 : Int32) * (10 : Int32))) 48 (2 : Int32).toNatClampNeg ((s (a + 1) v3.toNatClampNeg) / (10 : Int32))) a 0)) (a + 2) v3.toNatClampNeg)) 48 (5 : Int32).toNatClampNeg (0 : Int32)) 48 (6 : Int32).toNatClampNeg (0 : Int32)) 48 (7 : Int32).toNatClampNeg v4) 48 (8 : Int32).toNatClampNeg v3) l).1, (f_X1_value v0 t (wi (wi (wi (wi (wi (wi (wi (wi (wi s 48 (0 : Int32).toNatClampNeg (s (t + 4) v3.toNatClampNeg)) 48 (1 : Int32).toNatClampNeg ((s (a + 1) v3.toNatClampNeg) - (s (a + 1) v3.toNatClampNeg) / (10 : Int32) * (10 : Int32))) 48 (2 : Int32).toNatClampNeg ((s (a + 1) v3.toNatClampNeg) / (10 : Int32))) 48 (3 : Int32).toNatClampNeg ((wi (wi (wi s 48 (0 : Int32).toNatClampNeg (s (t + 4) v3.toNatClampNeg)) 48 (1 : Int32).toNatClampNeg ((s (a + 1) v3.toNatClampNeg) - (s (a + 1) v3.toNatClampNeg) / (10 : Int32) * (10 : Int32))) 48 (2 : Int32).toNatClampNeg ((s (a + 1) v3.toNatClampNeg) / (10 : Int32))) a 0)) 48 (4 : Int32).toNatClampNeg ((wi (wi (wi (wi s 48 (0 : Int32).toNatClampNeg (s (t + 4) v3.toNatClampNeg)) 48 (1 : Int32).toNatClampNeg ((s (a + 1) v3.toNatClampNeg) - (s (a + 1) v3.toNatClampNeg) / (10 : Int32) * (10 : Int32))) 48 (2 : Int32).toNatClampNeg ((s (a + 1) v3.toNatClampNeg) / (10 : Int32))) 48 (3 : Int32).toNatClampNeg ((wi (wi (wi s 48 (0 : Int32).toNatClampNeg (s (t + 4) v3.toNatClampNeg)) 48 (1 : Int32).toNatClampNeg ((s (a + 1) v3.toNatClampNeg) - (s (a + 1) v3.toNatClampNeg) / (10 : Int32) * (10 : Int32))) 48 (2 : Int32).toNatClampNeg ((s (a + 1) v3.toNatClampNeg) / (10 : Int32))) a 0)) (a + 2) v3.toNatClampNeg)) 48 (5 : Int32).toNatClampNeg (0 : Int32)) 48 (6 : Int32).toNatClampNeg (0 : Int32)) 48 (7 : Int32).toNatClampNeg v4) 48 (8 : Int32).toNatClampNeg v3) l).2.1, (f_X1_value v0 t (wi (wi (wi (wi (wi (wi (wi (wi (wi s 48 (0 : Int32).toNatClampNeg (s (t + 4) v3.toNatClampNeg)) 48 (1 : Int32).toNatClampNeg ((s (a + 1) v3.toNatClampNeg) - (s (a + 1) v3.toNatClampNeg) / (10 : Int32) * (10 : Int32))) 48 (2 : Int32).toNatClampNeg ((s (a + 1) v3.toNatClampNeg) / (10 : Int32))) 48 (3 : Int32).toNatClampNeg ((wi (wi (wi s 48 (0 : Int32).toNatClampNeg (s (t + 4) v3.toNatClampNeg)) 48 (1 : Int32).toNatClampNeg ((s (a + 1) v3.toNatClampNeg) - (s (a + 1) v3.toNatClampNeg) / (10 : Int32) * (10 : Int32))) 48 (2 : Int32).toNatClampNeg ((s (a + 1) v3.toNatClampNeg) / (10 : Int32))) a 0)) 48 (4 : Int32).toNatClampNeg ((wi (wi (wi (wi s 48 (0 : Int32).toNatClampNeg (s (t + 4) v3.toNatClampNeg)) 48 (1 : Int32).toNatClampNeg ((s (a + 1) v3.toNatClampNeg) - (s (a + 1) v3.toNatClampNeg) / (10 : Int32) * (10 : Int32))) 48 (2 : Int32).toNatClampNeg ((s (a + 1) v3.toNatClampNeg) / (10 : Int32))) 48 (3 : Int32).toNatClampNeg ((wi (wi (wi s 48 (0 : Int32).toNatClampNeg (s (t + 4) v3.toNatClampNeg)) 48 (1 : Int32).toNatClampNeg ((s (a + 1) v3.toNatClampNeg) - (s (a + 1) v3.toNatClampNeg) / (10 : Int32) * (10 : Int32))) 48 (2 : Int32).toNatClampNeg ((s (a + 1) v3.toNatClampNeg) / (10 : Int32))) a 0)) (a + 2) v3.toNatClampNeg)) 48 (5 : Int32).toNatClampNeg (0 : Int32)) 48 (6 : Int32).toNatClampNeg (0 : Int32)) 48 (7 : Int32).toNatClampNeg v4) 48 (8 : Int32).toNatClampNeg v3) l).2.2)

def p_X1_ofPiece (v0 : Int32) (v3 : Int32) (v4 : Int32) (t : Nat) (a : Nat) (s : fl_I) (l : fl_L) : Prop :=
  (vp_in v3 32) ∧ (vp_in v3 32) ∧ (vp_in v3 32) ∧ (p_X1_value v0 t (wi (wi (wi (wi (wi (wi (wi (wi (wi s 48 (0 : Int32).toNatClampNeg (s (t + 4) v3.toNatClampNeg)) 48 (1 : Int32).toNatClampNeg ((s (a + 1) v3.toNatClampNeg) - (s (a + 1) v3.toNatClampNeg) / (10 : Int32) * (10 : Int32))) 48 (2 : Int32).toNatClampNeg ((s (a + 1) v3.toNatClampNeg) / (10 : Int32))) 48 (3 : Int32).toNatClampNeg ((wi (wi (wi s 48 (0 : Int32).toNatClampNeg (s (t + 4) v3.toNatClampNeg)) 48 (1 : Int32).toNatClampNeg ((s (a + 1) v3.toNatClampNeg) - (s (a + 1) v3.toNatClampNeg) / (10 : Int32) * (10 : Int32))) 48 (2 : Int32).toNatClampNeg ((s (a + 1) v3.toNatClampNeg) / (10 : Int32))) a 0)) 48 (4 : Int32).toNatClampNeg ((wi (wi (wi (wi s 48 (0 : Int32).toNatClampNeg (s (t + 4) v3.toNatClampNeg)) 48 (1 : Int32).toNatClampNeg ((s (a + 1) v3.toNatClampNeg) - (s (a + 1) v3.toNatClampNeg) / (10 : Int32) * (10 : Int32))) 48 (2 : Int32).toNatClampNeg ((s (a + 1) v3.toNatClampNeg) / (10 : Int32))) 48 (3 : Int32).toNatClampNeg ((wi (wi (wi s 48 (0 : Int32).toNatClampNeg (s (t + 4) v3.toNatClampNeg)) 48 (1 : Int32).toNatClampNeg ((s (a + 1) v3.toNatClampNeg) - (s (a + 1) v3.toNatClampNeg) / (10 : Int32) * (10 : Int32))) 48 (2 : Int32).toNatClampNeg ((s (a + 1) v3.toNatClampNeg) / (10 : Int32))) a 0)) (a + 2) v3.toNatClampNeg)) 48 (5 : Int32).toNatClampNeg (0 : Int32)) 48 (6 : Int32).toNatClampNeg (0 : Int32)) 48 (7 : Int32).toNatClampNeg v4) 48 (8 : Int32).toNatClampNeg v3) l) ∧ True

set_option maxRecDepth 100000 in
set_option maxHeartbeats 4000000 in
theorem s_X1_ofPiece {G : ab_G} {d : Nat} {D : fl_D} {s : fl_I} {l : fl_L} {t : Nat} (htt : isT t) {a : Nat} (hya : isY D a) {v0 : Int32} {v3 : Int32} {v4 : Int32} (hk : p_X1_ofPiece v0 v3 v4 t a s l) : ab_C G (d + 2) 0 0 M_X1_ofPiece 0 (ab_ent [.ref 47, .int v0, .ref t, .ref a, .int v3, .int v4]) [] (hp D s l) (rt (some (.int (f_X1_ofPiece v0 v3 v4 t a s l).1)) (hp D (f_X1_ofPiece v0 v3 v4 t a s l).2.1 (f_X1_ofPiece v0 v3 v4 t a s l).2.2)) := by
  generalize he : (f_X1_ofPiece v0 v3 v4 t a s l) = res
  unfold f_X1_ofPiece at he
  unfold p_X1_ofPiece at hk
  refine r_weak (L1 := [some (.ref 47), some (.int v0), some (.ref t), some (.ref a), some (.int v3), some (.int v4), none]) ⟨rfl, rfl, rfl, rfl, rfl, rfl, trivial⟩ ?_
  refine r_aload_n rfl rfl ?_
  refine q_getfield rfl (cY_0 hya) rfl ?_
  refine r_iload rfl rfl ?_
  obtain ⟨hb0, hk⟩ := hk
  refine q_iald rfl (cY_1 hya) hb0 ?_
  refine r_istore rfl (Nat.le_of_ble_eq_true rfl) rfl ?_
  refine r_aload_n rfl rfl ?_
  refine q_getfield rfl (cc_47 _) rfl ?_
  refine r_iconst_ (a := 0) rfl (by decide) ?_
  refine r_aload_n rfl rfl ?_
  refine q_getfield rfl (cT_0 htt) rfl ?_
  refine r_iload rfl rfl ?_
  obtain ⟨hb1, hk⟩ := hk
  refine q_iald rfl (cT_4 htt) hb1 ?_
  refine w_iast rfl (cc_48 _) (by unfold vp_in; decide) ?_
  refine r_aload_n rfl rfl ?_
  refine q_getfield rfl (cc_47 _) rfl ?_
  refine r_iconst_ (a := 1) rfl (by decide) ?_
  refine r_iload rfl rfl ?_
  refine r_bipush_ (a := 10) rfl (by decide) ?_
  refine r_irem rfl (by decide) ?_
  refine w_iast rfl (cc_48 _) (by unfold vp_in; decide) ?_
  refine r_aload_n rfl rfl ?_
  refine q_getfield rfl (cc_47 _) rfl ?_
  refine r_iconst_ (a := 2) rfl (by decide) ?_
  refine r_iload rfl rfl ?_
  refine r_bipush_ (a := 10) rfl (by decide) ?_
  refine r_idiv rfl (by decide) ?_
  refine w_iast rfl (cc_48 _) (by unfold vp_in; decide) ?_
  refine r_aload_n rfl rfl ?_
  refine q_getfield rfl (cc_47 _) rfl ?_
  refine r_iconst_ (a := 3) rfl (by decide) ?_
  refine r_aload_n rfl rfl ?_
  refine q_getfield rfl (cY_0 hya) rfl ?_
  refine w_iast rfl (cc_48 _) (by unfold vp_in; decide) ?_
  refine r_aload_n rfl rfl ?_
  refine q_getfield rfl (cc_47 _) rfl ?_
  refine r_iconst_ (a := 4) rfl (by decide) ?_
  refine r_aload_n rfl rfl ?_
  refine q_getfield rfl (cY_0 hya) rfl ?_
  refine r_iload rfl rfl ?_
  obtain ⟨hb2, hk⟩ := hk
  refine q_iald rfl (cY_2 hya) hb2 ?_
  refine w_iast rfl (cc_48 _) (by unfold vp_in; decide) ?_
  refine r_aload_n rfl rfl ?_
  refine q_getfield rfl (cc_47 _) rfl ?_
  refine r_iconst_ (a := 5) rfl (by decide) ?_
  refine r_iconst_ (a := 0) rfl (by decide) ?_
  refine w_iast rfl (cc_48 _) (by unfold vp_in; decide) ?_
  refine r_aload_n rfl rfl ?_
  refine q_getfield rfl (cc_47 _) rfl ?_
  refine r_bipush_ (a := 6) rfl (by decide) ?_
  refine r_iconst_ (a := 0) rfl (by decide) ?_
  refine w_iast rfl (cc_48 _) (by unfold vp_in; decide) ?_
  refine r_aload_n rfl rfl ?_
  refine q_getfield rfl (cc_47 _) rfl ?_
  refine r_bipush_ (a := 7) rfl (by decide) ?_
  refine r_iload rfl rfl ?_
  refine w_iast rfl (cc_48 _) (by unfold vp_in; decide) ?_
  refine r_aload_n rfl rfl ?_
  refine q_getfield rfl (cc_47 _) rfl ?_
  refine r_bipush_ (a := 8) rfl (by decide) ?_
  refine r_iload rfl rfl ?_
  refine w_iast rfl (cc_48 _) (by unfold vp_in; decide) ?_
  refine r_aload_n rfl rfl ?_
  refine r_aload_n rfl rfl ?_
  refine r_iload_n rfl rfl ?_
  obtain ⟨hb3, hk⟩ := hk
  refine q_callV0 [_, _] _ rfl kY_X1_value kT_X1_value rfl rfl (Nat.le_of_ble_eq_true rfl) (Nat.le_of_ble_eq_true rfl) (cc_47 _) (s_X1_value htt hb3) (fun r h q => ?_)
  obtain ⟨rfl, rfl⟩ := q
  simp only [Option.toList, List.cons_append, List.nil_append]
  refine r_iret rfl rfl rfl ?_
  subst he
  exact ⟨rfl, rfl⟩

