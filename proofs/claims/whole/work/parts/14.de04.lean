def f_X12_whole_16 (fu : Nat) : Nat → Int32 → Int32 → fl_I → fl_L → Int32
  | 0, _, _, _, _ => 0
  | n + 1, x1, x2, s, l =>
    if ((s 60 54) ≤ x2) then x1 else if (0 ≤ (s 94 ((64 : Int32) + x2).toNatClampNeg)) then f_X12_whole_16 fu n x1 (x2 + 1) s l else f_X12_whole_16 fu n (x1 &&& (((1 : Int32) <<< ((s 97 x2.toNatClampNeg) &&& 31)) ^^^ (-1 : Int32))) (x2 + 1) s l

def p_X12_whole_16 (fu : Nat) : Nat → Int32 → Int32 → fl_I → fl_L → Prop
  | 0, _, _, _, _ => False
  | n + 1, x1, x2, s, l =>
    ((((s 60 54) ≤ x2) → True) ∧ (¬ ((s 60 54) ≤ x2) → (vp_in ((64 : Int32) + x2) 141) ∧ (((0 ≤ (s 94 ((64 : Int32) + x2).toNatClampNeg)) → p_X12_whole_16 fu n x1 (x2 + 1) s l) ∧ (¬ (0 ≤ (s 94 ((64 : Int32) + x2).toNatClampNeg)) → (vp_in x2 32) ∧ p_X12_whole_16 fu n (x1 &&& (((1 : Int32) <<< ((s 97 x2.toNatClampNeg) &&& 31)) ^^^ (-1 : Int32))) (x2 + 1) s l))))

set_option maxRecDepth 100000 in
set_option maxHeartbeats 1000000 in
theorem lp_X12_whole_16 {G : ab_G} {fu : Nat} {d : Nat} {D : fl_D} {s : fl_I} {l : fl_L} : ∀ (n : Nat) (x1 : Int32) (x2 : Int32), p_X12_whole_16 fu n x1 x2 s l → ab_C G d 0 0 M_X12_whole 16 [some (.ref 60), some (.int x1), some (.int x2)] [] (hp D s l) (rt (some (.int (f_X12_whole_16 fu n x1 x2 s l))) (hp D s l)) := by
  intro n
  induction n with
  | zero => intro x1 x2 hk; exact hk.elim
  | succ n ih =>
    intro x1 x2 hk
    generalize he : f_X12_whole_16 fu (n + 1) x1 x2 s l = res
    unfold f_X12_whole_16 at he
    unfold p_X12_whole_16 at hk
    refine r_iload_n rfl rfl ?_
    refine r_aload_n rfl rfl ?_
    refine q_getfield rfl (cc_60 _) rfl ?_
    refine r_icmp_ge rfl (fun c_21 => ?_) (fun c_21 => ?_)
    · rw [if_pos c_21] at he
      replace hk := hk.1 c_21
      refine r_iload_n rfl rfl ?_
      refine r_iret rfl rfl rfl ?_
      first | with_reducible exact fin_ri he | exact fin_ri he
    · rw [if_neg c_21] at he
      replace hk := hk.2 c_21
      refine r_aload_n rfl rfl ?_
      refine q_getfield rfl (cc_60 _) rfl ?_
      refine r_bipush_ (a := 64) rfl (by decide) ?_
      refine r_iload_n rfl rfl ?_
      refine r_iadd rfl ?_
      obtain ⟨hb1, hk⟩ := hk
      refine q_iald rfl (cc_94 _) hb1 ?_
      refine r_if_ge rfl (fun c_33 => ?_) (fun c_33 => ?_)
      · rw [if_pos c_33] at he
        replace hk := hk.1 c_33
        refine r_iinc (b := x2 + 1) rfl rfl rfl (Nat.le_of_ble_eq_true rfl) rfl ?_
        refine r_goto rfl ?_
        subst he
        exact r_weak (L1 := [some (.ref 60), some (.int x1), some (.int (x2 + 1))]) ⟨rfl, rfl, rfl, trivial⟩ (ih _ _ hk)
      · rw [if_neg c_33] at he
        replace hk := hk.2 c_33
        refine r_iload_n rfl rfl ?_
        refine r_iconst_ (a := 1) rfl (by decide) ?_
        refine r_aload_n rfl rfl ?_
        refine q_getfield rfl (cc_60 _) rfl ?_
        refine r_iload_n rfl rfl ?_
        obtain ⟨hb2, hk⟩ := hk
        refine q_iald rfl (cc_97 _) hb2 ?_
        refine r_ishl rfl ?_
        refine r_iconst_ (a := -1) rfl (by decide) ?_
        refine r_ixor rfl ?_
        refine r_iand rfl ?_
        refine r_istore_n rfl (Nat.le_of_ble_eq_true rfl) rfl ?_
        refine r_iinc (b := x2 + 1) rfl rfl rfl (Nat.le_of_ble_eq_true rfl) rfl ?_
        refine r_goto rfl ?_
        subst he
        exact r_weak (L1 := [some (.ref 60), some (.int (x1 &&& (((1 : Int32) <<< ((s 97 x2.toNatClampNeg) &&& 31)) ^^^ (-1 : Int32)))), some (.int (x2 + 1))]) ⟨rfl, rfl, rfl, trivial⟩ (ih _ _ hk)

def f_X12_whole (fu : Nat) (s : fl_I) (l : fl_L) : Int32 :=
  f_X12_whole_16 fu fu (((1 : Int32) <<< ((s 68 (s 60 18).toNatClampNeg) &&& 31)) - (1 : Int32)) (0 : Int32) s l

def p_X12_whole (fu : Nat) (s : fl_I) (l : fl_L) : Prop :=
  (vp_in (s 60 18) 2) ∧ p_X12_whole_16 fu fu (((1 : Int32) <<< ((s 68 (s 60 18).toNatClampNeg) &&& 31)) - (1 : Int32)) (0 : Int32) s l

set_option maxRecDepth 100000 in
set_option maxHeartbeats 1000000 in
theorem s_X12_whole {G : ab_G} {fu : Nat} {d : Nat} {D : fl_D} {s : fl_I} {l : fl_L}  (hk : p_X12_whole fu s l) : ab_C G d 0 0 M_X12_whole 0 (ab_ent [.ref 60]) [] (hp D s l) (rt (some (.int (f_X12_whole fu s l))) (hp D s l)) := by
  generalize he : (f_X12_whole fu s l) = res
  unfold f_X12_whole at he
  unfold p_X12_whole at hk
  refine r_weak (L1 := [some (.ref 60), none, none]) ⟨rfl, trivial⟩ ?_
  refine r_iconst_ (a := 1) rfl (by decide) ?_
  refine r_aload_n rfl rfl ?_
  refine q_getfield rfl (cc_60 _) rfl ?_
  refine r_aload_n rfl rfl ?_
  refine q_getfield rfl (cc_60 _) rfl ?_
  obtain ⟨hb0, hk⟩ := hk
  refine q_iald rfl (cc_68 _) hb0 ?_
  refine r_ishl rfl ?_
  refine r_iconst_ (a := 1) rfl (by decide) ?_
  refine r_isub rfl ?_
  refine r_istore_n rfl (Nat.le_of_ble_eq_true rfl) rfl ?_
  refine r_iconst_ (a := 0) rfl (by decide) ?_
  refine r_istore_n rfl (Nat.le_of_ble_eq_true rfl) rfl ?_
  subst he
  exact r_weak (L1 := [some (.ref 60), some (.int (((1 : Int32) <<< ((s 68 (s 60 18).toNatClampNeg) &&& 31)) - (1 : Int32))), some (.int (0 : Int32))]) ⟨rfl, rfl, rfl, trivial⟩ (lp_X12_whole_16 fu _ _ hk)

def f_X8_fewest_14 (fu : Nat) : Nat → Int32 → Int32 → Int32 → Int32 → fl_D → fl_I → fl_L → Int32
  | 0, _, _, _, _, _, _, _ => 0
  | n + 1, x1, x2, x3, x4, D, s, l =>
    if ((s 51 0) ≤ x4) then x3 else if (((x2 >>> (x4 &&& 31)) &&& (1 : Int32)) = (1 : Int32)) then f_X8_fewest_14 fu n x1 x2 (i_min x3 ((f_X11_apart fu x1 (s 52 x4.toNatClampNeg)) + (s D.2.2.2.1 (f_X8_index fu x2 x4).toNatClampNeg))) (x4 + 1) D s l else f_X8_fewest_14 fu n x1 x2 x3 (x4 + 1) D s l

def p_X8_fewest_14 (fu : Nat) : Nat → Int32 → Int32 → Int32 → Int32 → fl_D → fl_I → fl_L → Prop
  | 0, _, _, _, _, _, _, _ => False
  | n + 1, x1, x2, x3, x4, D, s, l =>
    ((((s 51 0) ≤ x4) → True) ∧ (¬ ((s 51 0) ≤ x4) → (((((x2 >>> (x4 &&& 31)) &&& (1 : Int32)) = (1 : Int32)) → (vp_in x4 10) ∧ (p_X11_apart fu x1 (s 52 x4.toNatClampNeg)) ∧ (p_X8_index fu x2 x4) ∧ (vp_in (f_X8_index fu x2 x4) 10240) ∧ p_X8_fewest_14 fu n x1 x2 (i_min x3 ((f_X11_apart fu x1 (s 52 x4.toNatClampNeg)) + (s D.2.2.2.1 (f_X8_index fu x2 x4).toNatClampNeg))) (x4 + 1) D s l) ∧ (¬ (((x2 >>> (x4 &&& 31)) &&& (1 : Int32)) = (1 : Int32)) → p_X8_fewest_14 fu n x1 x2 x3 (x4 + 1) D s l))))

set_option maxRecDepth 100000 in
set_option maxHeartbeats 1000000 in
theorem lp_X8_fewest_14 {G : ab_G} {fu : Nat} {d : Nat} {D : fl_D} {s : fl_I} {l : fl_L} (hfr : ∀ f g, cl D D.2.2.2.1 f g = some (.inl (0, 10240, .inl f))) : ∀ (n : Nat) (x1 : Int32) (x2 : Int32) (x3 : Int32) (x4 : Int32), p_X8_fewest_14 fu n x1 x2 x3 x4 D s l → ab_C G (d + 1) 0 0 M_X8_fewest 14 [some (.ref 51), some (.int x1), some (.int x2), some (.int x3), some (.int x4)] [] (hp D s l) (rt (some (.int (f_X8_fewest_14 fu n x1 x2 x3 x4 D s l))) (hp D s l)) := by
  intro n
  induction n with
  | zero => intro x1 x2 x3 x4 hk; exact hk.elim
  | succ n ih =>
    intro x1 x2 x3 x4 hk
    generalize he : f_X8_fewest_14 fu (n + 1) x1 x2 x3 x4 D s l = res
    unfold f_X8_fewest_14 at he
    unfold p_X8_fewest_14 at hk
    refine r_iload rfl rfl ?_
    refine r_aload_n rfl rfl ?_
    refine q_getfield rfl (cc_51 _) rfl ?_
    refine r_icmp_ge rfl (fun c_20 => ?_) (fun c_20 => ?_)
    · rw [if_pos c_20] at he
      replace hk := hk.1 c_20
      refine r_iload_n rfl rfl ?_
      refine r_iret rfl rfl rfl ?_
      first | with_reducible exact fin_ri he | exact fin_ri he
    · rw [if_neg c_20] at he
      replace hk := hk.2 c_20
      refine r_iload_n rfl rfl ?_
      refine r_iload rfl rfl ?_
      refine r_ishr rfl ?_
      refine r_iconst_ (a := 1) rfl (by decide) ?_
      refine r_iand rfl ?_
      refine r_iconst_ (a := 1) rfl (by decide) ?_
      refine r_icmp_ne rfl (fun c_30 => ?_) (fun c_30 => ?_)
      · rw [if_neg c_30] at he
        replace hk := hk.2 c_30
        refine r_iinc (b := x4 + 1) rfl rfl rfl (Nat.le_of_ble_eq_true rfl) rfl ?_
        refine r_goto rfl ?_
        subst he
        exact r_weak (L1 := [some (.ref 51), some (.int x1), some (.int x2), some (.int x3), some (.int (x4 + 1))]) ⟨rfl, rfl, rfl, rfl, rfl, trivial⟩ (ih _ _ _ _ hk)
      · rw [if_pos c_30] at he
        replace hk := hk.1 c_30
        refine r_iload_n rfl rfl ?_
        refine r_iload_n rfl rfl ?_
        refine r_aload_n rfl rfl ?_
        refine q_getfield rfl (cc_51 _) rfl ?_
        refine r_iload rfl rfl ?_
        obtain ⟨hb0, hk⟩ := hk
        refine q_iald rfl (cc_52 _) hb0 ?_
        obtain ⟨hb1, hk⟩ := hk
        refine r_callSN0 [_, _] _ rfl kY_X11_apart kT_X11_apart rfl rfl (Nat.le_of_ble_eq_true rfl) (Nat.le_of_ble_eq_true rfl) (s_X11_apart hb1) (fun r h q => ?_)
        obtain ⟨rfl, rfl⟩ := q
        simp only [Option.toList, List.cons_append, List.nil_append]
        refine r_aload_n rfl rfl ?_
        refine q_getfield rfl (cc_51 _) rfl ?_
        refine r_iload_n rfl rfl ?_
        refine r_iload rfl rfl ?_
        obtain ⟨hb2, hk⟩ := hk
        refine r_callS0 [_, _] _ rfl kY_X8_index kT_X8_index rfl rfl (Nat.le_of_ble_eq_true rfl) (Nat.le_of_ble_eq_true rfl) (s_X8_index hb2) (fun r h q => ?_)
        obtain ⟨rfl, rfl⟩ := q
        simp only [Option.toList, List.cons_append, List.nil_append]
        obtain ⟨hb3, hk⟩ := hk
        refine q_iald rfl hfr hb3 ?_
        refine r_iadd rfl ?_
        refine r_mmin rfl (Nat.le_of_ble_eq_true rfl) ?_
        refine r_istore_n rfl (Nat.le_of_ble_eq_true rfl) rfl ?_
        refine r_iinc (b := x4 + 1) rfl rfl rfl (Nat.le_of_ble_eq_true rfl) rfl ?_
        refine r_goto rfl ?_
        subst he
        exact r_weak (L1 := [some (.ref 51), some (.int x1), some (.int x2), some (.int (i_min x3 ((f_X11_apart fu x1 (s 52 x4.toNatClampNeg)) + (s D.2.2.2.1 (f_X8_index fu x2 x4).toNatClampNeg)))), some (.int (x4 + 1))]) ⟨rfl, rfl, rfl, rfl, rfl, trivial⟩ (ih _ _ _ _ hk)

def f_X8_fewest (fu : Nat) (v0 : Int32) (v1 : Int32) (D : fl_D) (s : fl_I) (l : fl_L) : Int32 :=
  if (v1 = 0) then f_X8_fewest_14 fu fu v0 v1 (0 : Int32) (0 : Int32) D s l else f_X8_fewest_14 fu fu v0 v1 (1000000 : Int32) (0 : Int32) D s l

def p_X8_fewest (fu : Nat) (v0 : Int32) (v1 : Int32) (D : fl_D) (s : fl_I) (l : fl_L) : Prop :=
  (((v1 = 0) → p_X8_fewest_14 fu fu v0 v1 (0 : Int32) (0 : Int32) D s l) ∧ (¬ (v1 = 0) → p_X8_fewest_14 fu fu v0 v1 (1000000 : Int32) (0 : Int32) D s l))

set_option maxRecDepth 100000 in
set_option maxHeartbeats 1000000 in
theorem s_X8_fewest {G : ab_G} {fu : Nat} {d : Nat} {D : fl_D} {s : fl_I} {l : fl_L} (hfr : ∀ f g, cl D D.2.2.2.1 f g = some (.inl (0, 10240, .inl f))) {v0 : Int32} {v1 : Int32} (hk : p_X8_fewest fu v0 v1 D s l) : ab_C G (d + 1) 0 0 M_X8_fewest 0 (ab_ent [.ref 51, .int v0, .int v1]) [] (hp D s l) (rt (some (.int (f_X8_fewest fu v0 v1 D s l))) (hp D s l)) := by
  generalize he : (f_X8_fewest fu v0 v1 D s l) = res
  unfold f_X8_fewest at he
  unfold p_X8_fewest at hk
  refine r_weak (L1 := [some (.ref 51), some (.int v0), some (.int v1), none, none]) ⟨rfl, rfl, rfl, trivial⟩ ?_
  refine r_iload_n rfl rfl ?_
  refine r_if_ne rfl (fun c_1 => ?_) (fun c_1 => ?_)
  · rw [if_neg c_1] at he
    replace hk := hk.2 c_1
    refine r_ldc rfl ?_
    refine r_istore_n rfl (Nat.le_of_ble_eq_true rfl) rfl ?_
    refine r_iconst_ (a := 0) rfl (by decide) ?_
    refine r_istore rfl (Nat.le_of_ble_eq_true rfl) rfl ?_
    subst he
    exact r_weak (L1 := [some (.ref 51), some (.int v0), some (.int v1), some (.int (1000000 : Int32)), some (.int (0 : Int32))]) ⟨rfl, rfl, rfl, rfl, rfl, trivial⟩ (lp_X8_fewest_14 hfr fu _ _ _ _ hk)
  · rw [if_pos c_1] at he
    replace hk := hk.1 c_1
    refine r_iconst_ (a := 0) rfl (by decide) ?_
    refine r_goto rfl ?_
    refine r_istore_n rfl (Nat.le_of_ble_eq_true rfl) rfl ?_
    refine r_iconst_ (a := 0) rfl (by decide) ?_
    refine r_istore rfl (Nat.le_of_ble_eq_true rfl) rfl ?_
    subst he
    exact r_weak (L1 := [some (.ref 51), some (.int v0), some (.int v1), some (.int (0 : Int32)), some (.int (0 : Int32))]) ⟨rfl, rfl, rfl, rfl, rfl, trivial⟩ (lp_X8_fewest_14 hfr fu _ _ _ _ hk)

def f_X11_closest_20 (fu : Nat) : Nat → Int32 → Int32 → Int32 → Int32 → Int32 → fl_I → fl_L → Int32
  | 0, _, _, _, _, _, _, _ => 0
  | n + 1, x1, x2, x3, x4, x5, s, l =>
    if ((s 31 2) ≤ x5) then x3 else if (x4 ≤ (f_X11_apart fu (s 34 x5.toNatClampNeg) (((10 : Int32) * x2) + x1))) then f_X11_closest_20 fu n x1 x2 x3 x4 (x5 + 1) s l else f_X11_closest_20 fu n x1 x2 x5 (f_X11_apart fu (s 34 x5.toNatClampNeg) (((10 : Int32) * x2) + x1)) (x5 + 1) s l

def p_X11_closest_20 (fu : Nat) : Nat → Int32 → Int32 → Int32 → Int32 → Int32 → fl_I → fl_L → Prop
  | 0, _, _, _, _, _, _, _ => False
  | n + 1, x1, x2, x3, x4, x5, s, l =>
    ((((s 31 2) ≤ x5) → True) ∧ (¬ ((s 31 2) ≤ x5) → (vp_in x5 4) ∧ (p_X11_apart fu (s 34 x5.toNatClampNeg) (((10 : Int32) * x2) + x1)) ∧ (((x4 ≤ (f_X11_apart fu (s 34 x5.toNatClampNeg) (((10 : Int32) * x2) + x1))) → p_X11_closest_20 fu n x1 x2 x3 x4 (x5 + 1) s l) ∧ (¬ (x4 ≤ (f_X11_apart fu (s 34 x5.toNatClampNeg) (((10 : Int32) * x2) + x1))) → p_X11_closest_20 fu n x1 x2 x5 (f_X11_apart fu (s 34 x5.toNatClampNeg) (((10 : Int32) * x2) + x1)) (x5 + 1) s l))))

set_option maxRecDepth 100000 in
set_option maxHeartbeats 1000000 in
theorem lp_X11_closest_20 {G : ab_G} {fu : Nat} {d : Nat} {D : fl_D} {s : fl_I} {l : fl_L} : ∀ (n : Nat) (x1 : Int32) (x2 : Int32) (x3 : Int32) (x4 : Int32) (x5 : Int32), p_X11_closest_20 fu n x1 x2 x3 x4 x5 s l → ab_C G (d + 1) 0 0 M_X11_closest 20 [some (.ref 0), some (.int x1), some (.int x2), some (.int x3), some (.int x4), some (.int x5), none] [] (hp D s l) (rt (some (.int (f_X11_closest_20 fu n x1 x2 x3 x4 x5 s l))) (hp D s l)) := by
  intro n
  induction n with
  | zero => intro x1 x2 x3 x4 x5 hk; exact hk.elim
  | succ n ih =>
    intro x1 x2 x3 x4 x5 hk
    generalize he : f_X11_closest_20 fu (n + 1) x1 x2 x3 x4 x5 s l = res
    unfold f_X11_closest_20 at he
    unfold p_X11_closest_20 at hk
    refine r_iload rfl rfl ?_
    refine r_aload_n rfl rfl ?_
    refine q_getfield rfl (cc_0 _) rfl ?_
    refine q_getfield rfl (cc_31 _) rfl ?_
    refine r_icmp_ge rfl (fun c_29 => ?_) (fun c_29 => ?_)
    · rw [if_pos c_29] at he
      replace hk := hk.1 c_29
      refine r_iload_n rfl rfl ?_
      refine r_iret rfl rfl rfl ?_
      first | with_reducible exact fin_ri he | exact fin_ri he
    · rw [if_neg c_29] at he
      replace hk := hk.2 c_29
      refine r_aload_n rfl rfl ?_
      refine q_getfield rfl (cc_0 _) rfl ?_
      refine q_getfield rfl (cc_31 _) rfl ?_
      refine r_iload rfl rfl ?_
      obtain ⟨hb1, hk⟩ := hk
      refine q_iald rfl (cc_34 _) hb1 ?_
      refine r_bipush_ (a := 10) rfl (by decide) ?_
      refine r_iload_n rfl rfl ?_
      refine r_imul rfl ?_
      refine r_iload_n rfl rfl ?_
      refine r_iadd rfl ?_
      obtain ⟨hb2, hk⟩ := hk
      refine r_callS0 [_, _] _ rfl kY_X11_apart kT_X11_apart rfl rfl (Nat.le_of_ble_eq_true rfl) (Nat.le_of_ble_eq_true rfl) (s_X11_apart hb2) (fun r h q => ?_)
      obtain ⟨rfl, rfl⟩ := q
      simp only [Option.toList, List.cons_append, List.nil_append]
      refine r_istore rfl (Nat.le_of_ble_eq_true rfl) rfl ?_
      refine r_iload rfl rfl ?_
      refine r_iload rfl rfl ?_
      refine r_icmp_ge rfl (fun c_57 => ?_) (fun c_57 => ?_)
      · rw [if_pos c_57] at he
        replace hk := hk.1 c_57
        refine r_iinc (b := x5 + 1) rfl rfl rfl (Nat.le_of_ble_eq_true rfl) rfl ?_
        refine r_goto rfl ?_
        subst he
        exact r_weak (L1 := [some (.ref 0), some (.int x1), some (.int x2), some (.int x3), some (.int x4), some (.int (x5 + 1)), none]) ⟨rfl, rfl, rfl, rfl, rfl, rfl, trivial⟩ (ih _ _ _ _ _ hk)
      · rw [if_neg c_57] at he
        replace hk := hk.2 c_57
        refine r_iload rfl rfl ?_
        refine r_istore rfl (Nat.le_of_ble_eq_true rfl) rfl ?_
        refine r_iload rfl rfl ?_
        refine r_istore_n rfl (Nat.le_of_ble_eq_true rfl) rfl ?_
        refine r_iinc (b := x5 + 1) rfl rfl rfl (Nat.le_of_ble_eq_true rfl) rfl ?_
        refine r_goto rfl ?_
        subst he
        exact r_weak (L1 := [some (.ref 0), some (.int x1), some (.int x2), some (.int x5), some (.int (f_X11_apart fu (s 34 x5.toNatClampNeg) (((10 : Int32) * x2) + x1))), some (.int (x5 + 1)), none]) ⟨rfl, rfl, rfl, rfl, rfl, rfl, trivial⟩ (ih _ _ _ _ _ hk)

def f_X11_closest (fu : Nat) (v0 : Int32) (v1 : Int32) (s : fl_I) (l : fl_L) : Int32 :=
  if ((f_X11_isCell fu v0 v1) = 0) then (-1 : Int32) else f_X11_closest_20 fu fu v0 v1 (-2 : Int32) (80 : Int32) (0 : Int32) s l

def p_X11_closest (fu : Nat) (v0 : Int32) (v1 : Int32) (s : fl_I) (l : fl_L) : Prop :=
  (p_X11_isCell fu v0 v1) ∧ ((((f_X11_isCell fu v0 v1) = 0) → True) ∧ (¬ ((f_X11_isCell fu v0 v1) = 0) → p_X11_closest_20 fu fu v0 v1 (-2 : Int32) (80 : Int32) (0 : Int32) s l))

set_option maxRecDepth 100000 in
set_option maxHeartbeats 1000000 in
theorem s_X11_closest {G : ab_G} {fu : Nat} {d : Nat} {D : fl_D} {s : fl_I} {l : fl_L} {v0 : Int32} {v1 : Int32} (hk : p_X11_closest fu v0 v1 s l) : ab_C G (d + 1) 0 0 M_X11_closest 0 (ab_ent [.ref 0, .int v0, .int v1]) [] (hp D s l) (rt (some (.int (f_X11_closest fu v0 v1 s l))) (hp D s l)) := by
  generalize he : (f_X11_closest fu v0 v1 s l) = res
  unfold f_X11_closest at he
  unfold p_X11_closest at hk
  refine r_weak (L1 := [some (.ref 0), some (.int v0), some (.int v1), none, none, none, none]) ⟨rfl, rfl, rfl, trivial⟩ ?_
  refine r_iload_n rfl rfl ?_
  refine r_iload_n rfl rfl ?_
  obtain ⟨hb0, hk⟩ := hk
  refine r_callS0 [_, _] _ rfl kY_X11_isCell kT_X11_isCell rfl rfl (Nat.le_of_ble_eq_true rfl) (Nat.le_of_ble_eq_true rfl) (s_X11_isCell hb0) (fun r h q => ?_)
  obtain ⟨rfl, rfl⟩ := q
  simp only [Option.toList, List.cons_append, List.nil_append]
  refine r_if_ne rfl (fun c_5 => ?_) (fun c_5 => ?_)
  · rw [if_neg c_5] at he
    replace hk := hk.2 c_5
    refine r_bipush_ (a := -2) rfl (by decide) ?_
    refine r_istore_n rfl (Nat.le_of_ble_eq_true rfl) rfl ?_
    refine r_bipush_ (a := 80) rfl (by decide) ?_
    refine r_istore rfl (Nat.le_of_ble_eq_true rfl) rfl ?_
    refine r_iconst_ (a := 0) rfl (by decide) ?_
    refine r_istore rfl (Nat.le_of_ble_eq_true rfl) rfl ?_
    subst he
    exact r_weak (L1 := [some (.ref 0), some (.int v0), some (.int v1), some (.int (-2 : Int32)), some (.int (80 : Int32)), some (.int (0 : Int32)), none]) ⟨rfl, rfl, rfl, rfl, rfl, rfl, trivial⟩ (lp_X11_closest_20 fu _ _ _ _ _ hk)
  · rw [if_pos c_5] at he
    replace hk := hk.1 c_5
    refine r_iconst_ (a := -1) rfl (by decide) ?_
    refine r_iret rfl rfl rfl ?_
    first | with_reducible exact fin_ri he | exact fin_ri he

def f_X12_richest_23 (fu : Nat) : Nat → Int32 → Int32 → Int32 → Int32 → fl_I → fl_L → Int32 × fl_I × fl_L
  | 0, x1, x2, x3, x4, s, l => (0, s, l)
  | n + 1, x1, x2, x3, x4, s, l =>
    if ((80 : Int32) ≤ x4) then if (x2 < 0) then (x2, s, l) else if (x1 = 0) then (x2, s, l) else (x3, s, l) else if (x3 < (f_X12_lieAt fu x4 s l)) then f_X12_richest_23 fu n x1 x4 (f_X12_lieAt fu x4 s l) (x4 + 1) s l else f_X12_richest_23 fu n x1 x2 x3 (x4 + 1) s l

def p_X12_richest_23 (fu : Nat) : Nat → Int32 → Int32 → Int32 → Int32 → fl_I → fl_L → Prop
  | 0, _, _, _, _, _, _ => False
  | n + 1, x1, x2, x3, x4, s, l =>
    ((((80 : Int32) ≤ x4) → (((x2 < 0) → True) ∧ (¬ (x2 < 0) → (((x1 = 0) → True) ∧ (¬ (x1 = 0) → True))))) ∧ (¬ ((80 : Int32) ≤ x4) → (p_X12_lieAt fu x4 s l) ∧ (((x3 < (f_X12_lieAt fu x4 s l)) → (p_X12_lieAt fu x4 s l) ∧ p_X12_richest_23 fu n x1 x4 (f_X12_lieAt fu x4 s l) (x4 + 1) s l) ∧ (¬ (x3 < (f_X12_lieAt fu x4 s l)) → p_X12_richest_23 fu n x1 x2 x3 (x4 + 1) s l))))

set_option maxRecDepth 100000 in
set_option maxHeartbeats 1000000 in
theorem lp_X12_richest_23 {G : ab_G} {fu : Nat} {d : Nat} {D : fl_D} : ∀ (n : Nat) (x1 : Int32) (x2 : Int32) (x3 : Int32) (x4 : Int32) (s : fl_I) (l : fl_L), p_X12_richest_23 fu n x1 x2 x3 x4 s l → ab_C G (d + 2) 0 0 M_X12_richest 23 [some (.ref 60), some (.int x1), some (.int x2), some (.int x3), some (.int x4)] [] (hp D s l) (rt (some (.int (f_X12_richest_23 fu n x1 x2 x3 x4 s l).1)) (hp D (f_X12_richest_23 fu n x1 x2 x3 x4 s l).2.1 (f_X12_richest_23 fu n x1 x2 x3 x4 s l).2.2)) := by
  intro n
  induction n with
  | zero => intro x1 x2 x3 x4 s l hk; exact hk.elim
  | succ n ih =>
    intro x1 x2 x3 x4 s l hk
    generalize he : f_X12_richest_23 fu (n + 1) x1 x2 x3 x4 s l = res
    unfold f_X12_richest_23 at he
    unfold p_X12_richest_23 at hk
    refine r_iload rfl rfl ?_
    refine r_bipush_ (a := 80) rfl (by decide) ?_
    refine r_icmp_ge rfl (fun c_27 => ?_) (fun c_27 => ?_)
    · rw [if_pos c_27] at he
      replace hk := hk.1 c_27
      refine r_iload_n rfl rfl ?_
      refine r_if_lt rfl (fun c_60 => ?_) (fun c_60 => ?_)
      · rw [if_pos c_60] at he
        replace hk := hk.1 c_60
        refine r_iload_n rfl rfl ?_
        refine r_goto rfl ?_
        refine r_iret rfl rfl rfl ?_
        first | with_reducible exact fin_i he | exact fin_i he
      · rw [if_neg c_60] at he
        replace hk := hk.2 c_60
        refine r_iload_n rfl rfl ?_
        refine r_if_ne rfl (fun c_64 => ?_) (fun c_64 => ?_)
        · rw [if_neg c_64] at he
          replace hk := hk.2 c_64
          refine r_iload_n rfl rfl ?_
          refine r_iret rfl rfl rfl ?_
          first | with_reducible exact fin_i he | exact fin_i he
        · rw [if_pos c_64] at he
          replace hk := hk.1 c_64
          refine r_iload_n rfl rfl ?_
          refine r_goto rfl ?_
          refine r_iret rfl rfl rfl ?_
          first | with_reducible exact fin_i he | exact fin_i he
    · rw [if_neg c_27] at he
      replace hk := hk.2 c_27
      refine r_aload_n rfl rfl ?_
      refine r_iload rfl rfl ?_
      obtain ⟨hb2, hk⟩ := hk
      refine q_callV0 [_] _ rfl kY_X12_lieAt kT_X12_lieAt rfl rfl (Nat.le_of_ble_eq_true rfl) (Nat.le_of_ble_eq_true rfl) (cc_60 _) (s_X12_lieAt hb2) (fun r h q => ?_)
      obtain ⟨rfl, rfl⟩ := q
      simp only [Option.toList, List.cons_append, List.nil_append]
      refine r_iload_n rfl rfl ?_
      refine r_icmp_gt rfl (fun c_37 => ?_) (fun c_37 => ?_)
      · rw [if_pos c_37] at he
        replace hk := hk.1 c_37
        refine r_iload rfl rfl ?_
        refine r_istore_n rfl (Nat.le_of_ble_eq_true rfl) rfl ?_
        refine r_aload_n rfl rfl ?_
        refine r_iload rfl rfl ?_
        obtain ⟨hb3, hk⟩ := hk
        refine q_callV0 [_] _ rfl kY_X12_lieAt kT_X12_lieAt rfl rfl (Nat.le_of_ble_eq_true rfl) (Nat.le_of_ble_eq_true rfl) (cc_60 _) (s_X12_lieAt hb3) (fun r h q => ?_)
        obtain ⟨rfl, rfl⟩ := q
        simp only [Option.toList, List.cons_append, List.nil_append]
        refine r_istore_n rfl (Nat.le_of_ble_eq_true rfl) rfl ?_
        refine r_iinc (b := x4 + 1) rfl rfl rfl (Nat.le_of_ble_eq_true rfl) rfl ?_
        refine r_goto rfl ?_
        subst he
        exact r_weak (L1 := [some (.ref 60), some (.int x1), some (.int x4), some (.int (f_X12_lieAt fu x4 s l)), some (.int (x4 + 1))]) ⟨rfl, rfl, rfl, rfl, rfl, trivial⟩ (ih _ _ _ _ _ _ hk)
      · rw [if_neg c_37] at he
        replace hk := hk.2 c_37
        refine r_goto rfl ?_
        refine r_iinc (b := x4 + 1) rfl rfl rfl (Nat.le_of_ble_eq_true rfl) rfl ?_
        refine r_goto rfl ?_
        subst he
        exact r_weak (L1 := [some (.ref 60), some (.int x1), some (.int x2), some (.int x3), some (.int (x4 + 1))]) ⟨rfl, rfl, rfl, rfl, rfl, trivial⟩ (ih _ _ _ _ _ _ hk)

def f_X12_richest (fu : Nat) (v0 : Int32) (s : fl_I) (l : fl_L) : Int32 × fl_I × fl_L :=
  if ((f_X12_in fu v0 (0 : Int32) (1 : Int32)) = 0) then ((-1 : Int32), s, l) else f_X12_richest_23 fu fu v0 (-2 : Int32) (0 : Int32) (0 : Int32) (f_X12_copies fu s l).1 (f_X12_copies fu s l).2

def p_X12_richest (fu : Nat) (v0 : Int32) (s : fl_I) (l : fl_L) : Prop :=
  (p_X12_in fu v0 (0 : Int32) (1 : Int32)) ∧ ((((f_X12_in fu v0 (0 : Int32) (1 : Int32)) = 0) → True) ∧ (¬ ((f_X12_in fu v0 (0 : Int32) (1 : Int32)) = 0) → (p_X12_copies fu s l) ∧ p_X12_richest_23 fu fu v0 (-2 : Int32) (0 : Int32) (0 : Int32) (f_X12_copies fu s l).1 (f_X12_copies fu s l).2))

set_option maxRecDepth 100000 in
set_option maxHeartbeats 1000000 in
theorem s_X12_richest {G : ab_G} {fu : Nat} {d : Nat} {D : fl_D} {s : fl_I} {l : fl_L} {v0 : Int32} (hk : p_X12_richest fu v0 s l) : ab_C G (d + 2) 0 0 M_X12_richest 0 (ab_ent [.ref 60, .int v0]) [] (hp D s l) (rt (some (.int (f_X12_richest fu v0 s l).1)) (hp D (f_X12_richest fu v0 s l).2.1 (f_X12_richest fu v0 s l).2.2)) := by
  generalize he : (f_X12_richest fu v0 s l) = res
  unfold f_X12_richest at he
  unfold p_X12_richest at hk
  refine r_weak (L1 := [some (.ref 60), some (.int v0), none, none, none]) ⟨rfl, rfl, trivial⟩ ?_
  refine r_iload_n rfl rfl ?_
  refine r_iconst_ (a := 0) rfl (by decide) ?_
  refine r_iconst_ (a := 1) rfl (by decide) ?_
  obtain ⟨hb0, hk⟩ := hk
  refine r_callS0 [_, _, _] _ rfl kY_X12_in kT_X12_in rfl rfl (Nat.le_of_ble_eq_true rfl) (Nat.le_of_ble_eq_true rfl) (s_X12_in hb0) (fun r h q => ?_)
  obtain ⟨rfl, rfl⟩ := q
  simp only [Option.toList, List.cons_append, List.nil_append]
  refine r_if_ne rfl (fun c_6 => ?_) (fun c_6 => ?_)
  · rw [if_neg c_6] at he
    replace hk := hk.2 c_6
    refine r_aload_n rfl rfl ?_
    obtain ⟨hb1, hk⟩ := hk
    refine q_callV0 [] _ rfl kY_X12_copies kT_X12_copies rfl rfl (Nat.le_of_ble_eq_true rfl) (Nat.le_of_ble_eq_true rfl) (cc_60 _) (s_X12_copies hb1) (fun r h q => ?_)
    obtain ⟨rfl, rfl⟩ := q
    simp only [Option.toList, List.cons_append, List.nil_append]
    refine r_bipush_ (a := -2) rfl (by decide) ?_
    refine r_istore_n rfl (Nat.le_of_ble_eq_true rfl) rfl ?_
    refine r_iconst_ (a := 0) rfl (by decide) ?_
    refine r_istore_n rfl (Nat.le_of_ble_eq_true rfl) rfl ?_
    refine r_iconst_ (a := 0) rfl (by decide) ?_
    refine r_istore rfl (Nat.le_of_ble_eq_true rfl) rfl ?_
    subst he
    exact r_weak (L1 := [some (.ref 60), some (.int v0), some (.int (-2 : Int32)), some (.int (0 : Int32)), some (.int (0 : Int32))]) ⟨rfl, rfl, rfl, rfl, rfl, trivial⟩ (lp_X12_richest_23 fu _ _ _ _ _ _ hk)
  · rw [if_pos c_6] at he
    replace hk := hk.1 c_6
    refine r_iconst_ (a := -1) rfl (by decide) ?_
    refine r_iret rfl rfl rfl ?_
    first | with_reducible exact fin_i he | exact fin_i he

def f_X9_pickUp_20 (fu : Nat) (K2 : Int32 → fl_I → fl_L → fl_I × fl_L) : Nat → Int32 → Int32 → Int32 → Nat → Nat → fl_I → fl_L → fl_I × fl_L
  | 0, x2, x3, x4, t, a, s, l => (s, l)
  | n + 1, x2, x3, x4, t, a, s, l =>
    if ((s a 1) ≤ x4) then K2 (x2 + 1) s l else if ((s (t + 8) x2.toNatClampNeg) ≤ (s (a + 5) x2.toNatClampNeg)) then K2 (x2 + 1) s l else if ((s (a + 1) x4.toNatClampNeg) = x3) then f_X9_pickUp_20 fu K2 n x2 x3 (x4 + 1) t a (f_X10_putInHat fu x4 x2 a s l).1 (f_X10_putInHat fu x4 x2 a s l).2 else f_X9_pickUp_20 fu K2 n x2 x3 (x4 + 1) t a s l

def p_X9_pickUp_20 (fu : Nat) (P2 : Int32 → fl_I → fl_L → Prop) : Nat → Int32 → Int32 → Int32 → Nat → Nat → fl_I → fl_L → Prop
  | 0, _, _, _, _, _, _, _ => False
  | n + 1, x2, x3, x4, t, a, s, l =>
    ((((s a 1) ≤ x4) → P2 (x2 + 1) s l) ∧ (¬ ((s a 1) ≤ x4) → (vp_in x2 4) ∧ (vp_in x2 4) ∧ ((((s (t + 8) x2.toNatClampNeg) ≤ (s (a + 5) x2.toNatClampNeg)) → P2 (x2 + 1) s l) ∧ (¬ ((s (t + 8) x2.toNatClampNeg) ≤ (s (a + 5) x2.toNatClampNeg)) → (vp_in x4 32) ∧ ((((s (a + 1) x4.toNatClampNeg) = x3) → (p_X10_putInHat fu x4 x2 a s l) ∧ p_X9_pickUp_20 fu P2 n x2 x3 (x4 + 1) t a (f_X10_putInHat fu x4 x2 a s l).1 (f_X10_putInHat fu x4 x2 a s l).2) ∧ (¬ ((s (a + 1) x4.toNatClampNeg) = x3) → p_X9_pickUp_20 fu P2 n x2 x3 (x4 + 1) t a s l))))))

set_option maxRecDepth 100000 in
set_option maxHeartbeats 1000000 in
theorem lp_X9_pickUp_20 {G : ab_G} {fu : Nat} {d : Nat} {D : fl_D} {t : Nat} (htt : isT t) {a : Nat} (hya : isY D a) (K2 : Int32 → fl_I → fl_L → fl_I × fl_L) (P2 : Int32 → fl_I → fl_L → Prop) (hK2 : ∀ (x2 : Int32) (s : fl_I) (l : fl_L), P2 x2 s l → ab_C G (d + 1) 0 0 M_X9_pickUp 2 [some (.ref t), some (.ref a), some (.int x2), none, none] [] (hp D s l) (rt none (hp D (K2 x2 s l).1 (K2 x2 s l).2))) : ∀ (n : Nat) (x2 : Int32) (x3 : Int32) (x4 : Int32) (s : fl_I) (l : fl_L), p_X9_pickUp_20 fu P2 n x2 x3 x4 t a s l → ab_C G (d + 1) 0 0 M_X9_pickUp 20 [some (.ref t), some (.ref a), some (.int x2), some (.int x3), some (.int x4)] [] (hp D s l) (rt none (hp D (f_X9_pickUp_20 fu K2 n x2 x3 x4 t a s l).1 (f_X9_pickUp_20 fu K2 n x2 x3 x4 t a s l).2)) := by
  intro n
  induction n with
  | zero => intro x2 x3 x4 s l hk; exact hk.elim
  | succ n ih =>
    intro x2 x3 x4 s l hk
    generalize he : f_X9_pickUp_20 fu K2 (n + 1) x2 x3 x4 t a s l = res
    unfold f_X9_pickUp_20 at he
    unfold p_X9_pickUp_20 at hk
    refine r_iload rfl rfl ?_
    refine r_aload_n rfl rfl ?_
    refine q_getfield rfl (cY_0 hya) rfl ?_
    refine r_icmp_ge rfl (fun c_26 => ?_) (fun c_26 => ?_)
    · rw [if_pos c_26] at he
      replace hk := hk.1 c_26
      refine r_iinc (b := x2 + 1) rfl rfl rfl (Nat.le_of_ble_eq_true rfl) rfl ?_
      refine r_goto rfl ?_
      subst he
      exact r_weak (L1 := [some (.ref t), some (.ref a), some (.int (x2 + 1)), none, none]) ⟨rfl, rfl, rfl, trivial⟩ (hK2 _ _ _ hk)
    · rw [if_neg c_26] at he
      replace hk := hk.2 c_26
      refine r_aload_n rfl rfl ?_
      refine q_getfield rfl (cY_0 hya) rfl ?_
      refine r_iload_n rfl rfl ?_
      obtain ⟨hb1, hk⟩ := hk
      refine q_iald rfl (cY_5 hya) hb1 ?_
      refine r_aload_n rfl rfl ?_
      refine q_getfield rfl (cT_0 htt) rfl ?_
      refine r_iload_n rfl rfl ?_
      obtain ⟨hb2, hk⟩ := hk
      refine q_iald rfl (cT_8 htt) hb2 ?_
      refine r_icmp_ge rfl (fun c_41 => ?_) (fun c_41 => ?_)
      · rw [if_pos c_41] at he
        replace hk := hk.1 c_41
        refine r_iinc (b := x2 + 1) rfl rfl rfl (Nat.le_of_ble_eq_true rfl) rfl ?_
        refine r_goto rfl ?_
        subst he
        exact r_weak (L1 := [some (.ref t), some (.ref a), some (.int (x2 + 1)), none, none]) ⟨rfl, rfl, rfl, trivial⟩ (hK2 _ _ _ hk)
      · rw [if_neg c_41] at he
        replace hk := hk.2 c_41
        refine r_aload_n rfl rfl ?_
        refine q_getfield rfl (cY_0 hya) rfl ?_
        refine r_iload rfl rfl ?_
        obtain ⟨hb3, hk⟩ := hk
        refine q_iald rfl (cY_1 hya) hb3 ?_
        refine r_iload_n rfl rfl ?_
        refine r_icmp_ne rfl (fun c_52 => ?_) (fun c_52 => ?_)
        · rw [if_neg c_52] at he
          replace hk := hk.2 c_52
          refine r_iinc (b := x4 + 1) rfl rfl rfl (Nat.le_of_ble_eq_true rfl) rfl ?_
          refine r_goto rfl ?_
          subst he
          exact r_weak (L1 := [some (.ref t), some (.ref a), some (.int x2), some (.int x3), some (.int (x4 + 1))]) ⟨rfl, rfl, rfl, rfl, rfl, trivial⟩ (ih _ _ _ _ _ hk)
        · rw [if_pos c_52] at he
          replace hk := hk.1 c_52
          refine r_aload_n rfl rfl ?_
          refine r_iload rfl rfl ?_
          refine r_iload_n rfl rfl ?_
          obtain ⟨hb4, hk⟩ := hk
          refine q_callV0 [_, _] _ rfl kY_X10_putInHat kT_X10_putInHat rfl rfl (Nat.le_of_ble_eq_true rfl) (Nat.le_of_ble_eq_true rfl) (cY_0 hya) (s_X10_putInHat hya hb4) (fun r h q => ?_)
          obtain ⟨rfl, rfl⟩ := q
          simp only [Option.toList, List.cons_append, List.nil_append]
          refine r_iinc (b := x4 + 1) rfl rfl rfl (Nat.le_of_ble_eq_true rfl) rfl ?_
          refine r_goto rfl ?_
          subst he
          exact r_weak (L1 := [some (.ref t), some (.ref a), some (.int x2), some (.int x3), some (.int (x4 + 1))]) ⟨rfl, rfl, rfl, rfl, rfl, trivial⟩ (ih _ _ _ _ _ hk)

def f_X9_pickUp_2 (fu : Nat) : Nat → Int32 → Nat → Nat → fl_I → fl_L → fl_I × fl_L
  | 0, x2, t, a, s, l => (s, l)
  | n + 1, x2, t, a, s, l =>
    if ((s a 2) ≤ x2) then (s, l) else f_X9_pickUp_20 fu (fun x2 s l => f_X9_pickUp_2 fu n x2 t a s l) fu x2 (s (a + 3) x2.toNatClampNeg) (0 : Int32) t a s l

def p_X9_pickUp_2 (fu : Nat) : Nat → Int32 → Nat → Nat → fl_I → fl_L → Prop
  | 0, _, _, _, _, _ => False
  | n + 1, x2, t, a, s, l =>
    ((((s a 2) ≤ x2) → True) ∧ (¬ ((s a 2) ≤ x2) → (vp_in x2 4) ∧ p_X9_pickUp_20 fu (fun x2 s l => p_X9_pickUp_2 fu n x2 t a s l) fu x2 (s (a + 3) x2.toNatClampNeg) (0 : Int32) t a s l))

set_option maxRecDepth 100000 in
set_option maxHeartbeats 1000000 in
theorem lp_X9_pickUp_2 {G : ab_G} {fu : Nat} {d : Nat} {D : fl_D} {t : Nat} (htt : isT t) {a : Nat} (hya : isY D a) : ∀ (n : Nat) (x2 : Int32) (s : fl_I) (l : fl_L), p_X9_pickUp_2 fu n x2 t a s l → ab_C G (d + 1) 0 0 M_X9_pickUp 2 [some (.ref t), some (.ref a), some (.int x2), none, none] [] (hp D s l) (rt none (hp D (f_X9_pickUp_2 fu n x2 t a s l).1 (f_X9_pickUp_2 fu n x2 t a s l).2)) := by
  intro n
  induction n with
  | zero => intro x2 s l hk; exact hk.elim
  | succ n ih =>
    intro x2 s l hk
    generalize he : f_X9_pickUp_2 fu (n + 1) x2 t a s l = res
    unfold f_X9_pickUp_2 at he
    unfold p_X9_pickUp_2 at hk
    refine r_iload_n rfl rfl ?_
    refine r_aload_n rfl rfl ?_
    refine q_getfield rfl (cY_0 hya) rfl ?_
    refine r_icmp_ge rfl (fun c_7 => ?_) (fun c_7 => ?_)
    · rw [if_pos c_7] at he
      replace hk := hk.1 c_7
      refine r_ret rfl rfl ?_
      first | with_reducible exact fin_v he | exact fin_v he
    · rw [if_neg c_7] at he
      replace hk := hk.2 c_7
      refine r_aload_n rfl rfl ?_
      refine q_getfield rfl (cY_0 hya) rfl ?_
      refine r_iload_n rfl rfl ?_
      obtain ⟨hb0, hk⟩ := hk
      refine q_iald rfl (cY_3 hya) hb0 ?_
      refine r_istore_n rfl (Nat.le_of_ble_eq_true rfl) rfl ?_
      refine r_iconst_ (a := 0) rfl (by decide) ?_
      refine r_istore rfl (Nat.le_of_ble_eq_true rfl) rfl ?_
      subst he
      exact r_weak (L1 := [some (.ref t), some (.ref a), some (.int x2), some (.int (s (a + 3) x2.toNatClampNeg)), some (.int (0 : Int32))]) ⟨rfl, rfl, rfl, rfl, rfl, trivial⟩ (lp_X9_pickUp_20 htt hya _ _ (fun _ _ _ h9 => ih _ _ _ h9) fu _ _ _ _ _ hk)

def f_X9_pickUp (fu : Nat) (t : Nat) (a : Nat) (s : fl_I) (l : fl_L) : fl_I × fl_L :=
  f_X9_pickUp_2 fu fu (0 : Int32) t a s l

def p_X9_pickUp (fu : Nat) (t : Nat) (a : Nat) (s : fl_I) (l : fl_L) : Prop :=
  p_X9_pickUp_2 fu fu (0 : Int32) t a s l

set_option maxRecDepth 100000 in
set_option maxHeartbeats 1000000 in
theorem s_X9_pickUp {G : ab_G} {fu : Nat} {d : Nat} {D : fl_D} {s : fl_I} {l : fl_L} {t : Nat} (htt : isT t) {a : Nat} (hya : isY D a)  (hk : p_X9_pickUp fu t a s l) : ab_C G (d + 1) 0 0 M_X9_pickUp 0 (ab_ent [.ref t, .ref a]) [] (hp D s l) (rt none (hp D (f_X9_pickUp fu t a s l).1 (f_X9_pickUp fu t a s l).2)) := by
  generalize he : (f_X9_pickUp fu t a s l) = res
  unfold f_X9_pickUp at he
  unfold p_X9_pickUp at hk
  refine r_weak (L1 := [some (.ref t), some (.ref a), none, none, none]) ⟨rfl, rfl, trivial⟩ ?_
  refine r_iconst_ (a := 0) rfl (by decide) ?_
  refine r_istore_n rfl (Nat.le_of_ble_eq_true rfl) rfl ?_
  subst he
  exact r_weak (L1 := [some (.ref t), some (.ref a), some (.int (0 : Int32)), none, none]) ⟨rfl, rfl, rfl, trivial⟩ (lp_X9_pickUp_2 htt hya fu _ _ _ hk)

