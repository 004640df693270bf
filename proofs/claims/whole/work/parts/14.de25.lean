def f_X12_ask_46 (fu : Nat) (K29 : Int32 → Int32 → Int32 → Int32 → Int32) : Nat → Int32 → Int32 → Int32 → Int32 → Int32 → Int32 → fl_I → fl_L → Int32
  | 0, _, _, _, _, _, _, _, _ => 0
  | n + 1, x2, x3, x4, x5, x6, x7, s, l =>
    if ((s 72 (s 60 18).toNatClampNeg) ≤ x7) then if (x6 ≤ ((f_X12_bits fu x2) - x6)) then if (x3 < 0) then K29 x2 x5 ((f_X12_bits fu x2) - x6) (x5 + 1) else if (((f_X12_bits fu x2) - x6) < x4) then K29 x2 x5 ((f_X12_bits fu x2) - x6) (x5 + 1) else K29 x2 x3 x4 (x5 + 1) else if (x3 < 0) then K29 x2 x5 x6 (x5 + 1) else if (x6 < x4) then K29 x2 x5 x6 (x5 + 1) else K29 x2 x3 x4 (x5 + 1) else if (((x2 >>> (x7 &&& 31)) &&& (1 : Int32)) = (1 : Int32)) then if ((f_X12_isThere fu x7 x5 s l) = 0) then f_X12_ask_46 fu K29 n x2 x3 x4 x5 x6 (x7 + 1) s l else f_X12_ask_46 fu K29 n x2 x3 x4 x5 (x6 + 1) (x7 + 1) s l else f_X12_ask_46 fu K29 n x2 x3 x4 x5 x6 (x7 + 1) s l

def p_X12_ask_46 (fu : Nat) (P29 : Int32 → Int32 → Int32 → Int32 → Prop) : Nat → Int32 → Int32 → Int32 → Int32 → Int32 → Int32 → fl_I → fl_L → Prop
  | 0, _, _, _, _, _, _, _, _ => False
  | n + 1, x2, x3, x4, x5, x6, x7, s, l =>
    (vp_in (s 60 18) 2) ∧ ((((s 72 (s 60 18).toNatClampNeg) ≤ x7) → (p_X12_bits fu x2) ∧ (((x6 ≤ ((f_X12_bits fu x2) - x6)) → (p_X12_bits fu x2) ∧ (((x3 < 0) → P29 x2 x5 ((f_X12_bits fu x2) - x6) (x5 + 1)) ∧ (¬ (x3 < 0) → (((((f_X12_bits fu x2) - x6) < x4) → P29 x2 x5 ((f_X12_bits fu x2) - x6) (x5 + 1)) ∧ (¬ (((f_X12_bits fu x2) - x6) < x4) → P29 x2 x3 x4 (x5 + 1)))))) ∧ (¬ (x6 ≤ ((f_X12_bits fu x2) - x6)) → (((x3 < 0) → P29 x2 x5 x6 (x5 + 1)) ∧ (¬ (x3 < 0) → (((x6 < x4) → P29 x2 x5 x6 (x5 + 1)) ∧ (¬ (x6 < x4) → P29 x2 x3 x4 (x5 + 1)))))))) ∧ (¬ ((s 72 (s 60 18).toNatClampNeg) ≤ x7) → (((((x2 >>> (x7 &&& 31)) &&& (1 : Int32)) = (1 : Int32)) → (p_X12_isThere fu x7 x5 s l) ∧ ((((f_X12_isThere fu x7 x5 s l) = 0) → p_X12_ask_46 fu P29 n x2 x3 x4 x5 x6 (x7 + 1) s l) ∧ (¬ ((f_X12_isThere fu x7 x5 s l) = 0) → p_X12_ask_46 fu P29 n x2 x3 x4 x5 (x6 + 1) (x7 + 1) s l))) ∧ (¬ (((x2 >>> (x7 &&& 31)) &&& (1 : Int32)) = (1 : Int32)) → p_X12_ask_46 fu P29 n x2 x3 x4 x5 x6 (x7 + 1) s l))))

set_option maxRecDepth 100000 in
set_option maxHeartbeats 1000000 in
theorem lp_X12_ask_46 {G : ab_G} {fu : Nat} {d : Nat} {D : fl_D} {s : fl_I} {l : fl_L} (K29 : Int32 → Int32 → Int32 → Int32 → Int32) (P29 : Int32 → Int32 → Int32 → Int32 → Prop) (hK29 : ∀ (x2 : Int32) (x3 : Int32) (x4 : Int32) (x5 : Int32), P29 x2 x3 x4 x5 → ab_C G (d + 3) 0 0 M_X12_ask 29 [some (.ref 60), none, some (.int x2), some (.int x3), some (.int x4), some (.int x5), none, none] [] (hp D s l) (rt (some (.int (K29 x2 x3 x4 x5))) (hp D s l))) : ∀ (n : Nat) (x2 : Int32) (x3 : Int32) (x4 : Int32) (x5 : Int32) (x6 : Int32) (x7 : Int32), p_X12_ask_46 fu P29 n x2 x3 x4 x5 x6 x7 s l → ab_C G (d + 3) 0 0 M_X12_ask 46 [some (.ref 60), none, some (.int x2), some (.int x3), some (.int x4), some (.int x5), some (.int x6), some (.int x7)] [] (hp D s l) (rt (some (.int (f_X12_ask_46 fu K29 n x2 x3 x4 x5 x6 x7 s l))) (hp D s l)) := by
  intro n
  induction n with
  | zero => intro x2 x3 x4 x5 x6 x7 hk; exact hk.elim
  | succ n ih =>
    intro x2 x3 x4 x5 x6 x7 hk
    generalize he : f_X12_ask_46 fu K29 (n + 1) x2 x3 x4 x5 x6 x7 s l = res
    unfold f_X12_ask_46 at he
    unfold p_X12_ask_46 at hk
    refine r_iload rfl rfl ?_
    refine r_aload_n rfl rfl ?_
    refine q_getfield rfl (cc_60 _) rfl ?_
    refine r_aload_n rfl rfl ?_
    refine q_getfield rfl (cc_60 _) rfl ?_
    obtain ⟨hb2, hk⟩ := hk
    refine q_iald rfl (cc_72 _) hb2 ?_
    refine r_icmp_ge rfl (fun c_57 => ?_) (fun c_57 => ?_)
    · rw [if_pos c_57] at he
      replace hk := hk.1 c_57
      refine r_iload rfl rfl ?_
      refine r_iload_n rfl rfl ?_
      obtain ⟨hb3, hk⟩ := hk
      refine r_callS0 [_] _ rfl kY_X12_bits kT_X12_bits rfl rfl (Nat.le_of_ble_eq_true rfl) (Nat.le_of_ble_eq_true rfl) (s_X12_bits hb3) (fun r h q => ?_)
      obtain ⟨rfl, rfl⟩ := q
      simp only [Option.toList, List.cons_append, List.nil_append]
      refine r_iload rfl rfl ?_
      refine r_isub rfl ?_
      refine r_icmp_le rfl (fun c_99 => ?_) (fun c_99 => ?_)
      · rw [if_pos c_99] at he
        replace hk := hk.1 c_99
        refine r_iload_n rfl rfl ?_
        obtain ⟨hb4, hk⟩ := hk
        refine r_callS0 [_] _ rfl kY_X12_bits kT_X12_bits rfl rfl (Nat.le_of_ble_eq_true rfl) (Nat.le_of_ble_eq_true rfl) (s_X12_bits hb4) (fun r h q => ?_)
        obtain ⟨rfl, rfl⟩ := q
        simp only [Option.toList, List.cons_append, List.nil_append]
        refine r_iload rfl rfl ?_
        refine r_isub rfl ?_
        refine r_istore rfl (Nat.le_of_ble_eq_true rfl) rfl ?_
        refine r_iload_n rfl rfl ?_
        refine r_if_lt rfl (fun c_117 => ?_) (fun c_117 => ?_)
        · rw [if_pos c_117] at he
          replace hk := hk.1 c_117
          refine r_iload rfl rfl ?_
          refine r_istore_n rfl (Nat.le_of_ble_eq_true rfl) rfl ?_
          refine r_iload rfl rfl ?_
          refine r_istore rfl (Nat.le_of_ble_eq_true rfl) rfl ?_
          refine r_iinc (b := x5 + 1) rfl rfl rfl (Nat.le_of_ble_eq_true rfl) rfl ?_
          refine r_goto rfl ?_
          subst he
          exact r_weak (L1 := [some (.ref 60), none, some (.int x2), some (.int x5), some (.int ((f_X12_bits fu x2) - x6)), some (.int (x5 + 1)), none, none]) ⟨rfl, rfl, rfl, rfl, rfl, trivial⟩ (hK29 _ _ _ _ hk)
        · rw [if_neg c_117] at he
          replace hk := hk.2 c_117
          refine r_iload rfl rfl ?_
          refine r_iload rfl rfl ?_
          refine r_icmp_lt rfl (fun c_124 => ?_) (fun c_124 => ?_)
          · rw [if_pos c_124] at he
            replace hk := hk.1 c_124
            refine r_iload rfl rfl ?_
            refine r_istore_n rfl (Nat.le_of_ble_eq_true rfl) rfl ?_
            refine r_iload rfl rfl ?_
            refine r_istore rfl (Nat.le_of_ble_eq_true rfl) rfl ?_
            refine r_iinc (b := x5 + 1) rfl rfl rfl (Nat.le_of_ble_eq_true rfl) rfl ?_
            refine r_goto rfl ?_
            subst he
            exact r_weak (L1 := [some (.ref 60), none, some (.int x2), some (.int x5), some (.int ((f_X12_bits fu x2) - x6)), some (.int (x5 + 1)), none, none]) ⟨rfl, rfl, rfl, rfl, rfl, trivial⟩ (hK29 _ _ _ _ hk)
          · rw [if_neg c_124] at he
            replace hk := hk.2 c_124
            refine r_goto rfl ?_
            refine r_iinc (b := x5 + 1) rfl rfl rfl (Nat.le_of_ble_eq_true rfl) rfl ?_
            refine r_goto rfl ?_
            subst he
            exact r_weak (L1 := [some (.ref 60), none, some (.int x2), some (.int x3), some (.int x4), some (.int (x5 + 1)), none, none]) ⟨rfl, rfl, rfl, rfl, rfl, trivial⟩ (hK29 _ _ _ _ hk)
      · rw [if_neg c_99] at he
        replace hk := hk.2 c_99
        refine r_iload rfl rfl ?_
        refine r_goto rfl ?_
        refine r_istore rfl (Nat.le_of_ble_eq_true rfl) rfl ?_
        refine r_iload_n rfl rfl ?_
        refine r_if_lt rfl (fun c_117 => ?_) (fun c_117 => ?_)
        · rw [if_pos c_117] at he
          replace hk := hk.1 c_117
          refine r_iload rfl rfl ?_
          refine r_istore_n rfl (Nat.le_of_ble_eq_true rfl) rfl ?_
          refine r_iload rfl rfl ?_
          refine r_istore rfl (Nat.le_of_ble_eq_true rfl) rfl ?_
          refine r_iinc (b := x5 + 1) rfl rfl rfl (Nat.le_of_ble_eq_true rfl) rfl ?_
          refine r_goto rfl ?_
          subst he
          exact r_weak (L1 := [some (.ref 60), none, some (.int x2), some (.int x5), some (.int x6), some (.int (x5 + 1)), none, none]) ⟨rfl, rfl, rfl, rfl, rfl, trivial⟩ (hK29 _ _ _ _ hk)
        · rw [if_neg c_117] at he
          replace hk := hk.2 c_117
          refine r_iload rfl rfl ?_
          refine r_iload rfl rfl ?_
          refine r_icmp_lt rfl (fun c_124 => ?_) (fun c_124 => ?_)
          · rw [if_pos c_124] at he
            replace hk := hk.1 c_124
            refine r_iload rfl rfl ?_
            refine r_istore_n rfl (Nat.le_of_ble_eq_true rfl) rfl ?_
            refine r_iload rfl rfl ?_
            refine r_istore rfl (Nat.le_of_ble_eq_true rfl) rfl ?_
            refine r_iinc (b := x5 + 1) rfl rfl rfl (Nat.le_of_ble_eq_true rfl) rfl ?_
            refine r_goto rfl ?_
            subst he
            exact r_weak (L1 := [some (.ref 60), none, some (.int x2), some (.int x5), some (.int x6), some (.int (x5 + 1)), none, none]) ⟨rfl, rfl, rfl, rfl, rfl, trivial⟩ (hK29 _ _ _ _ hk)
          · rw [if_neg c_124] at he
            replace hk := hk.2 c_124
            refine r_goto rfl ?_
            refine r_iinc (b := x5 + 1) rfl rfl rfl (Nat.le_of_ble_eq_true rfl) rfl ?_
            refine r_goto rfl ?_
            subst he
            exact r_weak (L1 := [some (.ref 60), none, some (.int x2), some (.int x3), some (.int x4), some (.int (x5 + 1)), none, none]) ⟨rfl, rfl, rfl, rfl, rfl, trivial⟩ (hK29 _ _ _ _ hk)
    · rw [if_neg c_57] at he
      replace hk := hk.2 c_57
      refine r_iload_n rfl rfl ?_
      refine r_iload rfl rfl ?_
      refine r_ishr rfl ?_
      refine r_iconst_ (a := 1) rfl (by decide) ?_
      refine r_iand rfl ?_
      refine r_iconst_ (a := 1) rfl (by decide) ?_
      refine r_icmp_ne rfl (fun c_67 => ?_) (fun c_67 => ?_)
      · rw [if_neg c_67] at he
        replace hk := hk.2 c_67
        refine r_iinc (b := x7 + 1) rfl rfl rfl (Nat.le_of_ble_eq_true rfl) rfl ?_
        refine r_goto rfl ?_
        subst he
        exact r_weak (L1 := [some (.ref 60), none, some (.int x2), some (.int x3), some (.int x4), some (.int x5), some (.int x6), some (.int (x7 + 1))]) ⟨rfl, rfl, rfl, rfl, rfl, rfl, rfl, trivial⟩ (ih _ _ _ _ _ _ hk)
      · rw [if_pos c_67] at he
        replace hk := hk.1 c_67
        refine r_aload_n rfl rfl ?_
        refine r_iload rfl rfl ?_
        refine r_iload rfl rfl ?_
        obtain ⟨hb5, hk⟩ := hk
        refine q_callV0 [_, _] _ rfl kY_X12_isThere kT_X12_isThere rfl rfl (Nat.le_of_ble_eq_true rfl) (Nat.le_of_ble_eq_true rfl) (cc_60 _) (s_X12_isThere hb5) (fun r h q => ?_)
        obtain ⟨rfl, rfl⟩ := q
        simp only [Option.toList, List.cons_append, List.nil_append]
        refine r_if_eq rfl (fun c_78 => ?_) (fun c_78 => ?_)
        · rw [if_pos c_78] at he
          replace hk := hk.1 c_78
          refine r_iinc (b := x7 + 1) rfl rfl rfl (Nat.le_of_ble_eq_true rfl) rfl ?_
          refine r_goto rfl ?_
          subst he
          exact r_weak (L1 := [some (.ref 60), none, some (.int x2), some (.int x3), some (.int x4), some (.int x5), some (.int x6), some (.int (x7 + 1))]) ⟨rfl, rfl, rfl, rfl, rfl, rfl, rfl, trivial⟩ (ih _ _ _ _ _ _ hk)
        · rw [if_neg c_78] at he
          replace hk := hk.2 c_78
          refine r_iinc (b := x6 + 1) rfl rfl rfl (Nat.le_of_ble_eq_true rfl) rfl ?_
          refine r_iinc (b := x7 + 1) rfl rfl rfl (Nat.le_of_ble_eq_true rfl) rfl ?_
          refine r_goto rfl ?_
          subst he
          exact r_weak (L1 := [some (.ref 60), none, some (.int x2), some (.int x3), some (.int x4), some (.int x5), some (.int (x6 + 1)), some (.int (x7 + 1))]) ⟨rfl, rfl, rfl, rfl, rfl, rfl, rfl, trivial⟩ (ih _ _ _ _ _ _ hk)

def f_X12_ask_29 (fu : Nat) : Nat → Int32 → Int32 → Int32 → Int32 → fl_I → fl_L → Int32
  | 0, _, _, _, _, _, _ => 0
  | n + 1, x2, x3, x4, x5, s, l =>
    if ((27 : Int32) ≤ x5) then x3 else if (x2 = 0) then x3 else f_X12_ask_46 fu (fun x2 x3 x4 x5 => f_X12_ask_29 fu n x2 x3 x4 x5 s l) fu x2 x3 x4 x5 (0 : Int32) (0 : Int32) s l

def p_X12_ask_29 (fu : Nat) : Nat → Int32 → Int32 → Int32 → Int32 → fl_I → fl_L → Prop
  | 0, _, _, _, _, _, _ => False
  | n + 1, x2, x3, x4, x5, s, l =>
    ((((27 : Int32) ≤ x5) → True) ∧ (¬ ((27 : Int32) ≤ x5) → (((x2 = 0) → True) ∧ (¬ (x2 = 0) → p_X12_ask_46 fu (fun x2 x3 x4 x5 => p_X12_ask_29 fu n x2 x3 x4 x5 s l) fu x2 x3 x4 x5 (0 : Int32) (0 : Int32) s l))))

set_option maxRecDepth 100000 in
set_option maxHeartbeats 1000000 in
theorem lp_X12_ask_29 {G : ab_G} {fu : Nat} {d : Nat} {D : fl_D} {s : fl_I} {l : fl_L} : ∀ (n : Nat) (x2 : Int32) (x3 : Int32) (x4 : Int32) (x5 : Int32), p_X12_ask_29 fu n x2 x3 x4 x5 s l → ab_C G (d + 3) 0 0 M_X12_ask 29 [some (.ref 60), none, some (.int x2), some (.int x3), some (.int x4), some (.int x5), none, none] [] (hp D s l) (rt (some (.int (f_X12_ask_29 fu n x2 x3 x4 x5 s l))) (hp D s l)) := by
  intro n
  induction n with
  | zero => intro x2 x3 x4 x5 hk; exact hk.elim
  | succ n ih =>
    intro x2 x3 x4 x5 hk
    generalize he : f_X12_ask_29 fu (n + 1) x2 x3 x4 x5 s l = res
    unfold f_X12_ask_29 at he
    unfold p_X12_ask_29 at hk
    refine r_iload rfl rfl ?_
    refine r_bipush_ (a := 27) rfl (by decide) ?_
    refine r_icmp_ge rfl (fun c_33 => ?_) (fun c_33 => ?_)
    · rw [if_pos c_33] at he
      replace hk := hk.1 c_33
      refine r_iload_n rfl rfl ?_
      refine r_iret rfl rfl rfl ?_
      first | with_reducible exact fin_ri he | exact fin_ri he
    · rw [if_neg c_33] at he
      replace hk := hk.2 c_33
      refine r_iload_n rfl rfl ?_
      refine r_if_eq rfl (fun c_37 => ?_) (fun c_37 => ?_)
      · rw [if_pos c_37] at he
        replace hk := hk.1 c_37
        refine r_iload_n rfl rfl ?_
        refine r_iret rfl rfl rfl ?_
        first | with_reducible exact fin_ri he | exact fin_ri he
      · rw [if_neg c_37] at he
        replace hk := hk.2 c_37
        refine r_iconst_ (a := 0) rfl (by decide) ?_
        refine r_istore rfl (Nat.le_of_ble_eq_true rfl) rfl ?_
        refine r_iconst_ (a := 0) rfl (by decide) ?_
        refine r_istore rfl (Nat.le_of_ble_eq_true rfl) rfl ?_
        subst he
        exact r_weak (L1 := [some (.ref 60), none, some (.int x2), some (.int x3), some (.int x4), some (.int x5), some (.int (0 : Int32)), some (.int (0 : Int32))]) ⟨rfl, rfl, rfl, rfl, rfl, rfl, rfl, trivial⟩ (lp_X12_ask_46 _ _ (fun _ _ _ _ h9 => ih _ _ _ _ h9) fu _ _ _ _ _ _ hk)

def f_X12_ask (fu : Nat) (v0 : Int32) (s : fl_I) (l : fl_L) : Int32 :=
  if ((f_X12_in fu v0 (0 : Int32) (s 60 65)) = 0) then (-1 : Int32) else f_X12_ask_29 fu fu (f_X12_writtenBits fu v0 s l) (-2 : Int32) (0 : Int32) (1 : Int32) s l

def p_X12_ask (fu : Nat) (v0 : Int32) (s : fl_I) (l : fl_L) : Prop :=
  (p_X12_in fu v0 (0 : Int32) (s 60 65)) ∧ ((((f_X12_in fu v0 (0 : Int32) (s 60 65)) = 0) → True) ∧ (¬ ((f_X12_in fu v0 (0 : Int32) (s 60 65)) = 0) → (p_X12_writtenBits fu v0 s l) ∧ p_X12_ask_29 fu fu (f_X12_writtenBits fu v0 s l) (-2 : Int32) (0 : Int32) (1 : Int32) s l))

set_option maxRecDepth 100000 in
set_option maxHeartbeats 1000000 in
theorem s_X12_ask {G : ab_G} {fu : Nat} {d : Nat} {D : fl_D} {s : fl_I} {l : fl_L} {v0 : Int32} (hk : p_X12_ask fu v0 s l) : ab_C G (d + 3) 0 0 M_X12_ask 0 (ab_ent [.ref 60, .int v0]) [] (hp D s l) (rt (some (.int (f_X12_ask fu v0 s l))) (hp D s l)) := by
  generalize he : (f_X12_ask fu v0 s l) = res
  unfold f_X12_ask at he
  unfold p_X12_ask at hk
  refine r_weak (L1 := [some (.ref 60), some (.int v0), none, none, none, none, none, none]) ⟨rfl, rfl, trivial⟩ ?_
  refine r_iload_n rfl rfl ?_
  refine r_iconst_ (a := 0) rfl (by decide) ?_
  refine r_aload_n rfl rfl ?_
  refine q_getfield rfl (cc_60 _) rfl ?_
  obtain ⟨hb0, hk⟩ := hk
  refine r_callS0 [_, _, _] _ rfl kY_X12_in kT_X12_in rfl rfl (Nat.le_of_ble_eq_true rfl) (Nat.le_of_ble_eq_true rfl) (s_X12_in hb0) (fun r h q => ?_)
  obtain ⟨rfl, rfl⟩ := q
  simp only [Option.toList, List.cons_append, List.nil_append]
  refine r_if_ne rfl (fun c_9 => ?_) (fun c_9 => ?_)
  · rw [if_neg c_9] at he
    replace hk := hk.2 c_9
    refine r_aload_n rfl rfl ?_
    refine r_iload_n rfl rfl ?_
    obtain ⟨hb1, hk⟩ := hk
    refine q_callV0 [_] _ rfl kY_X12_writtenBits kT_X12_writtenBits rfl rfl (Nat.le_of_ble_eq_true rfl) (Nat.le_of_ble_eq_true rfl) (cc_60 _) (s_X12_writtenBits hb1) (fun r h q => ?_)
    obtain ⟨rfl, rfl⟩ := q
    simp only [Option.toList, List.cons_append, List.nil_append]
    refine r_istore_n rfl (Nat.le_of_ble_eq_true rfl) rfl ?_
    refine r_bipush_ (a := -2) rfl (by decide) ?_
    refine r_istore_n rfl (Nat.le_of_ble_eq_true rfl) rfl ?_
    refine r_iconst_ (a := 0) rfl (by decide) ?_
    refine r_istore rfl (Nat.le_of_ble_eq_true rfl) rfl ?_
    refine r_iconst_ (a := 1) rfl (by decide) ?_
    refine r_istore rfl (Nat.le_of_ble_eq_true rfl) rfl ?_
    subst he
    exact r_weak (L1 := [some (.ref 60), none, some (.int (f_X12_writtenBits fu v0 s l)), some (.int (-2 : Int32)), some (.int (0 : Int32)), some (.int (1 : Int32)), none, none]) ⟨rfl, rfl, rfl, rfl, rfl, trivial⟩ (lp_X12_ask_29 fu _ _ _ _ hk)
  · rw [if_pos c_9] at he
    replace hk := hk.1 c_9
    refine r_iconst_ (a := -1) rfl (by decide) ?_
    refine r_iret rfl rfl rfl ?_
    first | with_reducible exact fin_ri he | exact fin_ri he

def f_X12_share_80 (fu : Nat) : Nat → Int32 → Int32 → Int32 → Int32 → Int32 → fl_I → fl_L → Int32 × fl_I × fl_L
  | 0, x3, x4, x5, x6, x7, s, l => (0, s, l)
  | n + 1, x3, x4, x5, x6, x7, s, l =>
    if (x5 < x7) then (x6, s, l) else if ((f_X12_roundFrom fu x4 (x5 &&& (x7 ^^^ (-1 : Int32))) (f_X12_roundFrom fu x3 x7 s l).2.1 (f_X12_roundFrom fu x3 x7 s l).2.2).1 ≤ (f_X12_roundFrom fu x3 x7 s l).1) then if (x6 ≤ (f_X12_roundFrom fu x3 x7 s l).1) then f_X12_share_80 fu n x3 x4 x5 x6 (x7 + 1) (f_X12_roundFrom fu x4 (x5 &&& (x7 ^^^ (-1 : Int32))) (f_X12_roundFrom fu x3 x7 s l).2.1 (f_X12_roundFrom fu x3 x7 s l).2.2).2.1 (f_X12_roundFrom fu x4 (x5 &&& (x7 ^^^ (-1 : Int32))) (f_X12_roundFrom fu x3 x7 s l).2.1 (f_X12_roundFrom fu x3 x7 s l).2.2).2.2 else f_X12_share_80 fu n x3 x4 x5 (f_X12_roundFrom fu x3 x7 s l).1 (x7 + 1) (f_X12_roundFrom fu x4 (x5 &&& (x7 ^^^ (-1 : Int32))) (f_X12_roundFrom fu x3 x7 s l).2.1 (f_X12_roundFrom fu x3 x7 s l).2.2).2.1 (f_X12_roundFrom fu x4 (x5 &&& (x7 ^^^ (-1 : Int32))) (f_X12_roundFrom fu x3 x7 s l).2.1 (f_X12_roundFrom fu x3 x7 s l).2.2).2.2 else if (x6 ≤ (f_X12_roundFrom fu x4 (x5 &&& (x7 ^^^ (-1 : Int32))) (f_X12_roundFrom fu x3 x7 s l).2.1 (f_X12_roundFrom fu x3 x7 s l).2.2).1) then f_X12_share_80 fu n x3 x4 x5 x6 (x7 + 1) (f_X12_roundFrom fu x4 (x5 &&& (x7 ^^^ (-1 : Int32))) (f_X12_roundFrom fu x3 x7 s l).2.1 (f_X12_roundFrom fu x3 x7 s l).2.2).2.1 (f_X12_roundFrom fu x4 (x5 &&& (x7 ^^^ (-1 : Int32))) (f_X12_roundFrom fu x3 x7 s l).2.1 (f_X12_roundFrom fu x3 x7 s l).2.2).2.2 else f_X12_share_80 fu n x3 x4 x5 (f_X12_roundFrom fu x4 (x5 &&& (x7 ^^^ (-1 : Int32))) (f_X12_roundFrom fu x3 x7 s l).2.1 (f_X12_roundFrom fu x3 x7 s l).2.2).1 (x7 + 1) (f_X12_roundFrom fu x4 (x5 &&& (x7 ^^^ (-1 : Int32))) (f_X12_roundFrom fu x3 x7 s l).2.1 (f_X12_roundFrom fu x3 x7 s l).2.2).2.1 (f_X12_roundFrom fu x4 (x5 &&& (x7 ^^^ (-1 : Int32))) (f_X12_roundFrom fu x3 x7 s l).2.1 (f_X12_roundFrom fu x3 x7 s l).2.2).2.2

def p_X12_share_80 (fu : Nat) : Nat → Int32 → Int32 → Int32 → Int32 → Int32 → fl_I → fl_L → Prop
  | 0, _, _, _, _, _, _, _ => False
  | n + 1, x3, x4, x5, x6, x7, s, l =>
    (((x5 < x7) → True) ∧ (¬ (x5 < x7) → (p_X12_roundFrom fu x3 x7 s l) ∧ (p_X12_roundFrom fu x4 (x5 &&& (x7 ^^^ (-1 : Int32))) (f_X12_roundFrom fu x3 x7 s l).2.1 (f_X12_roundFrom fu x3 x7 s l).2.2) ∧ ((((f_X12_roundFrom fu x4 (x5 &&& (x7 ^^^ (-1 : Int32))) (f_X12_roundFrom fu x3 x7 s l).2.1 (f_X12_roundFrom fu x3 x7 s l).2.2).1 ≤ (f_X12_roundFrom fu x3 x7 s l).1) → (((x6 ≤ (f_X12_roundFrom fu x3 x7 s l).1) → p_X12_share_80 fu n x3 x4 x5 x6 (x7 + 1) (f_X12_roundFrom fu x4 (x5 &&& (x7 ^^^ (-1 : Int32))) (f_X12_roundFrom fu x3 x7 s l).2.1 (f_X12_roundFrom fu x3 x7 s l).2.2).2.1 (f_X12_roundFrom fu x4 (x5 &&& (x7 ^^^ (-1 : Int32))) (f_X12_roundFrom fu x3 x7 s l).2.1 (f_X12_roundFrom fu x3 x7 s l).2.2).2.2) ∧ (¬ (x6 ≤ (f_X12_roundFrom fu x3 x7 s l).1) → p_X12_share_80 fu n x3 x4 x5 (f_X12_roundFrom fu x3 x7 s l).1 (x7 + 1) (f_X12_roundFrom fu x4 (x5 &&& (x7 ^^^ (-1 : Int32))) (f_X12_roundFrom fu x3 x7 s l).2.1 (f_X12_roundFrom fu x3 x7 s l).2.2).2.1 (f_X12_roundFrom fu x4 (x5 &&& (x7 ^^^ (-1 : Int32))) (f_X12_roundFrom fu x3 x7 s l).2.1 (f_X12_roundFrom fu x3 x7 s l).2.2).2.2))) ∧ (¬ ((f_X12_roundFrom fu x4 (x5 &&& (x7 ^^^ (-1 : Int32))) (f_X12_roundFrom fu x3 x7 s l).2.1 (f_X12_roundFrom fu x3 x7 s l).2.2).1 ≤ (f_X12_roundFrom fu x3 x7 s l).1) → (((x6 ≤ (f_X12_roundFrom fu x4 (x5 &&& (x7 ^^^ (-1 : Int32))) (f_X12_roundFrom fu x3 x7 s l).2.1 (f_X12_roundFrom fu x3 x7 s l).2.2).1) → p_X12_share_80 fu n x3 x4 x5 x6 (x7 + 1) (f_X12_roundFrom fu x4 (x5 &&& (x7 ^^^ (-1 : Int32))) (f_X12_roundFrom fu x3 x7 s l).2.1 (f_X12_roundFrom fu x3 x7 s l).2.2).2.1 (f_X12_roundFrom fu x4 (x5 &&& (x7 ^^^ (-1 : Int32))) (f_X12_roundFrom fu x3 x7 s l).2.1 (f_X12_roundFrom fu x3 x7 s l).2.2).2.2) ∧ (¬ (x6 ≤ (f_X12_roundFrom fu x4 (x5 &&& (x7 ^^^ (-1 : Int32))) (f_X12_roundFrom fu x3 x7 s l).2.1 (f_X12_roundFrom fu x3 x7 s l).2.2).1) → p_X12_share_80 fu n x3 x4 x5 (f_X12_roundFrom fu x4 (x5 &&& (x7 ^^^ (-1 : Int32))) (f_X12_roundFrom fu x3 x7 s l).2.1 (f_X12_roundFrom fu x3 x7 s l).2.2).1 (x7 + 1) (f_X12_roundFrom fu x4 (x5 &&& (x7 ^^^ (-1 : Int32))) (f_X12_roundFrom fu x3 x7 s l).2.1 (f_X12_roundFrom fu x3 x7 s l).2.2).2.1 (f_X12_roundFrom fu x4 (x5 &&& (x7 ^^^ (-1 : Int32))) (f_X12_roundFrom fu x3 x7 s l).2.1 (f_X12_roundFrom fu x3 x7 s l).2.2).2.2))))))

set_option maxRecDepth 100000 in
set_option maxHeartbeats 1000000 in
theorem lp_X12_share_80 {G : ab_G} {fu : Nat} {d : Nat} {D : fl_D} : ∀ (n : Nat) (x3 : Int32) (x4 : Int32) (x5 : Int32) (x6 : Int32) (x7 : Int32) (s : fl_I) (l : fl_L), p_X12_share_80 fu n x3 x4 x5 x6 x7 s l → ab_C G (d + 3) 0 0 M_X12_share 80 [some (.ref 60), none, none, some (.int x3), some (.int x4), some (.int x5), some (.int x6), some (.int x7), none, none] [] (hp D s l) (rt (some (.int (f_X12_share_80 fu n x3 x4 x5 x6 x7 s l).1)) (hp D (f_X12_share_80 fu n x3 x4 x5 x6 x7 s l).2.1 (f_X12_share_80 fu n x3 x4 x5 x6 x7 s l).2.2)) := by
  intro n
  induction n with
  | zero => intro x3 x4 x5 x6 x7 s l hk; exact hk.elim
  | succ n ih =>
    intro x3 x4 x5 x6 x7 s l hk
    generalize he : f_X12_share_80 fu (n + 1) x3 x4 x5 x6 x7 s l = res
    unfold f_X12_share_80 at he
    unfold p_X12_share_80 at hk
    refine r_iload rfl rfl ?_
    refine r_iload rfl rfl ?_
    refine r_icmp_gt rfl (fun c_84 => ?_) (fun c_84 => ?_)
    · rw [if_pos c_84] at he
      replace hk := hk.1 c_84
      refine r_iload rfl rfl ?_
      refine r_iret rfl rfl rfl ?_
      first | with_reducible exact fin_i he | exact fin_i he
    · rw [if_neg c_84] at he
      replace hk := hk.2 c_84
      refine r_aload_n rfl rfl ?_
      refine r_iload_n rfl rfl ?_
      refine r_iload rfl rfl ?_
      obtain ⟨hb7, hk⟩ := hk
      refine q_callV0 [_, _] _ rfl kY_X12_roundFrom kT_X12_roundFrom rfl rfl (Nat.le_of_ble_eq_true rfl) (Nat.le_of_ble_eq_true rfl) (cc_60 _) (s_X12_roundFrom hb7) (fun r h q => ?_)
      obtain ⟨rfl, rfl⟩ := q
      simp only [Option.toList, List.cons_append, List.nil_append]
      refine r_istore rfl (Nat.le_of_ble_eq_true rfl) rfl ?_
      refine r_aload_n rfl rfl ?_
      refine r_iload rfl rfl ?_
      refine r_iload rfl rfl ?_
      refine r_iload rfl rfl ?_
      refine r_iconst_ (a := -1) rfl (by decide) ?_
      refine r_ixor rfl ?_
      refine r_iand rfl ?_
      obtain ⟨hb8, hk⟩ := hk
      refine q_callV0 [_, _] _ rfl kY_X12_roundFrom kT_X12_roundFrom rfl rfl (Nat.le_of_ble_eq_true rfl) (Nat.le_of_ble_eq_true rfl) (cc_60 _) (s_X12_roundFrom hb8) (fun r h q => ?_)
      obtain ⟨rfl, rfl⟩ := q
      simp only [Option.toList, List.cons_append, List.nil_append]
      refine r_istore rfl (Nat.le_of_ble_eq_true rfl) rfl ?_
      refine r_iload rfl rfl ?_
      refine r_iload rfl rfl ?_
      refine r_icmp_le rfl (fun c_115 => ?_) (fun c_115 => ?_)
      · rw [if_pos c_115] at he
        replace hk := hk.1 c_115
        refine r_iload rfl rfl ?_
        refine r_iload rfl rfl ?_
        refine r_icmp_ge rfl (fun c_126 => ?_) (fun c_126 => ?_)
        · rw [if_pos c_126] at he
          replace hk := hk.1 c_126
          refine r_iinc (b := x7 + 1) rfl rfl rfl (Nat.le_of_ble_eq_true rfl) rfl ?_
          refine r_goto rfl ?_
          subst he
          exact r_weak (L1 := [some (.ref 60), none, none, some (.int x3), some (.int x4), some (.int x5), some (.int x6), some (.int (x7 + 1)), none, none]) ⟨rfl, rfl, rfl, rfl, rfl, rfl, trivial⟩ (ih _ _ _ _ _ _ _ hk)
        · rw [if_neg c_126] at he
          replace hk := hk.2 c_126
          refine r_iload rfl rfl ?_
          refine r_istore rfl (Nat.le_of_ble_eq_true rfl) rfl ?_
          refine r_iinc (b := x7 + 1) rfl rfl rfl (Nat.le_of_ble_eq_true rfl) rfl ?_
          refine r_goto rfl ?_
          subst he
          exact r_weak (L1 := [some (.ref 60), none, none, some (.int x3), some (.int x4), some (.int x5), some (.int (f_X12_roundFrom fu x3 x7 s l).1), some (.int (x7 + 1)), none, none]) ⟨rfl, rfl, rfl, rfl, rfl, rfl, trivial⟩ (ih _ _ _ _ _ _ _ hk)
      · rw [if_neg c_115] at he
        replace hk := hk.2 c_115
        refine r_iload rfl rfl ?_
        refine r_istore rfl (Nat.le_of_ble_eq_true rfl) rfl ?_
        refine r_iload rfl rfl ?_
        refine r_iload rfl rfl ?_
        refine r_icmp_ge rfl (fun c_126 => ?_) (fun c_126 => ?_)
        · rw [if_pos c_126] at he
          replace hk := hk.1 c_126
          refine r_iinc (b := x7 + 1) rfl rfl rfl (Nat.le_of_ble_eq_true rfl) rfl ?_
          refine r_goto rfl ?_
          subst he
          exact r_weak (L1 := [some (.ref 60), none, none, some (.int x3), some (.int x4), some (.int x5), some (.int x6), some (.int (x7 + 1)), none, none]) ⟨rfl, rfl, rfl, rfl, rfl, rfl, trivial⟩ (ih _ _ _ _ _ _ _ hk)
        · rw [if_neg c_126] at he
          replace hk := hk.2 c_126
          refine r_iload rfl rfl ?_
          refine r_istore rfl (Nat.le_of_ble_eq_true rfl) rfl ?_
          refine r_iinc (b := x7 + 1) rfl rfl rfl (Nat.le_of_ble_eq_true rfl) rfl ?_
          refine r_goto rfl ?_
          subst he
          exact r_weak (L1 := [some (.ref 60), none, none, some (.int x3), some (.int x4), some (.int x5), some (.int (f_X12_roundFrom fu x4 (x5 &&& (x7 ^^^ (-1 : Int32))) (f_X12_roundFrom fu x3 x7 s l).2.1 (f_X12_roundFrom fu x3 x7 s l).2.2).1), some (.int (x7 + 1)), none, none]) ⟨rfl, rfl, rfl, rfl, rfl, rfl, trivial⟩ (ih _ _ _ _ _ _ _ hk)

def f_X12_share (fu : Nat) (v0 : Int32) (v1 : Int32) (s : fl_I) (l : fl_L) : Int32 × fl_I × fl_L :=
  if ((f_X12_isPicker fu v0 s l) = 0) then ((-1 : Int32), s, l) else if ((f_X12_isPicker fu v1 s l) = 0) then ((-1 : Int32), s, l) else if (v0 = v1) then ((-1 : Int32), s, l) else if (((f_X12_fillsCells fu (-1 : Int32) (-1 : Int32) (f_X12_copies fu s l).1 (f_X12_copies fu s l).2).1 60 60) ≤ (10 : Int32)) then f_X12_share_80 fu fu (f_X12_cellOfPicker fu v0 (f_X12_copies fu s l).1 (f_X12_copies fu s l).2) (f_X12_cellOfPicker fu v1 (f_X12_copies fu s l).1 (f_X12_copies fu s l).2) (((1 : Int32) <<< (((f_X12_fillsRest fu (f_X12_fillsCells fu (-1 : Int32) (-1 : Int32) (f_X12_copies fu s l).1 (f_X12_copies fu s l).2).1 (f_X12_fillsCells fu (-1 : Int32) (-1 : Int32) (f_X12_copies fu s l).1 (f_X12_copies fu s l).2).2).1 60 60) &&& 31)) - (1 : Int32)) (9999 : Int32) (0 : Int32) (f_X12_fillsRest fu (f_X12_fillsCells fu (-1 : Int32) (-1 : Int32) (f_X12_copies fu s l).1 (f_X12_copies fu s l).2).1 (f_X12_fillsCells fu (-1 : Int32) (-1 : Int32) (f_X12_copies fu s l).1 (f_X12_copies fu s l).2).2).1 (f_X12_fillsRest fu (f_X12_fillsCells fu (-1 : Int32) (-1 : Int32) (f_X12_copies fu s l).1 (f_X12_copies fu s l).2).1 (f_X12_fillsCells fu (-1 : Int32) (-1 : Int32) (f_X12_copies fu s l).1 (f_X12_copies fu s l).2).2).2 else ((-3 : Int32), (f_X12_fillsCells fu (-1 : Int32) (-1 : Int32) (f_X12_copies fu s l).1 (f_X12_copies fu s l).2).1, (f_X12_fillsCells fu (-1 : Int32) (-1 : Int32) (f_X12_copies fu s l).1 (f_X12_copies fu s l).2).2)

def p_X12_share (fu : Nat) (v0 : Int32) (v1 : Int32) (s : fl_I) (l : fl_L) : Prop :=
  (p_X12_isPicker fu v0 s l) ∧ ((((f_X12_isPicker fu v0 s l) = 0) → True) ∧ (¬ ((f_X12_isPicker fu v0 s l) = 0) → (p_X12_isPicker fu v1 s l) ∧ ((((f_X12_isPicker fu v1 s l) = 0) → True) ∧ (¬ ((f_X12_isPicker fu v1 s l) = 0) → (((v0 = v1) → True) ∧ (¬ (v0 = v1) → (p_X12_copies fu s l) ∧ (p_X12_cellOfPicker fu v0 (f_X12_copies fu s l).1 (f_X12_copies fu s l).2) ∧ (p_X12_cellOfPicker fu v1 (f_X12_copies fu s l).1 (f_X12_copies fu s l).2) ∧ (p_X12_fillsCells fu (-1 : Int32) (-1 : Int32) (f_X12_copies fu s l).1 (f_X12_copies fu s l).2) ∧ (((((f_X12_fillsCells fu (-1 : Int32) (-1 : Int32) (f_X12_copies fu s l).1 (f_X12_copies fu s l).2).1 60 60) ≤ (10 : Int32)) → (p_X12_fillsRest fu (f_X12_fillsCells fu (-1 : Int32) (-1 : Int32) (f_X12_copies fu s l).1 (f_X12_copies fu s l).2).1 (f_X12_fillsCells fu (-1 : Int32) (-1 : Int32) (f_X12_copies fu s l).1 (f_X12_copies fu s l).2).2) ∧ p_X12_share_80 fu fu (f_X12_cellOfPicker fu v0 (f_X12_copies fu s l).1 (f_X12_copies fu s l).2) (f_X12_cellOfPicker fu v1 (f_X12_copies fu s l).1 (f_X12_copies fu s l).2) (((1 : Int32) <<< (((f_X12_fillsRest fu (f_X12_fillsCells fu (-1 : Int32) (-1 : Int32) (f_X12_copies fu s l).1 (f_X12_copies fu s l).2).1 (f_X12_fillsCells fu (-1 : Int32) (-1 : Int32) (f_X12_copies fu s l).1 (f_X12_copies fu s l).2).2).1 60 60) &&& 31)) - (1 : Int32)) (9999 : Int32) (0 : Int32) (f_X12_fillsRest fu (f_X12_fillsCells fu (-1 : Int32) (-1 : Int32) (f_X12_copies fu s l).1 (f_X12_copies fu s l).2).1 (f_X12_fillsCells fu (-1 : Int32) (-1 : Int32) (f_X12_copies fu s l).1 (f_X12_copies fu s l).2).2).1 (f_X12_fillsRest fu (f_X12_fillsCells fu (-1 : Int32) (-1 : Int32) (f_X12_copies fu s l).1 (f_X12_copies fu s l).2).1 (f_X12_fillsCells fu (-1 : Int32) (-1 : Int32) (f_X12_copies fu s l).1 (f_X12_copies fu s l).2).2).2) ∧ (¬ (((f_X12_fillsCells fu (-1 : Int32) (-1 : Int32) (f_X12_copies fu s l).1 (f_X12_copies fu s l).2).1 60 60) ≤ (10 : Int32)) → True))))))))

set_option maxRecDepth 100000 in
set_option maxHeartbeats 1000000 in
theorem s_X12_share {G : ab_G} {fu : Nat} {d : Nat} {D : fl_D} {s : fl_I} {l : fl_L} {v0 : Int32} {v1 : Int32} (hk : p_X12_share fu v0 v1 s l) : ab_C G (d + 3) 0 0 M_X12_share 0 (ab_ent [.ref 60, .int v0, .int v1]) [] (hp D s l) (rt (some (.int (f_X12_share fu v0 v1 s l).1)) (hp D (f_X12_share fu v0 v1 s l).2.1 (f_X12_share fu v0 v1 s l).2.2)) := by
  generalize he : (f_X12_share fu v0 v1 s l) = res
  unfold f_X12_share at he
  unfold p_X12_share at hk
  refine r_weak (L1 := [some (.ref 60), some (.int v0), some (.int v1), none, none, none, none, none, none, none]) ⟨rfl, rfl, rfl, trivial⟩ ?_
  refine r_aload_n rfl rfl ?_
  refine r_iload_n rfl rfl ?_
  obtain ⟨hb0, hk⟩ := hk
  refine q_callV0 [_] _ rfl kY_X12_isPicker kT_X12_isPicker rfl rfl (Nat.le_of_ble_eq_true rfl) (Nat.le_of_ble_eq_true rfl) (cc_60 _) (s_X12_isPicker hb0) (fun r h q => ?_)
  obtain ⟨rfl, rfl⟩ := q
  simp only [Option.toList, List.cons_append, List.nil_append]
  refine r_if_eq rfl (fun c_5 => ?_) (fun c_5 => ?_)
  · rw [if_pos c_5] at he
    replace hk := hk.1 c_5
    refine r_iconst_ (a := -1) rfl (by decide) ?_
    refine r_iret rfl rfl rfl ?_
    first | with_reducible exact fin_i he | exact fin_i he
  · rw [if_neg c_5] at he
    replace hk := hk.2 c_5
    refine r_aload_n rfl rfl ?_
    refine r_iload_n rfl rfl ?_
    obtain ⟨hb1, hk⟩ := hk
    refine q_callV0 [_] _ rfl kY_X12_isPicker kT_X12_isPicker rfl rfl (Nat.le_of_ble_eq_true rfl) (Nat.le_of_ble_eq_true rfl) (cc_60 _) (s_X12_isPicker hb1) (fun r h q => ?_)
    obtain ⟨rfl, rfl⟩ := q
    simp only [Option.toList, List.cons_append, List.nil_append]
    refine r_if_eq rfl (fun c_13 => ?_) (fun c_13 => ?_)
    · rw [if_pos c_13] at he
      replace hk := hk.1 c_13
      refine r_iconst_ (a := -1) rfl (by decide) ?_
      refine r_iret rfl rfl rfl ?_
      first | with_reducible exact fin_i he | exact fin_i he
    · rw [if_neg c_13] at he
      replace hk := hk.2 c_13
      refine r_iload_n rfl rfl ?_
      refine r_iload_n rfl rfl ?_
      refine r_icmp_ne rfl (fun c_18 => ?_) (fun c_18 => ?_)
      · rw [if_neg c_18] at he
        replace hk := hk.2 c_18
        refine r_aload_n rfl rfl ?_
        obtain ⟨hb2, hk⟩ := hk
        refine q_callV0 [] _ rfl kY_X12_copies kT_X12_copies rfl rfl (Nat.le_of_ble_eq_true rfl) (Nat.le_of_ble_eq_true rfl) (cc_60 _) (s_X12_copies hb2) (fun r h q => ?_)
        obtain ⟨rfl, rfl⟩ := q
        simp only [Option.toList, List.cons_append, List.nil_append]
        refine r_aload_n rfl rfl ?_
        refine r_iload_n rfl rfl ?_
        obtain ⟨hb3, hk⟩ := hk
        refine q_callV0 [_] _ rfl kY_X12_cellOfPicker kT_X12_cellOfPicker rfl rfl (Nat.le_of_ble_eq_true rfl) (Nat.le_of_ble_eq_true rfl) (cc_60 _) (s_X12_cellOfPicker hb3) (fun r h q => ?_)
        obtain ⟨rfl, rfl⟩ := q
        simp only [Option.toList, List.cons_append, List.nil_append]
        refine r_istore_n rfl (Nat.le_of_ble_eq_true rfl) rfl ?_
        refine r_aload_n rfl rfl ?_
        refine r_iload_n rfl rfl ?_
        obtain ⟨hb4, hk⟩ := hk
        refine q_callV0 [_] _ rfl kY_X12_cellOfPicker kT_X12_cellOfPicker rfl rfl (Nat.le_of_ble_eq_true rfl) (Nat.le_of_ble_eq_true rfl) (cc_60 _) (s_X12_cellOfPicker hb4) (fun r h q => ?_)
        obtain ⟨rfl, rfl⟩ := q
        simp only [Option.toList, List.cons_append, List.nil_append]
        refine r_istore rfl (Nat.le_of_ble_eq_true rfl) rfl ?_
        refine r_aload_n rfl rfl ?_
        refine r_iconst_ (a := -1) rfl (by decide) ?_
        refine r_iconst_ (a := -1) rfl (by decide) ?_
        obtain ⟨hb5, hk⟩ := hk
        refine q_callV0 [_, _] _ rfl kY_X12_fillsCells kT_X12_fillsCells rfl rfl (Nat.le_of_ble_eq_true rfl) (Nat.le_of_ble_eq_true rfl) (cc_60 _) (s_X12_fillsCells hb5) (fun r h q => ?_)
        obtain ⟨rfl, rfl⟩ := q
        simp only [Option.toList, List.cons_append, List.nil_append]
        refine r_aload_n rfl rfl ?_
        refine q_getfield rfl (cc_60 _) rfl ?_
        refine r_bipush_ (a := 10) rfl (by decide) ?_
        refine r_icmp_le rfl (fun c_52 => ?_) (fun c_52 => ?_)
        · rw [if_pos c_52] at he
          replace hk := hk.1 c_52
          refine r_aload_n rfl rfl ?_
          obtain ⟨hb6, hk⟩ := hk
          refine q_callV0 [] _ rfl kY_X12_fillsRest kT_X12_fillsRest rfl rfl (Nat.le_of_ble_eq_true rfl) (Nat.le_of_ble_eq_true rfl) (cc_60 _) (s_X12_fillsRest hb6) (fun r h q => ?_)
          obtain ⟨rfl, rfl⟩ := q
          simp only [Option.toList, List.cons_append, List.nil_append]
          refine r_iconst_ (a := 1) rfl (by decide) ?_
          refine r_aload_n rfl rfl ?_
          refine q_getfield rfl (cc_60 _) rfl ?_
          refine r_ishl rfl ?_
          refine r_iconst_ (a := 1) rfl (by decide) ?_
          refine r_isub rfl ?_
          refine r_istore rfl (Nat.le_of_ble_eq_true rfl) rfl ?_
          refine r_sipush_ (a := 9999) rfl (by decide) ?_
          refine r_istore rfl (Nat.le_of_ble_eq_true rfl) rfl ?_
          refine r_iconst_ (a := 0) rfl (by decide) ?_
          refine r_istore rfl (Nat.le_of_ble_eq_true rfl) rfl ?_
          subst he
          exact r_weak (L1 := [some (.ref 60), none, none, some (.int (f_X12_cellOfPicker fu v0 (f_X12_copies fu s l).1 (f_X12_copies fu s l).2)), some (.int (f_X12_cellOfPicker fu v1 (f_X12_copies fu s l).1 (f_X12_copies fu s l).2)), some (.int (((1 : Int32) <<< (((f_X12_fillsRest fu (f_X12_fillsCells fu (-1 : Int32) (-1 : Int32) (f_X12_copies fu s l).1 (f_X12_copies fu s l).2).1 (f_X12_fillsCells fu (-1 : Int32) (-1 : Int32) (f_X12_copies fu s l).1 (f_X12_copies fu s l).2).2).1 60 60) &&& 31)) - (1 : Int32))), some (.int (9999 : Int32)), some (.int (0 : Int32)), none, none]) ⟨rfl, rfl, rfl, rfl, rfl, rfl, trivial⟩ (lp_X12_share_80 fu _ _ _ _ _ _ _ hk)
        · rw [if_neg c_52] at he
          replace hk := hk.2 c_52
          refine r_bipush_ (a := -3) rfl (by decide) ?_
          refine r_iret rfl rfl rfl ?_
          first | with_reducible exact fin_i he | exact fin_i he
      · rw [if_pos c_18] at he
        replace hk := hk.1 c_18
        refine r_iconst_ (a := -1) rfl (by decide) ?_
        refine r_iret rfl rfl rfl ?_
        first | with_reducible exact fin_i he | exact fin_i he

