def f_X12_cut_208 (fu : Nat) (K7 : Int32 → fl_I → fl_L → fl_I × fl_L) : Nat → Int32 → Int32 → Int32 → fl_I → fl_L → fl_I × fl_L
  | 0, x1, x3, x4, s, l => (s, l)
  | n + 1, x1, x3, x4, s, l =>
    if ((f_X12_isDigit fu (f_X12_byteAt fu (x1 + x3) s l)) = 0) then if (x3 ≤ (4 : Int32)) then K7 (x1 + x3) (f_X12_token fu (2 : Int32) x1 x4 (0 : Int64) s l).1 (f_X12_token fu (2 : Int32) x1 x4 (0 : Int64) s l).2 else K7 (x1 + x3) (f_X12_token fu (3 : Int32) x1 x4 (0 : Int64) s l).1 (f_X12_token fu (3 : Int32) x1 x4 (0 : Int64) s l).2 else if ((4 : Int32) ≤ x3) then f_X12_cut_208 fu K7 n x1 (x3 + 1) x4 s l else f_X12_cut_208 fu K7 n x1 (x3 + 1) ((((10 : Int32) * x4) + (f_X12_byteAt fu (x1 + x3) s l)) - (48 : Int32)) s l

def p_X12_cut_208 (fu : Nat) (P7 : Int32 → fl_I → fl_L → Prop) : Nat → Int32 → Int32 → Int32 → fl_I → fl_L → Prop
  | 0, _, _, _, _, _ => False
  | n + 1, x1, x3, x4, s, l =>
    (p_X12_byteAt fu (x1 + x3) s l) ∧ (p_X12_isDigit fu (f_X12_byteAt fu (x1 + x3) s l)) ∧ ((((f_X12_isDigit fu (f_X12_byteAt fu (x1 + x3) s l)) = 0) → (((x3 ≤ (4 : Int32)) → (p_X12_token fu (2 : Int32) x1 x4 (0 : Int64) s l) ∧ P7 (x1 + x3) (f_X12_token fu (2 : Int32) x1 x4 (0 : Int64) s l).1 (f_X12_token fu (2 : Int32) x1 x4 (0 : Int64) s l).2) ∧ (¬ (x3 ≤ (4 : Int32)) → (p_X12_token fu (3 : Int32) x1 x4 (0 : Int64) s l) ∧ P7 (x1 + x3) (f_X12_token fu (3 : Int32) x1 x4 (0 : Int64) s l).1 (f_X12_token fu (3 : Int32) x1 x4 (0 : Int64) s l).2))) ∧ (¬ ((f_X12_isDigit fu (f_X12_byteAt fu (x1 + x3) s l)) = 0) → ((((4 : Int32) ≤ x3) → p_X12_cut_208 fu P7 n x1 (x3 + 1) x4 s l) ∧ (¬ ((4 : Int32) ≤ x3) → (p_X12_byteAt fu (x1 + x3) s l) ∧ p_X12_cut_208 fu P7 n x1 (x3 + 1) ((((10 : Int32) * x4) + (f_X12_byteAt fu (x1 + x3) s l)) - (48 : Int32)) s l))))

set_option maxRecDepth 100000 in
set_option maxHeartbeats 1000000 in
theorem lp_X12_cut_208 {G : ab_G} {fu : Nat} {d : Nat} {D : fl_D} (K7 : Int32 → fl_I → fl_L → fl_I × fl_L) (P7 : Int32 → fl_I → fl_L → Prop) (hK7 : ∀ (x1 : Int32) (s : fl_I) (l : fl_L), P7 x1 s l → ab_C G (d + 2) 0 0 M_X12_cut 7 [some (.ref 60), some (.int x1), none, none, none, none, none, none] [] (hp D s l) (rt none (hp D (K7 x1 s l).1 (K7 x1 s l).2))) : ∀ (n : Nat) (x1 : Int32) (x3 : Int32) (x4 : Int32) (s : fl_I) (l : fl_L), p_X12_cut_208 fu P7 n x1 x3 x4 s l → ab_C G (d + 2) 0 0 M_X12_cut 208 [some (.ref 60), some (.int x1), none, some (.int x3), some (.int x4), none, none, none] [] (hp D s l) (rt none (hp D (f_X12_cut_208 fu K7 n x1 x3 x4 s l).1 (f_X12_cut_208 fu K7 n x1 x3 x4 s l).2)) := by
  intro n
  induction n with
  | zero => intro x1 x3 x4 s l hk; exact hk.elim
  | succ n ih =>
    intro x1 x3 x4 s l hk
    generalize he : f_X12_cut_208 fu K7 (n + 1) x1 x3 x4 s l = res
    unfold f_X12_cut_208 at he
    unfold p_X12_cut_208 at hk
    refine r_aload_n rfl rfl ?_
    refine r_iload_n rfl rfl ?_
    refine r_iload_n rfl rfl ?_
    refine r_iadd rfl ?_
    obtain ⟨hb5, hk⟩ := hk
    refine q_callV0 [_] _ rfl kY_X12_byteAt kT_X12_byteAt rfl rfl (Nat.le_of_ble_eq_true rfl) (Nat.le_of_ble_eq_true rfl) (cc_60 _) (s_X12_byteAt hb5) (fun r h q => ?_)
    obtain ⟨rfl, rfl⟩ := q
    simp only [Option.toList, List.cons_append, List.nil_append]
    obtain ⟨hb6, hk⟩ := hk
    refine r_callS0 [_] _ rfl kY_X12_isDigit kT_X12_isDigit rfl rfl (Nat.le_of_ble_eq_true rfl) (Nat.le_of_ble_eq_true rfl) (s_X12_isDigit hb6) (fun r h q => ?_)
    obtain ⟨rfl, rfl⟩ := q
    simp only [Option.toList, List.cons_append, List.nil_append]
    refine r_if_eq rfl (fun c_218 => ?_) (fun c_218 => ?_)
    · rw [if_pos c_218] at he
      replace hk := hk.1 c_218
      refine r_aload_n rfl rfl ?_
      refine r_iload_n rfl rfl ?_
      refine r_iconst_ (a := 4) rfl (by decide) ?_
      refine r_icmp_le rfl (fun c_253 => ?_) (fun c_253 => ?_)
      · rw [if_pos c_253] at he
        replace hk := hk.1 c_253
        refine r_iconst_ (a := 2) rfl (by decide) ?_
        refine r_iload_n rfl rfl ?_
        refine r_iload rfl rfl ?_
        refine r_lconst (a := 0) rfl (by decide) ?_
        obtain ⟨hb7, hk⟩ := hk
        refine q_callV0 [_, _, _, _] _ rfl kY_X12_token kT_X12_token rfl rfl (Nat.le_of_ble_eq_true rfl) (Nat.le_of_ble_eq_true rfl) (cc_60 _) (s_X12_token hb7) (fun r h q => ?_)
        obtain ⟨rfl, rfl⟩ := q
        simp only [Option.toList, List.cons_append, List.nil_append]
        refine r_iload_n rfl rfl ?_
        refine r_iload_n rfl rfl ?_
        refine r_iadd rfl ?_
        refine r_istore_n rfl (Nat.le_of_ble_eq_true rfl) rfl ?_
        refine r_goto rfl ?_
        refine r_goto rfl ?_
        subst he
        exact r_weak (L1 := [some (.ref 60), some (.int (x1 + x3)), none, none, none, none, none, none]) ⟨rfl, rfl, trivial⟩ (hK7 _ _ _ hk)
      · rw [if_neg c_253] at he
        replace hk := hk.2 c_253
        refine r_iconst_ (a := 3) rfl (by decide) ?_
        refine r_goto rfl ?_
        refine r_iload_n rfl rfl ?_
        refine r_iload rfl rfl ?_
        refine r_lconst (a := 0) rfl (by decide) ?_
        obtain ⟨hb8, hk⟩ := hk
        refine q_callV0 [_, _, _, _] _ rfl kY_X12_token kT_X12_token rfl rfl (Nat.le_of_ble_eq_true rfl) (Nat.le_of_ble_eq_true rfl) (cc_60 _) (s_X12_token hb8) (fun r h q => ?_)
        obtain ⟨rfl, rfl⟩ := q
        simp only [Option.toList, List.cons_append, List.nil_append]
        refine r_iload_n rfl rfl ?_
        refine r_iload_n rfl rfl ?_
        refine r_iadd rfl ?_
        refine r_istore_n rfl (Nat.le_of_ble_eq_true rfl) rfl ?_
        refine r_goto rfl ?_
        refine r_goto rfl ?_
        subst he
        exact r_weak (L1 := [some (.ref 60), some (.int (x1 + x3)), none, none, none, none, none, none]) ⟨rfl, rfl, trivial⟩ (hK7 _ _ _ hk)
    · rw [if_neg c_218] at he
      replace hk := hk.2 c_218
      refine r_iload_n rfl rfl ?_
      refine r_iconst_ (a := 4) rfl (by decide) ?_
      refine r_icmp_ge rfl (fun c_223 => ?_) (fun c_223 => ?_)
      · rw [if_pos c_223] at he
        replace hk := hk.1 c_223
        refine r_iinc (b := x3 + 1) rfl rfl rfl (Nat.le_of_ble_eq_true rfl) rfl ?_
        refine r_goto rfl ?_
        subst he
        exact r_weak (L1 := [some (.ref 60), some (.int x1), none, some (.int (x3 + 1)), some (.int x4), none, none, none]) ⟨rfl, rfl, rfl, rfl, trivial⟩ (ih _ _ _ _ _ hk)
      · rw [if_neg c_223] at he
        replace hk := hk.2 c_223
        refine r_bipush_ (a := 10) rfl (by decide) ?_
        refine r_iload rfl rfl ?_
        refine r_imul rfl ?_
        refine r_aload_n rfl rfl ?_
        refine r_iload_n rfl rfl ?_
        refine r_iload_n rfl rfl ?_
        refine r_iadd rfl ?_
        obtain ⟨hb9, hk⟩ := hk
        refine q_callV0 [_] _ rfl kY_X12_byteAt kT_X12_byteAt rfl rfl (Nat.le_of_ble_eq_true rfl) (Nat.le_of_ble_eq_true rfl) (cc_60 _) (s_X12_byteAt hb9) (fun r h q => ?_)
        obtain ⟨rfl, rfl⟩ := q
        simp only [Option.toList, List.cons_append, List.nil_append]
        refine r_iadd rfl ?_
        refine r_bipush_ (a := 48) rfl (by decide) ?_
        refine r_isub rfl ?_
        refine r_istore rfl (Nat.le_of_ble_eq_true rfl) rfl ?_
        refine r_iinc (b := x3 + 1) rfl rfl rfl (Nat.le_of_ble_eq_true rfl) rfl ?_
        refine r_goto rfl ?_
        subst he
        exact r_weak (L1 := [some (.ref 60), some (.int x1), none, some (.int (x3 + 1)), some (.int ((((10 : Int32) * x4) + (f_X12_byteAt fu (x1 + x3) s l)) - (48 : Int32))), none, none, none]) ⟨rfl, rfl, rfl, rfl, trivial⟩ (ih _ _ _ _ _ hk)

def f_X12_cut_146 (fu : Nat) (K7 : Int32 → fl_I → fl_L → fl_I × fl_L) : Nat → Int32 → Int32 → Int64 → Int32 → Int32 → fl_I → fl_L → fl_I × fl_L
  | 0, x1, x3, x4, x6, x7, s, l => (s, l)
  | n + 1, x1, x3, x4, x6, x7, s, l =>
    if ((21 : Int32) ≤ x7) then K7 (x1 + x3) (f_X12_token fu x6 x1 (0 : Int32) x4 s l).1 (f_X12_token fu x6 x1 (0 : Int32) x4 s l).2 else if ((lg_cmp (l 67 x7.toNatClampNeg) x4) = 0) then f_X12_cut_146 fu K7 n x1 x3 x4 ((20 : Int32) + x7) (x7 + 1) s l else f_X12_cut_146 fu K7 n x1 x3 x4 x6 (x7 + 1) s l

def p_X12_cut_146 (fu : Nat) (P7 : Int32 → fl_I → fl_L → Prop) : Nat → Int32 → Int32 → Int64 → Int32 → Int32 → fl_I → fl_L → Prop
  | 0, _, _, _, _, _, _, _ => False
  | n + 1, x1, x3, x4, x6, x7, s, l =>
    ((((21 : Int32) ≤ x7) → (p_X12_token fu x6 x1 (0 : Int32) x4 s l) ∧ P7 (x1 + x3) (f_X12_token fu x6 x1 (0 : Int32) x4 s l).1 (f_X12_token fu x6 x1 (0 : Int32) x4 s l).2) ∧ (¬ ((21 : Int32) ≤ x7) → (vp_in x7 21) ∧ ((((lg_cmp (l 67 x7.toNatClampNeg) x4) = 0) → p_X12_cut_146 fu P7 n x1 x3 x4 ((20 : Int32) + x7) (x7 + 1) s l) ∧ (¬ ((lg_cmp (l 67 x7.toNatClampNeg) x4) = 0) → p_X12_cut_146 fu P7 n x1 x3 x4 x6 (x7 + 1) s l))))

set_option maxRecDepth 100000 in
set_option maxHeartbeats 1000000 in
theorem lp_X12_cut_146 {G : ab_G} {fu : Nat} {d : Nat} {D : fl_D} (K7 : Int32 → fl_I → fl_L → fl_I × fl_L) (P7 : Int32 → fl_I → fl_L → Prop) (hK7 : ∀ (x1 : Int32) (s : fl_I) (l : fl_L), P7 x1 s l → ab_C G (d + 2) 0 0 M_X12_cut 7 [some (.ref 60), some (.int x1), none, none, none, none, none, none] [] (hp D s l) (rt none (hp D (K7 x1 s l).1 (K7 x1 s l).2))) : ∀ (n : Nat) (x1 : Int32) (x3 : Int32) (x4 : Int64) (x6 : Int32) (x7 : Int32) (s : fl_I) (l : fl_L), p_X12_cut_146 fu P7 n x1 x3 x4 x6 x7 s l → ab_C G (d + 2) 0 0 M_X12_cut 146 [some (.ref 60), some (.int x1), none, some (.int x3), some (.long x4), none, some (.int x6), some (.int x7)] [] (hp D s l) (rt none (hp D (f_X12_cut_146 fu K7 n x1 x3 x4 x6 x7 s l).1 (f_X12_cut_146 fu K7 n x1 x3 x4 x6 x7 s l).2)) := by
  intro n
  induction n with
  | zero => intro x1 x3 x4 x6 x7 s l hk; exact hk.elim
  | succ n ih =>
    intro x1 x3 x4 x6 x7 s l hk
    generalize he : f_X12_cut_146 fu K7 (n + 1) x1 x3 x4 x6 x7 s l = res
    unfold f_X12_cut_146 at he
    unfold p_X12_cut_146 at hk
    refine r_iload rfl rfl ?_
    refine r_bipush_ (a := 21) rfl (by decide) ?_
    refine r_icmp_ge rfl (fun c_150 => ?_) (fun c_150 => ?_)
    · rw [if_pos c_150] at he
      replace hk := hk.1 c_150
      refine r_aload_n rfl rfl ?_
      refine r_iload rfl rfl ?_
      refine r_iload_n rfl rfl ?_
      refine r_iconst_ (a := 0) rfl (by decide) ?_
      refine r_lload rfl rfl ?_
      obtain ⟨hb13, hk⟩ := hk
      refine q_callV0 [_, _, _, _] _ rfl kY_X12_token kT_X12_token rfl rfl (Nat.le_of_ble_eq_true rfl) (Nat.le_of_ble_eq_true rfl) (cc_60 _) (s_X12_token hb13) (fun r h q => ?_)
      obtain ⟨rfl, rfl⟩ := q
      simp only [Option.toList, List.cons_append, List.nil_append]
      refine r_iload_n rfl rfl ?_
      refine r_iload_n rfl rfl ?_
      refine r_iadd rfl ?_
      refine r_istore_n rfl (Nat.le_of_ble_eq_true rfl) rfl ?_
      refine r_goto rfl ?_
      refine r_goto rfl ?_
      subst he
      exact r_weak (L1 := [some (.ref 60), some (.int (x1 + x3)), none, none, none, none, none, none]) ⟨rfl, rfl, trivial⟩ (hK7 _ _ _ hk)
    · rw [if_neg c_150] at he
      replace hk := hk.2 c_150
      refine r_aload_n rfl rfl ?_
      refine q_getfield rfl (cc_60 _) rfl ?_
      refine r_iload rfl rfl ?_
      obtain ⟨hb14, hk⟩ := hk
      refine q_lald rfl (cc_67 _) hb14 ?_
      refine r_lload rfl rfl ?_
      refine r_lcmp rfl ?_
      refine r_if_ne rfl (fun c_163 => ?_) (fun c_163 => ?_)
      · rw [if_neg c_163] at he
        replace hk := hk.2 c_163
        refine r_iinc (b := x7 + 1) rfl rfl rfl (Nat.le_of_ble_eq_true rfl) rfl ?_
        refine r_goto rfl ?_
        subst he
        exact r_weak (L1 := [some (.ref 60), some (.int x1), none, some (.int x3), some (.long x4), none, some (.int x6), some (.int (x7 + 1))]) ⟨rfl, rfl, rfl, rfl, rfl, rfl, trivial⟩ (ih _ _ _ _ _ _ _ hk)
      · rw [if_pos c_163] at he
        replace hk := hk.1 c_163
        refine r_bipush_ (a := 20) rfl (by decide) ?_
        refine r_iload rfl rfl ?_
        refine r_iadd rfl ?_
        refine r_istore rfl (Nat.le_of_ble_eq_true rfl) rfl ?_
        refine r_iinc (b := x7 + 1) rfl rfl rfl (Nat.le_of_ble_eq_true rfl) rfl ?_
        refine r_goto rfl ?_
        subst he
        exact r_weak (L1 := [some (.ref 60), some (.int x1), none, some (.int x3), some (.long x4), none, some (.int ((20 : Int32) + x7)), some (.int (x7 + 1))]) ⟨rfl, rfl, rfl, rfl, rfl, rfl, trivial⟩ (ih _ _ _ _ _ _ _ hk)

def f_X12_cut_85 (fu : Nat) (K7 : Int32 → fl_I → fl_L → fl_I × fl_L) : Nat → Int32 → Int32 → Int64 → fl_I → fl_L → fl_I × fl_L
  | 0, x1, x3, x4, s, l => (s, l)
  | n + 1, x1, x3, x4, s, l =>
    if ((f_X12_isLetter fu (f_X12_byteAt fu (x1 + x3) s l)) = 0) then if (x3 ≤ (8 : Int32)) then if ((8 : Int32) < x3) then K7 (x1 + x3) (f_X12_token fu (1 : Int32) x1 (0 : Int32) x4 s l).1 (f_X12_token fu (1 : Int32) x1 (0 : Int32) x4 s l).2 else f_X12_cut_146 fu K7 fu x1 x3 x4 (1 : Int32) (0 : Int32) s l else if ((8 : Int32) < x3) then K7 (x1 + x3) (f_X12_token fu (3 : Int32) x1 (0 : Int32) x4 s l).1 (f_X12_token fu (3 : Int32) x1 (0 : Int32) x4 s l).2 else f_X12_cut_146 fu K7 fu x1 x3 x4 (3 : Int32) (0 : Int32) s l else if ((8 : Int32) ≤ x3) then f_X12_cut_85 fu K7 n x1 (x3 + 1) x4 s l else f_X12_cut_85 fu K7 n x1 (x3 + 1) (f_X12_appends fu x4 (f_X12_byteAt fu (x1 + x3) s l)) s l

def p_X12_cut_85 (fu : Nat) (P7 : Int32 → fl_I → fl_L → Prop) : Nat → Int32 → Int32 → Int64 → fl_I → fl_L → Prop
  | 0, _, _, _, _, _ => False
  | n + 1, x1, x3, x4, s, l =>
    (p_X12_byteAt fu (x1 + x3) s l) ∧ (p_X12_isLetter fu (f_X12_byteAt fu (x1 + x3) s l)) ∧ ((((f_X12_isLetter fu (f_X12_byteAt fu (x1 + x3) s l)) = 0) → (((x3 ≤ (8 : Int32)) → ((((8 : Int32) < x3) → (p_X12_token fu (1 : Int32) x1 (0 : Int32) x4 s l) ∧ P7 (x1 + x3) (f_X12_token fu (1 : Int32) x1 (0 : Int32) x4 s l).1 (f_X12_token fu (1 : Int32) x1 (0 : Int32) x4 s l).2) ∧ (¬ ((8 : Int32) < x3) → p_X12_cut_146 fu P7 fu x1 x3 x4 (1 : Int32) (0 : Int32) s l))) ∧ (¬ (x3 ≤ (8 : Int32)) → ((((8 : Int32) < x3) → (p_X12_token fu (3 : Int32) x1 (0 : Int32) x4 s l) ∧ P7 (x1 + x3) (f_X12_token fu (3 : Int32) x1 (0 : Int32) x4 s l).1 (f_X12_token fu (3 : Int32) x1 (0 : Int32) x4 s l).2) ∧ (¬ ((8 : Int32) < x3) → p_X12_cut_146 fu P7 fu x1 x3 x4 (3 : Int32) (0 : Int32) s l))))) ∧ (¬ ((f_X12_isLetter fu (f_X12_byteAt fu (x1 + x3) s l)) = 0) → ((((8 : Int32) ≤ x3) → p_X12_cut_85 fu P7 n x1 (x3 + 1) x4 s l) ∧ (¬ ((8 : Int32) ≤ x3) → (p_X12_byteAt fu (x1 + x3) s l) ∧ (p_X12_appends fu x4 (f_X12_byteAt fu (x1 + x3) s l)) ∧ p_X12_cut_85 fu P7 n x1 (x3 + 1) (f_X12_appends fu x4 (f_X12_byteAt fu (x1 + x3) s l)) s l))))

set_option maxRecDepth 100000 in
set_option maxHeartbeats 1000000 in
theorem lp_X12_cut_85 {G : ab_G} {fu : Nat} {d : Nat} {D : fl_D} (K7 : Int32 → fl_I → fl_L → fl_I × fl_L) (P7 : Int32 → fl_I → fl_L → Prop) (hK7 : ∀ (x1 : Int32) (s : fl_I) (l : fl_L), P7 x1 s l → ab_C G (d + 2) 0 0 M_X12_cut 7 [some (.ref 60), some (.int x1), none, none, none, none, none, none] [] (hp D s l) (rt none (hp D (K7 x1 s l).1 (K7 x1 s l).2))) : ∀ (n : Nat) (x1 : Int32) (x3 : Int32) (x4 : Int64) (s : fl_I) (l : fl_L), p_X12_cut_85 fu P7 n x1 x3 x4 s l → ab_C G (d + 2) 0 0 M_X12_cut 85 [some (.ref 60), some (.int x1), none, some (.int x3), some (.long x4), none, none, none] [] (hp D s l) (rt none (hp D (f_X12_cut_85 fu K7 n x1 x3 x4 s l).1 (f_X12_cut_85 fu K7 n x1 x3 x4 s l).2)) := by
  intro n
  induction n with
  | zero => intro x1 x3 x4 s l hk; exact hk.elim
  | succ n ih =>
    intro x1 x3 x4 s l hk
    generalize he : f_X12_cut_85 fu K7 (n + 1) x1 x3 x4 s l = res
    unfold f_X12_cut_85 at he
    unfold p_X12_cut_85 at hk
    refine r_aload_n rfl rfl ?_
    refine r_iload_n rfl rfl ?_
    refine r_iload_n rfl rfl ?_
    refine r_iadd rfl ?_
    obtain ⟨hb10, hk⟩ := hk
    refine q_callV0 [_] _ rfl kY_X12_byteAt kT_X12_byteAt rfl rfl (Nat.le_of_ble_eq_true rfl) (Nat.le_of_ble_eq_true rfl) (cc_60 _) (s_X12_byteAt hb10) (fun r h q => ?_)
    obtain ⟨rfl, rfl⟩ := q
    simp only [Option.toList, List.cons_append, List.nil_append]
    obtain ⟨hb11, hk⟩ := hk
    refine r_callS0 [_] _ rfl kY_X12_isLetter kT_X12_isLetter rfl rfl (Nat.le_of_ble_eq_true rfl) (Nat.le_of_ble_eq_true rfl) (s_X12_isLetter hb11) (fun r h q => ?_)
    obtain ⟨rfl, rfl⟩ := q
    simp only [Option.toList, List.cons_append, List.nil_append]
    refine r_if_eq rfl (fun c_95 => ?_) (fun c_95 => ?_)
    · rw [if_pos c_95] at he
      replace hk := hk.1 c_95
      refine r_iload_n rfl rfl ?_
      refine r_bipush_ (a := 8) rfl (by decide) ?_
      refine r_icmp_le rfl (fun c_127 => ?_) (fun c_127 => ?_)
      · rw [if_pos c_127] at he
        replace hk := hk.1 c_127
        refine r_iconst_ (a := 1) rfl (by decide) ?_
        refine r_istore rfl (Nat.le_of_ble_eq_true rfl) rfl ?_
        refine r_iload_n rfl rfl ?_
        refine r_bipush_ (a := 8) rfl (by decide) ?_
        refine r_icmp_gt rfl (fun c_140 => ?_) (fun c_140 => ?_)
        · rw [if_pos c_140] at he
          replace hk := hk.1 c_140
          refine r_aload_n rfl rfl ?_
          refine r_iload rfl rfl ?_
          refine r_iload_n rfl rfl ?_
          refine r_iconst_ (a := 0) rfl (by decide) ?_
          refine r_lload rfl rfl ?_
          obtain ⟨hb12, hk⟩ := hk
          refine q_callV0 [_, _, _, _] _ rfl kY_X12_token kT_X12_token rfl rfl (Nat.le_of_ble_eq_true rfl) (Nat.le_of_ble_eq_true rfl) (cc_60 _) (s_X12_token hb12) (fun r h q => ?_)
          obtain ⟨rfl, rfl⟩ := q
          simp only [Option.toList, List.cons_append, List.nil_append]
          refine r_iload_n rfl rfl ?_
          refine r_iload_n rfl rfl ?_
          refine r_iadd rfl ?_
          refine r_istore_n rfl (Nat.le_of_ble_eq_true rfl) rfl ?_
          refine r_goto rfl ?_
          refine r_goto rfl ?_
          subst he
          exact r_weak (L1 := [some (.ref 60), some (.int (x1 + x3)), none, none, none, none, none, none]) ⟨rfl, rfl, trivial⟩ (hK7 _ _ _ hk)
        · rw [if_neg c_140] at he
          replace hk := hk.2 c_140
          refine r_iconst_ (a := 0) rfl (by decide) ?_
          refine r_istore rfl (Nat.le_of_ble_eq_true rfl) rfl ?_
          subst he
          exact r_weak (L1 := [some (.ref 60), some (.int x1), none, some (.int x3), some (.long x4), none, some (.int (1 : Int32)), some (.int (0 : Int32))]) ⟨rfl, rfl, rfl, rfl, rfl, rfl, trivial⟩ (lp_X12_cut_146 _ _ hK7 fu _ _ _ _ _ _ _ hk)
      · rw [if_neg c_127] at he
        replace hk := hk.2 c_127
        refine r_iconst_ (a := 3) rfl (by decide) ?_
        refine r_goto rfl ?_
        refine r_istore rfl (Nat.le_of_ble_eq_true rfl) rfl ?_
        refine r_iload_n rfl rfl ?_
        refine r_bipush_ (a := 8) rfl (by decide) ?_
        refine r_icmp_gt rfl (fun c_140 => ?_) (fun c_140 => ?_)
        · rw [if_pos c_140] at he
          replace hk := hk.1 c_140
          refine r_aload_n rfl rfl ?_
          refine r_iload rfl rfl ?_
          refine r_iload_n rfl rfl ?_
          refine r_iconst_ (a := 0) rfl (by decide) ?_
          refine r_lload rfl rfl ?_
          obtain ⟨hb15, hk⟩ := hk
          refine q_callV0 [_, _, _, _] _ rfl kY_X12_token kT_X12_token rfl rfl (Nat.le_of_ble_eq_true rfl) (Nat.le_of_ble_eq_true rfl) (cc_60 _) (s_X12_token hb15) (fun r h q => ?_)
          obtain ⟨rfl, rfl⟩ := q
          simp only [Option.toList, List.cons_append, List.nil_append]
          refine r_iload_n rfl rfl ?_
          refine r_iload_n rfl rfl ?_
          refine r_iadd rfl ?_
          refine r_istore_n rfl (Nat.le_of_ble_eq_true rfl) rfl ?_
          refine r_goto rfl ?_
          refine r_goto rfl ?_
          subst he
          exact r_weak (L1 := [some (.ref 60), some (.int (x1 + x3)), none, none, none, none, none, none]) ⟨rfl, rfl, trivial⟩ (hK7 _ _ _ hk)
        · rw [if_neg c_140] at he
          replace hk := hk.2 c_140
          refine r_iconst_ (a := 0) rfl (by decide) ?_
          refine r_istore rfl (Nat.le_of_ble_eq_true rfl) rfl ?_
          subst he
          exact r_weak (L1 := [some (.ref 60), some (.int x1), none, some (.int x3), some (.long x4), none, some (.int (3 : Int32)), some (.int (0 : Int32))]) ⟨rfl, rfl, rfl, rfl, rfl, rfl, trivial⟩ (lp_X12_cut_146 _ _ hK7 fu _ _ _ _ _ _ _ hk)
    · rw [if_neg c_95] at he
      replace hk := hk.2 c_95
      refine r_iload_n rfl rfl ?_
      refine r_bipush_ (a := 8) rfl (by decide) ?_
      refine r_icmp_ge rfl (fun c_101 => ?_) (fun c_101 => ?_)
      · rw [if_pos c_101] at he
        replace hk := hk.1 c_101
        refine r_iinc (b := x3 + 1) rfl rfl rfl (Nat.le_of_ble_eq_true rfl) rfl ?_
        refine r_goto rfl ?_
        subst he
        exact r_weak (L1 := [some (.ref 60), some (.int x1), none, some (.int (x3 + 1)), some (.long x4), none, none, none]) ⟨rfl, rfl, rfl, rfl, trivial⟩ (ih _ _ _ _ _ hk)
      · rw [if_neg c_101] at he
        replace hk := hk.2 c_101
        refine r_lload rfl rfl ?_
        refine r_aload_n rfl rfl ?_
        refine r_iload_n rfl rfl ?_
        refine r_iload_n rfl rfl ?_
        refine r_iadd rfl ?_
        obtain ⟨hb16, hk⟩ := hk
        refine q_callV0 [_] _ rfl kY_X12_byteAt kT_X12_byteAt rfl rfl (Nat.le_of_ble_eq_true rfl) (Nat.le_of_ble_eq_true rfl) (cc_60 _) (s_X12_byteAt hb16) (fun r h q => ?_)
        obtain ⟨rfl, rfl⟩ := q
        simp only [Option.toList, List.cons_append, List.nil_append]
        obtain ⟨hb17, hk⟩ := hk
        refine r_callS0 [_, _] _ rfl kY_X12_appends kT_X12_appends rfl rfl (Nat.le_of_ble_eq_true rfl) (Nat.le_of_ble_eq_true rfl) (s_X12_appends hb17) (fun r h q => ?_)
        obtain ⟨rfl, rfl⟩ := q
        simp only [Option.toList, List.cons_append, List.nil_append]
        refine r_lstore rfl (Nat.le_of_ble_eq_true rfl) rfl ?_
        refine r_iinc (b := x3 + 1) rfl rfl rfl (Nat.le_of_ble_eq_true rfl) rfl ?_
        refine r_goto rfl ?_
        subst he
        exact r_weak (L1 := [some (.ref 60), some (.int x1), none, some (.int (x3 + 1)), some (.long (f_X12_appends fu x4 (f_X12_byteAt fu (x1 + x3) s l))), none, none, none]) ⟨rfl, rfl, rfl, rfl, trivial⟩ (ih _ _ _ _ _ hk)

def f_X12_cut_7 (fu : Nat) : Nat → Int32 → fl_I → fl_L → fl_I × fl_L
  | 0, x1, s, l => (s, l)
  | n + 1, x1, s, l =>
    if ((400 : Int32) < (s 60 10)) then (s, l) else if (x1 < (s 60 4)) then if ((f_X12_byteAt fu x1 s l) = (9 : Int32)) then f_X12_cut_7 fu n (x1 + 1) s l else if ((f_X12_byteAt fu x1 s l) = (10 : Int32)) then f_X12_cut_7 fu n (x1 + 1) s l else if ((f_X12_byteAt fu x1 s l) = (13 : Int32)) then f_X12_cut_7 fu n (x1 + 1) s l else if ((f_X12_byteAt fu x1 s l) = (32 : Int32)) then f_X12_cut_7 fu n (x1 + 1) s l else if ((f_X12_isLetter fu (f_X12_byteAt fu x1 s l)) = 0) then if ((f_X12_isDigit fu (f_X12_byteAt fu x1 s l)) = 0) then f_X12_cut_7 fu n (x1 + (f_X12_sign fu x1 (f_X12_byteAt fu x1 s l) (f_X12_byteAt fu (x1 + (1 : Int32)) s l) s l).1) (f_X12_sign fu x1 (f_X12_byteAt fu x1 s l) (f_X12_byteAt fu (x1 + (1 : Int32)) s l) s l).2.1 (f_X12_sign fu x1 (f_X12_byteAt fu x1 s l) (f_X12_byteAt fu (x1 + (1 : Int32)) s l) s l).2.2 else f_X12_cut_208 fu (fun x1 s l => f_X12_cut_7 fu n x1 s l) fu x1 (0 : Int32) (0 : Int32) s l else f_X12_cut_85 fu (fun x1 s l => f_X12_cut_7 fu n x1 s l) fu x1 (0 : Int32) (0 : Int64) s l else ((f_X12_token fu (0 : Int32) (s 60 4) (0 : Int32) (0 : Int64) s l).1, (f_X12_token fu (0 : Int32) (s 60 4) (0 : Int32) (0 : Int64) s l).2)

def p_X12_cut_7 (fu : Nat) : Nat → Int32 → fl_I → fl_L → Prop
  | 0, _, _, _ => False
  | n + 1, x1, s, l =>
    ((((400 : Int32) < (s 60 10)) → True) ∧ (¬ ((400 : Int32) < (s 60 10)) → (p_X12_byteAt fu x1 s l) ∧ (((x1 < (s 60 4)) → ((((f_X12_byteAt fu x1 s l) = (9 : Int32)) → p_X12_cut_7 fu n (x1 + 1) s l) ∧ (¬ ((f_X12_byteAt fu x1 s l) = (9 : Int32)) → ((((f_X12_byteAt fu x1 s l) = (10 : Int32)) → p_X12_cut_7 fu n (x1 + 1) s l) ∧ (¬ ((f_X12_byteAt fu x1 s l) = (10 : Int32)) → ((((f_X12_byteAt fu x1 s l) = (13 : Int32)) → p_X12_cut_7 fu n (x1 + 1) s l) ∧ (¬ ((f_X12_byteAt fu x1 s l) = (13 : Int32)) → ((((f_X12_byteAt fu x1 s l) = (32 : Int32)) → p_X12_cut_7 fu n (x1 + 1) s l) ∧ (¬ ((f_X12_byteAt fu x1 s l) = (32 : Int32)) → (p_X12_isLetter fu (f_X12_byteAt fu x1 s l)) ∧ ((((f_X12_isLetter fu (f_X12_byteAt fu x1 s l)) = 0) → (p_X12_isDigit fu (f_X12_byteAt fu x1 s l)) ∧ ((((f_X12_isDigit fu (f_X12_byteAt fu x1 s l)) = 0) → (p_X12_byteAt fu (x1 + (1 : Int32)) s l) ∧ (p_X12_sign fu x1 (f_X12_byteAt fu x1 s l) (f_X12_byteAt fu (x1 + (1 : Int32)) s l) s l) ∧ p_X12_cut_7 fu n (x1 + (f_X12_sign fu x1 (f_X12_byteAt fu x1 s l) (f_X12_byteAt fu (x1 + (1 : Int32)) s l) s l).1) (f_X12_sign fu x1 (f_X12_byteAt fu x1 s l) (f_X12_byteAt fu (x1 + (1 : Int32)) s l) s l).2.1 (f_X12_sign fu x1 (f_X12_byteAt fu x1 s l) (f_X12_byteAt fu (x1 + (1 : Int32)) s l) s l).2.2) ∧ (¬ ((f_X12_isDigit fu (f_X12_byteAt fu x1 s l)) = 0) → p_X12_cut_208 fu (fun x1 s l => p_X12_cut_7 fu n x1 s l) fu x1 (0 : Int32) (0 : Int32) s l))) ∧ (¬ ((f_X12_isLetter fu (f_X12_byteAt fu x1 s l)) = 0) → p_X12_cut_85 fu (fun x1 s l => p_X12_cut_7 fu n x1 s l) fu x1 (0 : Int32) (0 : Int64) s l))))))))))) ∧ (¬ (x1 < (s 60 4)) → (p_X12_token fu (0 : Int32) (s 60 4) (0 : Int32) (0 : Int64) s l) ∧ True))))

set_option maxRecDepth 100000 in
set_option maxHeartbeats 1000000 in
theorem lp_X12_cut_7 {G : ab_G} {fu : Nat} {d : Nat} {D : fl_D} : ∀ (n : Nat) (x1 : Int32) (s : fl_I) (l : fl_L), p_X12_cut_7 fu n x1 s l → ab_C G (d + 2) 0 0 M_X12_cut 7 [some (.ref 60), some (.int x1), none, none, none, none, none, none] [] (hp D s l) (rt none (hp D (f_X12_cut_7 fu n x1 s l).1 (f_X12_cut_7 fu n x1 s l).2)) := by
  intro n
  induction n with
  | zero => intro x1 s l hk; exact hk.elim
  | succ n ih =>
    intro x1 s l hk
    generalize he : f_X12_cut_7 fu (n + 1) x1 s l = res
    unfold f_X12_cut_7 at he
    unfold p_X12_cut_7 at hk
    refine r_aload_n rfl rfl ?_
    refine q_getfield rfl (cc_60 _) rfl ?_
    refine r_sipush_ (a := 400) rfl (by decide) ?_
    refine r_icmp_gt rfl (fun c_14 => ?_) (fun c_14 => ?_)
    · rw [if_pos c_14] at he
      replace hk := hk.1 c_14
      refine r_ret rfl rfl ?_
      first | with_reducible exact fin_v he | exact fin_v he
    · rw [if_neg c_14] at he
      replace hk := hk.2 c_14
      refine r_aload_n rfl rfl ?_
      refine r_iload_n rfl rfl ?_
      obtain ⟨hb0, hk⟩ := hk
      refine q_callV0 [_] _ rfl kY_X12_byteAt kT_X12_byteAt rfl rfl (Nat.le_of_ble_eq_true rfl) (Nat.le_of_ble_eq_true rfl) (cc_60 _) (s_X12_byteAt hb0) (fun r h q => ?_)
      obtain ⟨rfl, rfl⟩ := q
      simp only [Option.toList, List.cons_append, List.nil_append]
      refine r_istore_n rfl (Nat.le_of_ble_eq_true rfl) rfl ?_
      refine r_iload_n rfl rfl ?_
      refine r_aload_n rfl rfl ?_
      refine q_getfield rfl (cc_60 _) rfl ?_
      refine r_icmp_lt rfl (fun c_28 => ?_) (fun c_28 => ?_)
      · rw [if_pos c_28] at he
        replace hk := hk.1 c_28
        refine r_iload_n rfl rfl ?_
        refine r_bipush_ (a := 9) rfl (by decide) ?_
        refine r_icmp_eq rfl (fun c_46 => ?_) (fun c_46 => ?_)
        · rw [if_pos c_46] at he
          replace hk := hk.1 c_46
          refine r_iinc (b := x1 + 1) rfl rfl rfl (Nat.le_of_ble_eq_true rfl) rfl ?_
          refine r_goto rfl ?_
          refine r_goto rfl ?_
          subst he
          exact r_weak (L1 := [some (.ref 60), some (.int (x1 + 1)), none, none, none, none, none, none]) ⟨rfl, rfl, trivial⟩ (ih _ _ _ hk)
        · rw [if_neg c_46] at he
          replace hk := hk.2 c_46
          refine r_iload_n rfl rfl ?_
          refine r_bipush_ (a := 10) rfl (by decide) ?_
          refine r_icmp_eq rfl (fun c_52 => ?_) (fun c_52 => ?_)
          · rw [if_pos c_52] at he
            replace hk := hk.1 c_52
            refine r_iinc (b := x1 + 1) rfl rfl rfl (Nat.le_of_ble_eq_true rfl) rfl ?_
            refine r_goto rfl ?_
            refine r_goto rfl ?_
            subst he
            exact r_weak (L1 := [some (.ref 60), some (.int (x1 + 1)), none, none, none, none, none, none]) ⟨rfl, rfl, trivial⟩ (ih _ _ _ hk)
          · rw [if_neg c_52] at he
            replace hk := hk.2 c_52
            refine r_iload_n rfl rfl ?_
            refine r_bipush_ (a := 13) rfl (by decide) ?_
            refine r_icmp_eq rfl (fun c_58 => ?_) (fun c_58 => ?_)
            · rw [if_pos c_58] at he
              replace hk := hk.1 c_58
              refine r_iinc (b := x1 + 1) rfl rfl rfl (Nat.le_of_ble_eq_true rfl) rfl ?_
              refine r_goto rfl ?_
              refine r_goto rfl ?_
              subst he
              exact r_weak (L1 := [some (.ref 60), some (.int (x1 + 1)), none, none, none, none, none, none]) ⟨rfl, rfl, trivial⟩ (ih _ _ _ hk)
            · rw [if_neg c_58] at he
              replace hk := hk.2 c_58
              refine r_iload_n rfl rfl ?_
              refine r_bipush_ (a := 32) rfl (by decide) ?_
              refine r_icmp_ne rfl (fun c_64 => ?_) (fun c_64 => ?_)
              · rw [if_neg c_64] at he
                replace hk := hk.2 c_64
                refine r_iload_n rfl rfl ?_
                obtain ⟨hb1, hk⟩ := hk
                refine r_callS0 [_] _ rfl kY_X12_isLetter kT_X12_isLetter rfl rfl (Nat.le_of_ble_eq_true rfl) (Nat.le_of_ble_eq_true rfl) (s_X12_isLetter hb1) (fun r h q => ?_)
                obtain ⟨rfl, rfl⟩ := q
                simp only [Option.toList, List.cons_append, List.nil_append]
                refine r_if_eq rfl (fun c_77 => ?_) (fun c_77 => ?_)
                · rw [if_pos c_77] at he
                  replace hk := hk.1 c_77
                  refine r_iload_n rfl rfl ?_
                  obtain ⟨hb2, hk⟩ := hk
                  refine r_callS0 [_] _ rfl kY_X12_isDigit kT_X12_isDigit rfl rfl (Nat.le_of_ble_eq_true rfl) (Nat.le_of_ble_eq_true rfl) (s_X12_isDigit hb2) (fun r h q => ?_)
                  obtain ⟨rfl, rfl⟩ := q
                  simp only [Option.toList, List.cons_append, List.nil_append]
                  refine r_if_eq rfl (fun c_200 => ?_) (fun c_200 => ?_)
                  · rw [if_pos c_200] at he
                    replace hk := hk.1 c_200
                    refine r_iload_n rfl rfl ?_
                    refine r_aload_n rfl rfl ?_
                    refine r_iload_n rfl rfl ?_
                    refine r_iload_n rfl rfl ?_
                    refine r_aload_n rfl rfl ?_
                    refine r_iload_n rfl rfl ?_
                    refine r_iconst_ (a := 1) rfl (by decide) ?_
                    refine r_iadd rfl ?_
                    obtain ⟨hb3, hk⟩ := hk
                    refine q_callV0 [_] _ rfl kY_X12_byteAt kT_X12_byteAt rfl rfl (Nat.le_of_ble_eq_true rfl) (Nat.le_of_ble_eq_true rfl) (cc_60 _) (s_X12_byteAt hb3) (fun r h q => ?_)
                    obtain ⟨rfl, rfl⟩ := q
                    simp only [Option.toList, List.cons_append, List.nil_append]
                    obtain ⟨hb4, hk⟩ := hk
                    refine q_callV0 [_, _, _] _ rfl kY_X12_sign kT_X12_sign rfl rfl (Nat.le_of_ble_eq_true rfl) (Nat.le_of_ble_eq_true rfl) (cc_60 _) (s_X12_sign hb4) (fun r h q => ?_)
                    obtain ⟨rfl, rfl⟩ := q
                    simp only [Option.toList, List.cons_append, List.nil_append]
                    refine r_iadd rfl ?_
                    refine r_istore_n rfl (Nat.le_of_ble_eq_true rfl) rfl ?_
                    refine r_goto rfl ?_
                    subst he
                    exact r_weak (L1 := [some (.ref 60), some (.int (x1 + (f_X12_sign fu x1 (f_X12_byteAt fu x1 s l) (f_X12_byteAt fu (x1 + (1 : Int32)) s l) s l).1)), none, none, none, none, none, none]) ⟨rfl, rfl, trivial⟩ (ih _ _ _ hk)
                  · rw [if_neg c_200] at he
                    replace hk := hk.2 c_200
                    refine r_iconst_ (a := 0) rfl (by decide) ?_
                    refine r_istore_n rfl (Nat.le_of_ble_eq_true rfl) rfl ?_
                    refine r_iconst_ (a := 0) rfl (by decide) ?_
                    refine r_istore rfl (Nat.le_of_ble_eq_true rfl) rfl ?_
                    subst he
                    exact r_weak (L1 := [some (.ref 60), some (.int x1), none, some (.int (0 : Int32)), some (.int (0 : Int32)), none, none, none]) ⟨rfl, rfl, rfl, rfl, trivial⟩ (lp_X12_cut_208 _ _ (fun _ _ _ h9 => ih _ _ _ h9) fu _ _ _ _ _ hk)
                · rw [if_neg c_77] at he
                  replace hk := hk.2 c_77
                  refine r_iconst_ (a := 0) rfl (by decide) ?_
                  refine r_istore_n rfl (Nat.le_of_ble_eq_true rfl) rfl ?_
                  refine r_lconst (a := 0) rfl (by decide) ?_
                  refine r_lstore rfl (Nat.le_of_ble_eq_true rfl) rfl ?_
                  subst he
                  exact r_weak (L1 := [some (.ref 60), some (.int x1), none, some (.int (0 : Int32)), some (.long (0 : Int64)), none, none, none]) ⟨rfl, rfl, rfl, rfl, trivial⟩ (lp_X12_cut_85 _ _ (fun _ _ _ h9 => ih _ _ _ h9) fu _ _ _ _ _ hk)
              · rw [if_pos c_64] at he
                replace hk := hk.1 c_64
                refine r_iinc (b := x1 + 1) rfl rfl rfl (Nat.le_of_ble_eq_true rfl) rfl ?_
                refine r_goto rfl ?_
                refine r_goto rfl ?_
                subst he
                exact r_weak (L1 := [some (.ref 60), some (.int (x1 + 1)), none, none, none, none, none, none]) ⟨rfl, rfl, trivial⟩ (ih _ _ _ hk)
      · rw [if_neg c_28] at he
        replace hk := hk.2 c_28
        refine r_aload_n rfl rfl ?_
        refine r_iconst_ (a := 0) rfl (by decide) ?_
        refine r_aload_n rfl rfl ?_
        refine q_getfield rfl (cc_60 _) rfl ?_
        refine r_iconst_ (a := 0) rfl (by decide) ?_
        refine r_lconst (a := 0) rfl (by decide) ?_
        obtain ⟨hb18, hk⟩ := hk
        refine q_callV0 [_, _, _, _] _ rfl kY_X12_token kT_X12_token rfl rfl (Nat.le_of_ble_eq_true rfl) (Nat.le_of_ble_eq_true rfl) (cc_60 _) (s_X12_token hb18) (fun r h q => ?_)
        obtain ⟨rfl, rfl⟩ := q
        simp only [Option.toList, List.cons_append, List.nil_append]
        refine r_ret rfl rfl ?_
        first | with_reducible exact fin_v he | exact fin_v he

def f_X12_cut (fu : Nat) (s : fl_I) (l : fl_L) : fl_I × fl_L :=
  f_X12_cut_7 fu fu (0 : Int32) (wi s 60 10 (0 : Int32)) l

def p_X12_cut (fu : Nat) (s : fl_I) (l : fl_L) : Prop :=
  p_X12_cut_7 fu fu (0 : Int32) (wi s 60 10 (0 : Int32)) l

set_option maxRecDepth 100000 in
set_option maxHeartbeats 1000000 in
theorem s_X12_cut {G : ab_G} {fu : Nat} {d : Nat} {D : fl_D} {s : fl_I} {l : fl_L}  (hk : p_X12_cut fu s l) : ab_C G (d + 2) 0 0 M_X12_cut 0 (ab_ent [.ref 60]) [] (hp D s l) (rt none (hp D (f_X12_cut fu s l).1 (f_X12_cut fu s l).2)) := by
  generalize he : (f_X12_cut fu s l) = res
  unfold f_X12_cut at he
  unfold p_X12_cut at hk
  refine r_weak (L1 := [some (.ref 60), none, none, none, none, none, none, none]) ⟨rfl, trivial⟩ ?_
  refine r_aload_n rfl rfl ?_
  refine r_iconst_ (a := 0) rfl (by decide) ?_
  refine w_put rfl (cc_60 _) ff_12_10 ft_12_10 (fun _ _ => (Nat.le_of_ble_eq_true rfl)) (fun _ _ => rfl) ?_
  refine r_iconst_ (a := 0) rfl (by decide) ?_
  refine r_istore_n rfl (Nat.le_of_ble_eq_true rfl) rfl ?_
  subst he
  exact r_weak (L1 := [some (.ref 60), some (.int (0 : Int32)), none, none, none, none, none, none]) ⟨rfl, rfl, trivial⟩ (lp_X12_cut_7 fu _ _ _ hk)

