def f_X8_fillFrom_43 (fu : Nat) (K33 : Int32 → fl_I → fl_L → fl_I × fl_L) : Nat → Int32 → Int32 → fl_D → fl_I → fl_L → fl_I × fl_L
  | 0, x1, x2, D, s, l => (s, l)
  | n + 1, x1, x2, D, s, l =>
    if ((s 51 0) ≤ x2) then K33 (x1 + 1) s l else if (((x1 >>> (x2 &&& 31)) &&& (1 : Int32)) = (1 : Int32)) then f_X8_fillFrom_43 fu K33 n x1 (x2 + 1) D (wi s D.2.2.2.1 (f_X8_index fu x1 x2).toNatClampNeg (f_X8_fewest fu (s 52 x2.toNatClampNeg) (x1 &&& (((1 : Int32) <<< (x2 &&& 31)) ^^^ (-1 : Int32))) D s l)) l else f_X8_fillFrom_43 fu K33 n x1 (x2 + 1) D s l

def p_X8_fillFrom_43 (fu : Nat) (P33 : Int32 → fl_I → fl_L → Prop) : Nat → Int32 → Int32 → fl_D → fl_I → fl_L → Prop
  | 0, _, _, _, _, _ => False
  | n + 1, x1, x2, D, s, l =>
    ((((s 51 0) ≤ x2) → P33 (x1 + 1) s l) ∧ (¬ ((s 51 0) ≤ x2) → (((((x1 >>> (x2 &&& 31)) &&& (1 : Int32)) = (1 : Int32)) → (p_X8_index fu x1 x2) ∧ (vp_in x2 10) ∧ (p_X8_fewest fu (s 52 x2.toNatClampNeg) (x1 &&& (((1 : Int32) <<< (x2 &&& 31)) ^^^ (-1 : Int32))) D s l) ∧ (vp_in (f_X8_index fu x1 x2) 10240) ∧ p_X8_fillFrom_43 fu P33 n x1 (x2 + 1) D (wi s D.2.2.2.1 (f_X8_index fu x1 x2).toNatClampNeg (f_X8_fewest fu (s 52 x2.toNatClampNeg) (x1 &&& (((1 : Int32) <<< (x2 &&& 31)) ^^^ (-1 : Int32))) D s l)) l) ∧ (¬ (((x1 >>> (x2 &&& 31)) &&& (1 : Int32)) = (1 : Int32)) → p_X8_fillFrom_43 fu P33 n x1 (x2 + 1) D s l))))

set_option maxRecDepth 100000 in
set_option maxHeartbeats 1000000 in
theorem lp_X8_fillFrom_43 {G : ab_G} {fu : Nat} {d : Nat} {D : fl_D} (hfr : ∀ f g, cl D D.2.2.2.1 f g = some (.inl (0, 10240, .inl f))) (K33 : Int32 → fl_I → fl_L → fl_I × fl_L) (P33 : Int32 → fl_I → fl_L → Prop) (hK33 : ∀ (x1 : Int32) (s : fl_I) (l : fl_L), P33 x1 s l → ab_C G (d + 2) 0 0 M_X8_fillFrom 33 [some (.ref 51), some (.int x1), none] [] (hp D s l) (rt none (hp D (K33 x1 s l).1 (K33 x1 s l).2))) : ∀ (n : Nat) (x1 : Int32) (x2 : Int32) (s : fl_I) (l : fl_L), p_X8_fillFrom_43 fu P33 n x1 x2 D s l → ab_C G (d + 2) 0 0 M_X8_fillFrom 43 [some (.ref 51), some (.int x1), some (.int x2)] [] (hp D s l) (rt none (hp D (f_X8_fillFrom_43 fu K33 n x1 x2 D s l).1 (f_X8_fillFrom_43 fu K33 n x1 x2 D s l).2)) := by
  intro n
  induction n with
  | zero => intro x1 x2 s l hk; exact hk.elim
  | succ n ih =>
    intro x1 x2 s l hk
    generalize he : f_X8_fillFrom_43 fu K33 (n + 1) x1 x2 D s l = res
    unfold f_X8_fillFrom_43 at he
    unfold p_X8_fillFrom_43 at hk
    refine r_iload_n rfl rfl ?_
    refine r_aload_n rfl rfl ?_
    refine q_getfield rfl (cc_51 _) rfl ?_
    refine r_icmp_ge rfl (fun c_48 => ?_) (fun c_48 => ?_)
    · rw [if_pos c_48] at he
      replace hk := hk.1 c_48
      refine r_iinc (b := x1 + 1) rfl rfl rfl (Nat.le_of_ble_eq_true rfl) rfl ?_
      refine r_goto rfl ?_
      subst he
      exact r_weak (L1 := [some (.ref 51), some (.int (x1 + 1)), none]) ⟨rfl, rfl, trivial⟩ (hK33 _ _ _ hk)
    · rw [if_neg c_48] at he
      replace hk := hk.2 c_48
      refine r_iload_n rfl rfl ?_
      refine r_iload_n rfl rfl ?_
      refine r_ishr rfl ?_
      refine r_iconst_ (a := 1) rfl (by decide) ?_
      refine r_iand rfl ?_
      refine r_iconst_ (a := 1) rfl (by decide) ?_
      refine r_icmp_ne rfl (fun c_57 => ?_) (fun c_57 => ?_)
      · rw [if_neg c_57] at he
        replace hk := hk.2 c_57
        refine r_iinc (b := x2 + 1) rfl rfl rfl (Nat.le_of_ble_eq_true rfl) rfl ?_
        refine r_goto rfl ?_
        subst he
        exact r_weak (L1 := [some (.ref 51), some (.int x1), some (.int (x2 + 1))]) ⟨rfl, rfl, rfl, trivial⟩ (ih _ _ _ _ hk)
      · rw [if_pos c_57] at he
        replace hk := hk.1 c_57
        refine r_aload_n rfl rfl ?_
        refine q_getfield rfl (cc_51 _) rfl ?_
        refine r_iload_n rfl rfl ?_
        refine r_iload_n rfl rfl ?_
        obtain ⟨hb1, hk⟩ := hk
        refine r_callS0 [_, _] _ rfl kY_X8_index kT_X8_index rfl rfl (Nat.le_of_ble_eq_true rfl) (Nat.le_of_ble_eq_true rfl) (s_X8_index hb1) (fun r h q => ?_)
        obtain ⟨rfl, rfl⟩ := q
        simp only [Option.toList, List.cons_append, List.nil_append]
        refine r_aload_n rfl rfl ?_
        refine r_aload_n rfl rfl ?_
        refine q_getfield rfl (cc_51 _) rfl ?_
        refine r_iload_n rfl rfl ?_
        obtain ⟨hb2, hk⟩ := hk
        refine q_iald rfl (cc_52 _) hb2 ?_
        refine r_iload_n rfl rfl ?_
        refine r_iconst_ (a := 1) rfl (by decide) ?_
        refine r_iload_n rfl rfl ?_
        refine r_ishl rfl ?_
        refine r_iconst_ (a := -1) rfl (by decide) ?_
        refine r_ixor rfl ?_
        refine r_iand rfl ?_
        obtain ⟨hb3, hk⟩ := hk
        refine q_callV0 [_, _] _ rfl kY_X8_fewest kT_X8_fewest rfl rfl (Nat.le_of_ble_eq_true rfl) (Nat.le_of_ble_eq_true rfl) (cc_51 _) (s_X8_fewest hfr hb3) (fun r h q => ?_)
        obtain ⟨rfl, rfl⟩ := q
        simp only [Option.toList, List.cons_append, List.nil_append]
        obtain ⟨hb4, hk⟩ := hk
        refine w_iast rfl hfr hb4 ?_
        refine r_iinc (b := x2 + 1) rfl rfl rfl (Nat.le_of_ble_eq_true rfl) rfl ?_
        refine r_goto rfl ?_
        subst he
        exact r_weak (L1 := [some (.ref 51), some (.int x1), some (.int (x2 + 1))]) ⟨rfl, rfl, rfl, trivial⟩ (ih _ _ _ _ hk)

def f_X8_fillFrom_33 (fu : Nat) : Nat → Int32 → fl_D → fl_I → fl_L → fl_I × fl_L
  | 0, x1, D, s, l => (s, l)
  | n + 1, x1, D, s, l =>
    if ((f_X8_all fu s l) < x1) then (s, l) else f_X8_fillFrom_43 fu (fun x1 s l => f_X8_fillFrom_33 fu n x1 D s l) fu x1 (0 : Int32) D s l

def p_X8_fillFrom_33 (fu : Nat) : Nat → Int32 → fl_D → fl_I → fl_L → Prop
  | 0, _, _, _, _ => False
  | n + 1, x1, D, s, l =>
    (p_X8_all fu s l) ∧ ((((f_X8_all fu s l) < x1) → True) ∧ (¬ ((f_X8_all fu s l) < x1) → p_X8_fillFrom_43 fu (fun x1 s l => p_X8_fillFrom_33 fu n x1 D s l) fu x1 (0 : Int32) D s l))

set_option maxRecDepth 100000 in
set_option maxHeartbeats 1000000 in
theorem lp_X8_fillFrom_33 {G : ab_G} {fu : Nat} {d : Nat} {D : fl_D} (hfr : ∀ f g, cl D D.2.2.2.1 f g = some (.inl (0, 10240, .inl f))) : ∀ (n : Nat) (x1 : Int32) (s : fl_I) (l : fl_L), p_X8_fillFrom_33 fu n x1 D s l → ab_C G (d + 2) 0 0 M_X8_fillFrom 33 [some (.ref 51), some (.int x1), none] [] (hp D s l) (rt none (hp D (f_X8_fillFrom_33 fu n x1 D s l).1 (f_X8_fillFrom_33 fu n x1 D s l).2)) := by
  intro n
  induction n with
  | zero => intro x1 s l hk; exact hk.elim
  | succ n ih =>
    intro x1 s l hk
    generalize he : f_X8_fillFrom_33 fu (n + 1) x1 D s l = res
    unfold f_X8_fillFrom_33 at he
    unfold p_X8_fillFrom_33 at hk
    refine r_iload_n rfl rfl ?_
    refine r_aload_n rfl rfl ?_
    obtain ⟨hb0, hk⟩ := hk
    refine q_callV0 [] _ rfl kY_X8_all kT_X8_all rfl rfl (Nat.le_of_ble_eq_true rfl) (Nat.le_of_ble_eq_true rfl) (cc_51 _) (s_X8_all hb0) (fun r h q => ?_)
    obtain ⟨rfl, rfl⟩ := q
    simp only [Option.toList, List.cons_append, List.nil_append]
    refine r_icmp_gt rfl (fun c_38 => ?_) (fun c_38 => ?_)
    · rw [if_pos c_38] at he
      replace hk := hk.1 c_38
      refine r_ret rfl rfl ?_
      first | with_reducible exact fin_v he | exact fin_v he
    · rw [if_neg c_38] at he
      replace hk := hk.2 c_38
      refine r_iconst_ (a := 0) rfl (by decide) ?_
      refine r_istore_n rfl (Nat.le_of_ble_eq_true rfl) rfl ?_
      subst he
      exact r_weak (L1 := [some (.ref 51), some (.int x1), some (.int (0 : Int32))]) ⟨rfl, rfl, rfl, trivial⟩ (lp_X8_fillFrom_43 hfr _ _ (fun _ _ _ h9 => ih _ _ _ h9) fu _ _ _ _ hk)

def f_X8_fillFrom (fu : Nat) (D : fl_D) (s : fl_I) (l : fl_L) : fl_I × fl_L :=
  f_X8_fillFrom_33 fu fu (1 : Int32) D s l

def p_X8_fillFrom (fu : Nat) (D : fl_D) (s : fl_I) (l : fl_L) : Prop :=
  p_X8_fillFrom_33 fu fu (1 : Int32) D s l

set_option maxRecDepth 100000 in
set_option maxHeartbeats 1000000 in
theorem s_X8_fillFrom {G : ab_G} {fu : Nat} {d : Nat} {D : fl_D} {s : fl_I} {l : fl_L} (hfr : ∀ f g, cl D D.2.2.2.1 f g = some (.inl (0, 10240, .inl f)))  (hk : p_X8_fillFrom fu D s l) : ab_C G (d + 2) 0 0 M_X8_fillFrom 31 [some (.ref 51), none, none] [] (hp D s l) (rt none (hp D (f_X8_fillFrom fu D s l).1 (f_X8_fillFrom fu D s l).2)) := by
  generalize he : (f_X8_fillFrom fu D s l) = res
  unfold f_X8_fillFrom at he
  unfold p_X8_fillFrom at hk
  refine r_weak (L1 := [some (.ref 51), none, none]) ⟨rfl, trivial⟩ ?_
  refine r_iconst_ (a := 1) rfl (by decide) ?_
  refine r_istore_n rfl (Nat.le_of_ble_eq_true rfl) rfl ?_
  subst he
  exact r_weak (L1 := [some (.ref 51), some (.int (1 : Int32)), none]) ⟨rfl, rfl, trivial⟩ (lp_X8_fillFrom_33 hfr fu _ _ _ hk)

