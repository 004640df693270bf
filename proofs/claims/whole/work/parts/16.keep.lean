def p_keep (_ : Nat) (_ : fl_D) (s : fl_I) (_ : fl_L) : Prop := vp_in (k_n s) 40
def p_bring (_ : Nat) (_ : fl_D) (s : fl_I) (_ : fl_L) : Prop := vp_in (s 43 2) 40
theorem fin_k {v : Int32} {D : fl_D} {s : fl_I} {l : fl_L} {res : Int32 × fl_D × fl_I × fl_L} (he : (v, D, s, l) = res) : rt (some (.int res.1)) (hp res.2.1 res.2.2.1 res.2.2.2) (some (.int v)) (hp D s l) := by subst he; exact ⟨rfl, rfl⟩
theorem q_callVk {G : ab_G} {d : Nat} {M : ab_M} {pc n x y : Nat} {cv : Value} {L : List (Option Value)} {st : List Value} {Q : Option Value → ab_H → Prop} {D : fl_D} {s : fl_I} {l : fl_L} {M1 : ab_M} {i b : Nat} {fl : (Nat → Int32) → (Nat → Int64) → List Value} {Q1 : Option Value → ab_H → Prop} (As rest : List Value) (ho : ab_op M pc = some (.invokevirtual i, n, x, y, cv, M1.1)) (okY : ab_okY M1) (okT : ab_okT M1) (hst : st = As.reverse ++ .ref b :: rest) (hn : As.length = M1.2.2.2.2.2.1) (hAs : (lg_sl (.ref b :: As)).length ≤ M1.2.2.1) (hrs : (rest.map fun v => v.category).sum ≤ 8)
    (hc : ∀ f g, cl D b f g = some (.inr (M1.2.2.2.2.1, fl f g))) (hC : ab_C G d 6 84 M1 0 (ab_ent (.ref b :: As)) [] (hp D s l) Q1) (kk : ∀ r h', Q1 r h' → ab_C G (d + 1) 0 0 M n L (r.toList ++ rest) h' Q) : ab_C G (d + 1) 6 84 M pc L st (hp D s l) Q :=
  r_callV (kc := 0) (ks := 0) (kc1 := 6) (ks1 := 84) As rest ho okY okT hst hn hAs hrs (hc (s b) (l b)) hC kk

def f_X11_undo (fu : Nat) (D : fl_D) (s : fl_I) (l : fl_L) : Int32 × fl_I × fl_L :=
  ((f_bring fu D s l).1, (f_bring fu D s l).2.1, (f_bring fu D s l).2.2)

def p_X11_undo (fu : Nat) (D : fl_D) (s : fl_I) (l : fl_L) : Prop :=
  (p_bring fu D s l) ∧ ((f_bring fu D s l).1 = 0 ∨ (f_bring fu D s l).1 = 1) ∧ True

set_option maxRecDepth 100000 in
set_option maxHeartbeats 1000000 in
theorem s_X11_undo {G : ab_G} {fu : Nat} {d : Nat} {D : fl_D} {s : fl_I} {l : fl_L}  (hpY : ∀ i p, D.2.2.2.2.1 i = some p → isY D p) (hk : p_X11_undo fu D s l) : ab_C G (d + 2) 0 0 M_X11_undo 0 (ab_ent [.ref 0]) [] (hp D s l) (rt (some (.int (f_X11_undo fu D s l).1)) (hp D (f_X11_undo fu D s l).2.1 (f_X11_undo fu D s l).2.2)) := by
  generalize he : (f_X11_undo fu D s l) = res
  unfold f_X11_undo at he
  unfold p_X11_undo at hk
  refine r_weak (L1 := [some (.ref 0)]) ⟨rfl, trivial⟩ ?_
  refine r_aload_n rfl rfl ?_
  refine q_getfield rfl (cc_0 _) rfl ?_
  refine r_aload_n rfl rfl ?_
  refine q_getfield rfl (cc_0 _) rfl ?_
  obtain ⟨hb0, hk⟩ := hk
  refine q_callV0 [_] _ rfl kY_X2_bringBack kT_X2_bringBack rfl rfl (Nat.le_of_ble_eq_true rfl) (Nat.le_of_ble_eq_true rfl) (cc_43 _) (s_bring (fu := fu) hpY hb0) (fun r h q => ?_)
  obtain ⟨rfl, rfl⟩ := q
  simp only [Option.toList, List.cons_append, List.nil_append]
  obtain ⟨hb1, hk⟩ := hk
  refine r_iret rfl rfl (nar_b hb1) ?_
  first | with_reducible exact fin_i he | exact fin_i he

def f_X11_drop (fu : Nat) (v0 : Int32) (D : fl_D) (s : fl_I) (l : fl_L) : Int32 × fl_D × fl_I × fl_L :=
  if ((f_X11_isPiece fu v0 s l) = 0) then ((0 : Int32), D, s, l) else if ((f_X10_isLying fu v0 31 s l) = 0) then ((1 : Int32), (f_keep fu D s l).1, (f_X10_layDown fu v0 31 (f_keep fu D s l).2.1 (f_keep fu D s l).2.2).1, (f_X10_layDown fu v0 31 (f_keep fu D s l).2.1 (f_keep fu D s l).2.2).2) else ((0 : Int32), D, s, l)

def p_X11_drop (fu : Nat) (v0 : Int32) (D : fl_D) (s : fl_I) (l : fl_L) : Prop :=
  (p_X11_isPiece fu v0 s l) ∧ ((((f_X11_isPiece fu v0 s l) = 0) → True) ∧ (¬ ((f_X11_isPiece fu v0 s l) = 0) → (p_X10_isLying fu v0 31 s l) ∧ ((((f_X10_isLying fu v0 31 s l) = 0) → (p_keep fu D s l) ∧ (p_X10_layDown fu v0 31 (f_keep fu D s l).2.1 (f_keep fu D s l).2.2) ∧ True) ∧ (¬ ((f_X10_isLying fu v0 31 s l) = 0) → True))))

set_option maxRecDepth 100000 in
set_option maxHeartbeats 1000000 in
theorem s_X11_drop {G : ab_G} {fu : Nat} {d : Nat} {D : fl_D} {s : fl_I} {l : fl_L} {v0 : Int32} (ok : fl_ok D) (hpY : ∀ i p, D.2.2.2.2.1 i = some p → isY D p) (hk : p_X11_drop fu v0 D s l) : ab_C G (d + 2) 6 84 M_X11_drop 0 (ab_ent [.ref 0, .int v0]) [] (hp D s l) (rt (some (.int (f_X11_drop fu v0 D s l).1)) (hp (f_X11_drop fu v0 D s l).2.1 (f_X11_drop fu v0 D s l).2.2.1 (f_X11_drop fu v0 D s l).2.2.2)) := by
  generalize he : (f_X11_drop fu v0 D s l) = res
  unfold f_X11_drop at he
  unfold p_X11_drop at hk
  refine r_weak (L1 := [some (.ref 0), some (.int v0)]) ⟨rfl, rfl, trivial⟩ ?_
  refine r_aload_n rfl rfl ?_
  refine r_iload_n rfl rfl ?_
  obtain ⟨hb0, hk⟩ := hk
  refine q_callV0 [_] _ rfl kY_X11_isPiece kT_X11_isPiece rfl rfl (Nat.le_of_ble_eq_true rfl) (Nat.le_of_ble_eq_true rfl) (cc_0 _) (s_X11_isPiece hb0) (fun r h q => ?_)
  obtain ⟨rfl, rfl⟩ := q
  simp only [Option.toList, List.cons_append, List.nil_append]
  refine r_if_eq rfl (fun c_5 => ?_) (fun c_5 => ?_)
  · rw [if_pos c_5] at he
    replace hk := hk.1 c_5
    refine r_iconst_ (a := 0) rfl (by decide) ?_
    refine r_iret rfl rfl rfl ?_
    first | with_reducible exact fin_k he | exact fin_k he
  · rw [if_neg c_5] at he
    replace hk := hk.2 c_5
    refine r_aload_n rfl rfl ?_
    refine q_getfield rfl (cc_0 _) rfl ?_
    refine r_iload_n rfl rfl ?_
    obtain ⟨hb1, hk⟩ := hk
    refine q_callV0 [_] _ rfl kY_X10_isLying kT_X10_isLying rfl rfl (Nat.le_of_ble_eq_true rfl) (Nat.le_of_ble_eq_true rfl) (cc_31 _) (s_X10_isLying (Or.inl rfl) hb1) (fun r h q => ?_)
    obtain ⟨rfl, rfl⟩ := q
    simp only [Option.toList, List.cons_append, List.nil_append]
    refine r_if_eq rfl (fun c_16 => ?_) (fun c_16 => ?_)
    · rw [if_pos c_16] at he
      replace hk := hk.1 c_16
      refine r_aload_n rfl rfl ?_
      refine q_getfield rfl (cc_0 _) rfl ?_
      refine r_aload_n rfl rfl ?_
      refine q_getfield rfl (cc_0 _) rfl ?_
      obtain ⟨hb2, hk⟩ := hk
      refine q_callVk [_] _ rfl kY_X2_keep kT_X2_keep rfl rfl (Nat.le_of_ble_eq_true rfl) (Nat.le_of_ble_eq_true rfl) (cc_43 _) (s_keep (fu := fu) ok hpY hb2) (fun r h q => ?_)
      obtain ⟨rfl, rfl⟩ := q
      simp only [Option.toList, List.cons_append, List.nil_append]
      refine r_aload_n rfl rfl ?_
      refine q_getfield rfl (cc_0 _) rfl ?_
      refine r_iload_n rfl rfl ?_
      obtain ⟨hb3, hk⟩ := hk
      refine q_callV0 [_] _ rfl kY_X10_layDown kT_X10_layDown rfl rfl (Nat.le_of_ble_eq_true rfl) (Nat.le_of_ble_eq_true rfl) (cc_31 _) (s_X10_layDown (Or.inl rfl) hb3) (fun r h q => ?_)
      obtain ⟨rfl, rfl⟩ := q
      simp only [Option.toList, List.cons_append, List.nil_append]
      refine r_iconst_ (a := 1) rfl (by decide) ?_
      refine r_iret rfl rfl rfl ?_
      first | with_reducible exact fin_k he | exact fin_k he
    · rw [if_neg c_16] at he
      replace hk := hk.2 c_16
      refine r_iconst_ (a := 0) rfl (by decide) ?_
      refine r_iret rfl rfl rfl ?_
      first | with_reducible exact fin_k he | exact fin_k he

def f_X11_hours (fu : Nat) (v0 : Int32) (D : fl_D) (s : fl_I) (l : fl_L) : Int32 × fl_D × fl_I × fl_L :=
  if (v0 < 0) then ((-1 : Int32), D, s, l) else if (v0 ≤ (40 : Int32)) then if (v0 ≤ 0) then ((s 31 0), D, s, l) else (((f_X9_goOn fu v0 ((f_keep fu D s l).2.1 (if (f_keep fu D s l).1.2.2.1 then 20 else 9) 18) (if (f_keep fu D s l).1.2.2.1 then 20 else 9) 31 (f_keep fu D s l).2.1 (f_keep fu D s l).2.2).1 31 0), (f_keep fu D s l).1, (f_X9_goOn fu v0 ((f_keep fu D s l).2.1 (if (f_keep fu D s l).1.2.2.1 then 20 else 9) 18) (if (f_keep fu D s l).1.2.2.1 then 20 else 9) 31 (f_keep fu D s l).2.1 (f_keep fu D s l).2.2).1, (f_X9_goOn fu v0 ((f_keep fu D s l).2.1 (if (f_keep fu D s l).1.2.2.1 then 20 else 9) 18) (if (f_keep fu D s l).1.2.2.1 then 20 else 9) 31 (f_keep fu D s l).2.1 (f_keep fu D s l).2.2).2) else ((-1 : Int32), D, s, l)

def p_X11_hours (fu : Nat) (v0 : Int32) (D : fl_D) (s : fl_I) (l : fl_L) : Prop :=
  (((v0 < 0) → True) ∧ (¬ (v0 < 0) → (((v0 ≤ (40 : Int32)) → (((v0 ≤ 0) → True) ∧ (¬ (v0 ≤ 0) → (p_keep fu D s l) ∧ (p_X9_goOn fu v0 ((f_keep fu D s l).2.1 (if (f_keep fu D s l).1.2.2.1 then 20 else 9) 18) (if (f_keep fu D s l).1.2.2.1 then 20 else 9) 31 (f_keep fu D s l).2.1 (f_keep fu D s l).2.2) ∧ True))) ∧ (¬ (v0 ≤ (40 : Int32)) → True))))

set_option maxRecDepth 100000 in
set_option maxHeartbeats 1000000 in
theorem s_X11_hours {G : ab_G} {fu : Nat} {d : Nat} {D : fl_D} {s : fl_I} {l : fl_L} {v0 : Int32} (ok : fl_ok D) (hpY : ∀ i p, D.2.2.2.2.1 i = some p → isY D p) (hk : p_X11_hours fu v0 D s l) : ab_C G (d + 5) 6 84 M_X11_hours 0 (ab_ent [.ref 0, .int v0]) [] (hp D s l) (rt (some (.int (f_X11_hours fu v0 D s l).1)) (hp (f_X11_hours fu v0 D s l).2.1 (f_X11_hours fu v0 D s l).2.2.1 (f_X11_hours fu v0 D s l).2.2.2)) := by
  generalize he : (f_X11_hours fu v0 D s l) = res
  unfold f_X11_hours at he
  unfold p_X11_hours at hk
  refine r_weak (L1 := [some (.ref 0), some (.int v0)]) ⟨rfl, rfl, trivial⟩ ?_
  refine r_iload_n rfl rfl ?_
  refine r_if_lt rfl (fun c_1 => ?_) (fun c_1 => ?_)
  · rw [if_pos c_1] at he
    replace hk := hk.1 c_1
    refine r_iconst_ (a := -1) rfl (by decide) ?_
    refine r_iret rfl rfl rfl ?_
    first | with_reducible exact fin_k he | exact fin_k he
  · rw [if_neg c_1] at he
    replace hk := hk.2 c_1
    refine r_iload_n rfl rfl ?_
    refine r_bipush_ (a := 40) rfl (by decide) ?_
    refine r_icmp_le rfl (fun c_7 => ?_) (fun c_7 => ?_)
    · rw [if_pos c_7] at he
      replace hk := hk.1 c_7
      refine r_iload_n rfl rfl ?_
      refine r_if_le rfl (fun c_13 => ?_) (fun c_13 => ?_)
      · rw [if_pos c_13] at he
        replace hk := hk.1 c_13
        refine r_aload_n rfl rfl ?_
        refine q_getfield rfl (cc_0 _) rfl ?_
        refine q_getfield rfl (cc_31 _) rfl ?_
        refine r_iret rfl rfl rfl ?_
        first | with_reducible exact fin_k he | exact fin_k he
      · rw [if_neg c_13] at he
        replace hk := hk.2 c_13
        refine r_aload_n rfl rfl ?_
        refine q_getfield rfl (cc_0 _) rfl ?_
        refine r_aload_n rfl rfl ?_
        refine q_getfield rfl (cc_0 _) rfl ?_
        obtain ⟨hb0, hk⟩ := hk
        refine q_callVk [_] _ rfl kY_X2_keep kT_X2_keep rfl rfl (Nat.le_of_ble_eq_true rfl) (Nat.le_of_ble_eq_true rfl) (cc_43 _) (s_keep (fu := fu) ok hpY hb0) (fun r h q => ?_)
        obtain ⟨rfl, rfl⟩ := q
        simp only [Option.toList, List.cons_append, List.nil_append]
        refine r_aload_n rfl rfl ?_
        refine q_getfield rfl (cc_0 _) rfl ?_
        refine r_aload_n rfl rfl ?_
        refine q_getfield rfl (cc_0 _) rfl ?_
        refine r_aload_n rfl rfl ?_
        refine q_getfield rfl (cc_0 _) rfl ?_
        refine r_iload_n rfl rfl ?_
        refine r_aload_n rfl rfl ?_
        refine q_getfield rfl (cc_0 _) rfl ?_
        refine q_getfield rfl (cT_0 (isT_l _)) rfl ?_
        obtain ⟨hb1, hk⟩ := hk
        refine q_callV0 [_, _, _, _] _ rfl kY_X9_goOn kT_X9_goOn rfl rfl (Nat.le_of_ble_eq_true rfl) (Nat.le_of_ble_eq_true rfl) (cc_46 _) (s_X9_goOn (isT_l _) (Or.inl rfl) hb1) (fun r h q => ?_)
        obtain ⟨rfl, rfl⟩ := q
        simp only [Option.toList, List.cons_append, List.nil_append]
        refine r_aload_n rfl rfl ?_
        refine q_getfield rfl (cc_0 _) rfl ?_
        refine q_getfield rfl (cc_31 _) rfl ?_
        refine r_iret rfl rfl rfl ?_
        first | with_reducible exact fin_k he | exact fin_k he
    · rw [if_neg c_7] at he
      replace hk := hk.2 c_7
      refine r_iconst_ (a := -1) rfl (by decide) ?_
      refine r_iret rfl rfl rfl ?_
      first | with_reducible exact fin_k he | exact fin_k he

def f_X11_send (fu : Nat) (v0 : Int32) (v1 : Int32) (v2 : Int32) (D : fl_D) (s : fl_I) (l : fl_L) : Int32 × fl_D × fl_I × fl_L :=
  if ((f_X11_isPicker fu v0 s l) = 0) then ((0 : Int32), D, s, l) else if (v1 = (-1 : Int32)) then if (v1 = (-1 : Int32)) then if ((-2 : Int32) = (s 34 v0.toNatClampNeg)) then if ((-2 : Int32) = (s 35 v0.toNatClampNeg)) then ((0 : Int32), D, s, l) else ((1 : Int32), (f_keep fu D s l).1, (wi (f_keep fu D s l).2.1 35 v0.toNatClampNeg (-2 : Int32)), (f_keep fu D s l).2.2) else if ((-2 : Int32) = (s 35 v0.toNatClampNeg)) then ((0 : Int32), D, s, l) else ((1 : Int32), (f_keep fu D s l).1, (wi (f_keep fu D s l).2.1 35 v0.toNatClampNeg (-2 : Int32)), (f_keep fu D s l).2.2) else if ((((10 : Int32) * v2) + v1) = (s 34 v0.toNatClampNeg)) then if ((-2 : Int32) = (s 35 v0.toNatClampNeg)) then ((0 : Int32), D, s, l) else ((1 : Int32), (f_keep fu D s l).1, (wi (f_keep fu D s l).2.1 35 v0.toNatClampNeg (-2 : Int32)), (f_keep fu D s l).2.2) else if ((((10 : Int32) * v2) + v1) = (s 35 v0.toNatClampNeg)) then ((0 : Int32), D, s, l) else ((1 : Int32), (f_keep fu D s l).1, (wi (f_keep fu D s l).2.1 35 v0.toNatClampNeg (((10 : Int32) * v2) + v1)), (f_keep fu D s l).2.2) else if ((f_X11_isCell fu v1 v2) = 0) then ((0 : Int32), D, s, l) else if (v1 = (-1 : Int32)) then if ((-2 : Int32) = (s 34 v0.toNatClampNeg)) then if ((-2 : Int32) = (s 35 v0.toNatClampNeg)) then ((0 : Int32), D, s, l) else ((1 : Int32), (f_keep fu D s l).1, (wi (f_keep fu D s l).2.1 35 v0.toNatClampNeg (-2 : Int32)), (f_keep fu D s l).2.2) else if ((-2 : Int32) = (s 35 v0.toNatClampNeg)) then ((0 : Int32), D, s, l) else ((1 : Int32), (f_keep fu D s l).1, (wi (f_keep fu D s l).2.1 35 v0.toNatClampNeg (-2 : Int32)), (f_keep fu D s l).2.2) else if ((((10 : Int32) * v2) + v1) = (s 34 v0.toNatClampNeg)) then if ((-2 : Int32) = (s 35 v0.toNatClampNeg)) then ((0 : Int32), D, s, l) else ((1 : Int32), (f_keep fu D s l).1, (wi (f_keep fu D s l).2.1 35 v0.toNatClampNeg (-2 : Int32)), (f_keep fu D s l).2.2) else if ((((10 : Int32) * v2) + v1) = (s 35 v0.toNatClampNeg)) then ((0 : Int32), D, s, l) else ((1 : Int32), (f_keep fu D s l).1, (wi (f_keep fu D s l).2.1 35 v0.toNatClampNeg (((10 : Int32) * v2) + v1)), (f_keep fu D s l).2.2)

def p_X11_send (fu : Nat) (v0 : Int32) (v1 : Int32) (v2 : Int32) (D : fl_D) (s : fl_I) (l : fl_L) : Prop :=
  (p_X11_isPicker fu v0 s l) ∧ ((((f_X11_isPicker fu v0 s l) = 0) → True) ∧ (¬ ((f_X11_isPicker fu v0 s l) = 0) → (((v1 = (-1 : Int32)) → (((v1 = (-1 : Int32)) → (vp_in v0 4) ∧ ((((-2 : Int32) = (s 34 v0.toNatClampNeg)) → (vp_in v0 4) ∧ ((((-2 : Int32) = (s 35 v0.toNatClampNeg)) → True) ∧ (¬ ((-2 : Int32) = (s 35 v0.toNatClampNeg)) → (p_keep fu D s l) ∧ (vp_in v0 4) ∧ True))) ∧ (¬ ((-2 : Int32) = (s 34 v0.toNatClampNeg)) → (vp_in v0 4) ∧ ((((-2 : Int32) = (s 35 v0.toNatClampNeg)) → True) ∧ (¬ ((-2 : Int32) = (s 35 v0.toNatClampNeg)) → (p_keep fu D s l) ∧ (vp_in v0 4) ∧ True))))) ∧ (¬ (v1 = (-1 : Int32)) → (vp_in v0 4) ∧ ((((((10 : Int32) * v2) + v1) = (s 34 v0.toNatClampNeg)) → (vp_in v0 4) ∧ ((((-2 : Int32) = (s 35 v0.toNatClampNeg)) → True) ∧ (¬ ((-2 : Int32) = (s 35 v0.toNatClampNeg)) → (p_keep fu D s l) ∧ (vp_in v0 4) ∧ True))) ∧ (¬ ((((10 : Int32) * v2) + v1) = (s 34 v0.toNatClampNeg)) → (vp_in v0 4) ∧ ((((((10 : Int32) * v2) + v1) = (s 35 v0.toNatClampNeg)) → True) ∧ (¬ ((((10 : Int32) * v2) + v1) = (s 35 v0.toNatClampNeg)) → (p_keep fu D s l) ∧ (vp_in v0 4) ∧ True))))))) ∧ (¬ (v1 = (-1 : Int32)) → (p_X11_isCell fu v1 v2) ∧ ((((f_X11_isCell fu v1 v2) = 0) → True) ∧ (¬ ((f_X11_isCell fu v1 v2) = 0) → (((v1 = (-1 : Int32)) → (vp_in v0 4) ∧ ((((-2 : Int32) = (s 34 v0.toNatClampNeg)) → (vp_in v0 4) ∧ ((((-2 : Int32) = (s 35 v0.toNatClampNeg)) → True) ∧ (¬ ((-2 : Int32) = (s 35 v0.toNatClampNeg)) → (p_keep fu D s l) ∧ (vp_in v0 4) ∧ True))) ∧ (¬ ((-2 : Int32) = (s 34 v0.toNatClampNeg)) → (vp_in v0 4) ∧ ((((-2 : Int32) = (s 35 v0.toNatClampNeg)) → True) ∧ (¬ ((-2 : Int32) = (s 35 v0.toNatClampNeg)) → (p_keep fu D s l) ∧ (vp_in v0 4) ∧ True))))) ∧ (¬ (v1 = (-1 : Int32)) → (vp_in v0 4) ∧ ((((((10 : Int32) * v2) + v1) = (s 34 v0.toNatClampNeg)) → (vp_in v0 4) ∧ ((((-2 : Int32) = (s 35 v0.toNatClampNeg)) → True) ∧ (¬ ((-2 : Int32) = (s 35 v0.toNatClampNeg)) → (p_keep fu D s l) ∧ (vp_in v0 4) ∧ True))) ∧ (¬ ((((10 : Int32) * v2) + v1) = (s 34 v0.toNatClampNeg)) → (vp_in v0 4) ∧ ((((((10 : Int32) * v2) + v1) = (s 35 v0.toNatClampNeg)) → True) ∧ (¬ ((((10 : Int32) * v2) + v1) = (s 35 v0.toNatClampNeg)) → (p_keep fu D s l) ∧ (vp_in v0 4) ∧ True))))))))))))

set_option maxRecDepth 100000 in
set_option maxHeartbeats 1000000 in
theorem s_X11_send {G : ab_G} {fu : Nat} {d : Nat} {D : fl_D} {s : fl_I} {l : fl_L} {v0 : Int32} {v1 : Int32} {v2 : Int32} (ok : fl_ok D) (hpY : ∀ i p, D.2.2.2.2.1 i = some p → isY D p) (hk : p_X11_send fu v0 v1 v2 D s l) : ab_C G (d + 2) 6 84 M_X11_send 0 (ab_ent [.ref 0, .int v0, .int v1, .int v2]) [] (hp D s l) (rt (some (.int (f_X11_send fu v0 v1 v2 D s l).1)) (hp (f_X11_send fu v0 v1 v2 D s l).2.1 (f_X11_send fu v0 v1 v2 D s l).2.2.1 (f_X11_send fu v0 v1 v2 D s l).2.2.2)) := by
  generalize he : (f_X11_send fu v0 v1 v2 D s l) = res
  unfold f_X11_send at he
  unfold p_X11_send at hk
  refine r_weak (L1 := [some (.ref 0), some (.int v0), some (.int v1), some (.int v2), none, none]) ⟨rfl, rfl, rfl, rfl, trivial⟩ ?_
  refine r_aload_n rfl rfl ?_
  refine r_iload_n rfl rfl ?_
  obtain ⟨hb0, hk⟩ := hk
  refine q_callV0 [_] _ rfl kY_X11_isPicker kT_X11_isPicker rfl rfl (Nat.le_of_ble_eq_true rfl) (Nat.le_of_ble_eq_true rfl) (cc_0 _) (s_X11_isPicker hb0) (fun r h q => ?_)
  obtain ⟨rfl, rfl⟩ := q
  simp only [Option.toList, List.cons_append, List.nil_append]
  refine r_if_eq rfl (fun c_5 => ?_) (fun c_5 => ?_)
  · rw [if_pos c_5] at he
    replace hk := hk.1 c_5
    refine r_iconst_ (a := 0) rfl (by decide) ?_
    refine r_iret rfl rfl rfl ?_
    first | with_reducible exact fin_k he | exact fin_k he
  · rw [if_neg c_5] at he
    replace hk := hk.2 c_5
    refine r_iload_n rfl rfl ?_
    refine r_iconst_ (a := -1) rfl (by decide) ?_
    refine r_icmp_eq rfl (fun c_10 => ?_) (fun c_10 => ?_)
    · rw [if_pos c_10] at he
      replace hk := hk.1 c_10
      refine r_iload_n rfl rfl ?_
      refine r_iconst_ (a := -1) rfl (by decide) ?_
      refine r_icmp_ne rfl (fun c_25 => ?_) (fun c_25 => ?_)
      · rw [if_neg c_25] at he
        replace hk := hk.2 c_25
        refine r_bipush_ (a := 10) rfl (by decide) ?_
        refine r_iload_n rfl rfl ?_
        refine r_imul rfl ?_
        refine r_iload_n rfl rfl ?_
        refine r_iadd rfl ?_
        refine r_istore rfl (Nat.le_of_ble_eq_true rfl) rfl ?_
        refine r_iload rfl rfl ?_
        refine r_aload_n rfl rfl ?_
        refine q_getfield rfl (cc_0 _) rfl ?_
        refine q_getfield rfl (cc_31 _) rfl ?_
        refine r_iload_n rfl rfl ?_
        obtain ⟨hb1, hk⟩ := hk
        refine q_iald rfl (cc_34 _) hb1 ?_
        refine r_icmp_ne rfl (fun c_52 => ?_) (fun c_52 => ?_)
        · rw [if_neg c_52] at he
          replace hk := hk.2 c_52
          refine r_iload rfl rfl ?_
          refine r_istore rfl (Nat.le_of_ble_eq_true rfl) rfl ?_
          refine r_iload rfl rfl ?_
          refine r_aload_n rfl rfl ?_
          refine q_getfield rfl (cc_0 _) rfl ?_
          refine q_getfield rfl (cc_31 _) rfl ?_
          refine r_iload_n rfl rfl ?_
          obtain ⟨hb2, hk⟩ := hk
          refine q_iald rfl (cc_35 _) hb2 ?_
          refine r_icmp_ne rfl (fun c_75 => ?_) (fun c_75 => ?_)
          · rw [if_neg c_75] at he
            replace hk := hk.2 c_75
            refine r_aload_n rfl rfl ?_
            refine q_getfield rfl (cc_0 _) rfl ?_
            refine r_aload_n rfl rfl ?_
            refine q_getfield rfl (cc_0 _) rfl ?_
            obtain ⟨hb3, hk⟩ := hk
            refine q_callVk [_] _ rfl kY_X2_keep kT_X2_keep rfl rfl (Nat.le_of_ble_eq_true rfl) (Nat.le_of_ble_eq_true rfl) (cc_43 _) (s_keep (fu := fu) ok hpY hb3) (fun r h q => ?_)
            obtain ⟨rfl, rfl⟩ := q
            simp only [Option.toList, List.cons_append, List.nil_append]
            refine r_aload_n rfl rfl ?_
            refine q_getfield rfl (cc_0 _) rfl ?_
            refine q_getfield rfl (cc_31 _) rfl ?_
            refine r_iload_n rfl rfl ?_
            refine r_iload rfl rfl ?_
            obtain ⟨hb4, hk⟩ := hk
            refine w_iast rfl (cc_35 _) hb4 ?_
            refine r_iconst_ (a := 1) rfl (by decide) ?_
            refine r_iret rfl rfl rfl ?_
            first | with_reducible exact fin_k he | exact fin_k he
          · rw [if_pos c_75] at he
            replace hk := hk.1 c_75
            refine r_iconst_ (a := 0) rfl (by decide) ?_
            refine r_iret rfl rfl rfl ?_
            first | with_reducible exact fin_k he | exact fin_k he
        · rw [if_pos c_52] at he
          replace hk := hk.1 c_52
          refine r_bipush_ (a := -2) rfl (by decide) ?_
          refine r_goto rfl ?_
          refine r_istore rfl (Nat.le_of_ble_eq_true rfl) rfl ?_
          refine r_iload rfl rfl ?_
          refine r_aload_n rfl rfl ?_
          refine q_getfield rfl (cc_0 _) rfl ?_
          refine q_getfield rfl (cc_31 _) rfl ?_
          refine r_iload_n rfl rfl ?_
          obtain ⟨hb5, hk⟩ := hk
          refine q_iald rfl (cc_35 _) hb5 ?_
          refine r_icmp_ne rfl (fun c_75 => ?_) (fun c_75 => ?_)
          · rw [if_neg c_75] at he
            replace hk := hk.2 c_75
            refine r_aload_n rfl rfl ?_
            refine q_getfield rfl (cc_0 _) rfl ?_
            refine r_aload_n rfl rfl ?_
            refine q_getfield rfl (cc_0 _) rfl ?_
            obtain ⟨hb6, hk⟩ := hk
            refine q_callVk [_] _ rfl kY_X2_keep kT_X2_keep rfl rfl (Nat.le_of_ble_eq_true rfl) (Nat.le_of_ble_eq_true rfl) (cc_43 _) (s_keep (fu := fu) ok hpY hb6) (fun r h q => ?_)
            obtain ⟨rfl, rfl⟩ := q
            simp only [Option.toList, List.cons_append, List.nil_append]
            refine r_aload_n rfl rfl ?_
            refine q_getfield rfl (cc_0 _) rfl ?_
            refine q_getfield rfl (cc_31 _) rfl ?_
            refine r_iload_n rfl rfl ?_
            refine r_iload rfl rfl ?_
            obtain ⟨hb7, hk⟩ := hk
            refine w_iast rfl (cc_35 _) hb7 ?_
            refine r_iconst_ (a := 1) rfl (by decide) ?_
            refine r_iret rfl rfl rfl ?_
            first | with_reducible exact fin_k he | exact fin_k he
          · rw [if_pos c_75] at he
            replace hk := hk.1 c_75
            refine r_iconst_ (a := 0) rfl (by decide) ?_
            refine r_iret rfl rfl rfl ?_
            first | with_reducible exact fin_k he | exact fin_k he
      · rw [if_pos c_25] at he
        replace hk := hk.1 c_25
        refine r_bipush_ (a := -2) rfl (by decide) ?_
        refine r_goto rfl ?_
        refine r_istore rfl (Nat.le_of_ble_eq_true rfl) rfl ?_
        refine r_iload rfl rfl ?_
        refine r_aload_n rfl rfl ?_
        refine q_getfield rfl (cc_0 _) rfl ?_
        refine q_getfield rfl (cc_31 _) rfl ?_
        refine r_iload_n rfl rfl ?_
        obtain ⟨hb8, hk⟩ := hk
        refine q_iald rfl (cc_34 _) hb8 ?_
        refine r_icmp_ne rfl (fun c_52 => ?_) (fun c_52 => ?_)
        · rw [if_neg c_52] at he
          replace hk := hk.2 c_52
          refine r_iload rfl rfl ?_
          refine r_istore rfl (Nat.le_of_ble_eq_true rfl) rfl ?_
          refine r_iload rfl rfl ?_
          refine r_aload_n rfl rfl ?_
          refine q_getfield rfl (cc_0 _) rfl ?_
          refine q_getfield rfl (cc_31 _) rfl ?_
          refine r_iload_n rfl rfl ?_
          obtain ⟨hb9, hk⟩ := hk
          refine q_iald rfl (cc_35 _) hb9 ?_
          refine r_icmp_ne rfl (fun c_75 => ?_) (fun c_75 => ?_)
          · rw [if_neg c_75] at he
            replace hk := hk.2 c_75
            refine r_aload_n rfl rfl ?_
            refine q_getfield rfl (cc_0 _) rfl ?_
            refine r_aload_n rfl rfl ?_
            refine q_getfield rfl (cc_0 _) rfl ?_
            obtain ⟨hb10, hk⟩ := hk
            refine q_callVk [_] _ rfl kY_X2_keep kT_X2_keep rfl rfl (Nat.le_of_ble_eq_true rfl) (Nat.le_of_ble_eq_true rfl) (cc_43 _) (s_keep (fu := fu) ok hpY hb10) (fun r h q => ?_)
            obtain ⟨rfl, rfl⟩ := q
            simp only [Option.toList, List.cons_append, List.nil_append]
            refine r_aload_n rfl rfl ?_
            refine q_getfield rfl (cc_0 _) rfl ?_
            refine q_getfield rfl (cc_31 _) rfl ?_
            refine r_iload_n rfl rfl ?_
            refine r_iload rfl rfl ?_
            obtain ⟨hb11, hk⟩ := hk
            refine w_iast rfl (cc_35 _) hb11 ?_
            refine r_iconst_ (a := 1) rfl (by decide) ?_
            refine r_iret rfl rfl rfl ?_
            first | with_reducible exact fin_k he | exact fin_k he
          · rw [if_pos c_75] at he
            replace hk := hk.1 c_75
            refine r_iconst_ (a := 0) rfl (by decide) ?_
            refine r_iret rfl rfl rfl ?_
            first | with_reducible exact fin_k he | exact fin_k he
        · rw [if_pos c_52] at he
          replace hk := hk.1 c_52
          refine r_bipush_ (a := -2) rfl (by decide) ?_
          refine r_goto rfl ?_
          refine r_istore rfl (Nat.le_of_ble_eq_true rfl) rfl ?_
          refine r_iload rfl rfl ?_
          refine r_aload_n rfl rfl ?_
          refine q_getfield rfl (cc_0 _) rfl ?_
          refine q_getfield rfl (cc_31 _) rfl ?_
          refine r_iload_n rfl rfl ?_
          obtain ⟨hb12, hk⟩ := hk
          refine q_iald rfl (cc_35 _) hb12 ?_
          refine r_icmp_ne rfl (fun c_75 => ?_) (fun c_75 => ?_)
          · rw [if_neg c_75] at he
            replace hk := hk.2 c_75
            refine r_aload_n rfl rfl ?_
            refine q_getfield rfl (cc_0 _) rfl ?_
            refine r_aload_n rfl rfl ?_
            refine q_getfield rfl (cc_0 _) rfl ?_
            obtain ⟨hb13, hk⟩ := hk
            refine q_callVk [_] _ rfl kY_X2_keep kT_X2_keep rfl rfl (Nat.le_of_ble_eq_true rfl) (Nat.le_of_ble_eq_true rfl) (cc_43 _) (s_keep (fu := fu) ok hpY hb13) (fun r h q => ?_)
            obtain ⟨rfl, rfl⟩ := q
            simp only [Option.toList, List.cons_append, List.nil_append]
            refine r_aload_n rfl rfl ?_
            refine q_getfield rfl (cc_0 _) rfl ?_
            refine q_getfield rfl (cc_31 _) rfl ?_
            refine r_iload_n rfl rfl ?_
            refine r_iload rfl rfl ?_
            obtain ⟨hb14, hk⟩ := hk
            refine w_iast rfl (cc_35 _) hb14 ?_
            refine r_iconst_ (a := 1) rfl (by decide) ?_
            refine r_iret rfl rfl rfl ?_
            first | with_reducible exact fin_k he | exact fin_k he
          · rw [if_pos c_75] at he
            replace hk := hk.1 c_75
            refine r_iconst_ (a := 0) rfl (by decide) ?_
            refine r_iret rfl rfl rfl ?_
            first | with_reducible exact fin_k he | exact fin_k he
    · rw [if_neg c_10] at he
      replace hk := hk.2 c_10
      refine r_iload_n rfl rfl ?_
      refine r_iload_n rfl rfl ?_
      obtain ⟨hb15, hk⟩ := hk
      refine r_callS0 [_, _] _ rfl kY_X11_isCell kT_X11_isCell rfl rfl (Nat.le_of_ble_eq_true rfl) (Nat.le_of_ble_eq_true rfl) (s_X11_isCell hb15) (fun r h q => ?_)
      obtain ⟨rfl, rfl⟩ := q
      simp only [Option.toList, List.cons_append, List.nil_append]
      refine r_if_ne rfl (fun c_18 => ?_) (fun c_18 => ?_)
      · rw [if_neg c_18] at he
        replace hk := hk.2 c_18
        refine r_iload_n rfl rfl ?_
        refine r_iconst_ (a := -1) rfl (by decide) ?_
        refine r_icmp_ne rfl (fun c_25 => ?_) (fun c_25 => ?_)
        · rw [if_neg c_25] at he
          replace hk := hk.2 c_25
          refine r_bipush_ (a := 10) rfl (by decide) ?_
          refine r_iload_n rfl rfl ?_
          refine r_imul rfl ?_
          refine r_iload_n rfl rfl ?_
          refine r_iadd rfl ?_
          refine r_istore rfl (Nat.le_of_ble_eq_true rfl) rfl ?_
          refine r_iload rfl rfl ?_
          refine r_aload_n rfl rfl ?_
          refine q_getfield rfl (cc_0 _) rfl ?_
          refine q_getfield rfl (cc_31 _) rfl ?_
          refine r_iload_n rfl rfl ?_
          obtain ⟨hb16, hk⟩ := hk
          refine q_iald rfl (cc_34 _) hb16 ?_
          refine r_icmp_ne rfl (fun c_52 => ?_) (fun c_52 => ?_)
          · rw [if_neg c_52] at he
            replace hk := hk.2 c_52
            refine r_iload rfl rfl ?_
            refine r_istore rfl (Nat.le_of_ble_eq_true rfl) rfl ?_
            refine r_iload rfl rfl ?_
            refine r_aload_n rfl rfl ?_
            refine q_getfield rfl (cc_0 _) rfl ?_
            refine q_getfield rfl (cc_31 _) rfl ?_
            refine r_iload_n rfl rfl ?_
            obtain ⟨hb17, hk⟩ := hk
            refine q_iald rfl (cc_35 _) hb17 ?_
            refine r_icmp_ne rfl (fun c_75 => ?_) (fun c_75 => ?_)
            · rw [if_neg c_75] at he
              replace hk := hk.2 c_75
              refine r_aload_n rfl rfl ?_
              refine q_getfield rfl (cc_0 _) rfl ?_
              refine r_aload_n rfl rfl ?_
              refine q_getfield rfl (cc_0 _) rfl ?_
              obtain ⟨hb18, hk⟩ := hk
              refine q_callVk [_] _ rfl kY_X2_keep kT_X2_keep rfl rfl (Nat.le_of_ble_eq_true rfl) (Nat.le_of_ble_eq_true rfl) (cc_43 _) (s_keep (fu := fu) ok hpY hb18) (fun r h q => ?_)
              obtain ⟨rfl, rfl⟩ := q
              simp only [Option.toList, List.cons_append, List.nil_append]
              refine r_aload_n rfl rfl ?_
              refine q_getfield rfl (cc_0 _) rfl ?_
              refine q_getfield rfl (cc_31 _) rfl ?_
              refine r_iload_n rfl rfl ?_
              refine r_iload rfl rfl ?_
              obtain ⟨hb19, hk⟩ := hk
              refine w_iast rfl (cc_35 _) hb19 ?_
              refine r_iconst_ (a := 1) rfl (by decide) ?_
              refine r_iret rfl rfl rfl ?_
              first | with_reducible exact fin_k he | exact fin_k he
            · rw [if_pos c_75] at he
              replace hk := hk.1 c_75
              refine r_iconst_ (a := 0) rfl (by decide) ?_
              refine r_iret rfl rfl rfl ?_
              first | with_reducible exact fin_k he | exact fin_k he
          · rw [if_pos c_52] at he
            replace hk := hk.1 c_52
            refine r_bipush_ (a := -2) rfl (by decide) ?_
            refine r_goto rfl ?_
            refine r_istore rfl (Nat.le_of_ble_eq_true rfl) rfl ?_
            refine r_iload rfl rfl ?_
            refine r_aload_n rfl rfl ?_
            refine q_getfield rfl (cc_0 _) rfl ?_
            refine q_getfield rfl (cc_31 _) rfl ?_
            refine r_iload_n rfl rfl ?_
            obtain ⟨hb20, hk⟩ := hk
            refine q_iald rfl (cc_35 _) hb20 ?_
            refine r_icmp_ne rfl (fun c_75 => ?_) (fun c_75 => ?_)
            · rw [if_neg c_75] at he
              replace hk := hk.2 c_75
              refine r_aload_n rfl rfl ?_
              refine q_getfield rfl (cc_0 _) rfl ?_
              refine r_aload_n rfl rfl ?_
              refine q_getfield rfl (cc_0 _) rfl ?_
              obtain ⟨hb21, hk⟩ := hk
              refine q_callVk [_] _ rfl kY_X2_keep kT_X2_keep rfl rfl (Nat.le_of_ble_eq_true rfl) (Nat.le_of_ble_eq_true rfl) (cc_43 _) (s_keep (fu := fu) ok hpY hb21) (fun r h q => ?_)
              obtain ⟨rfl, rfl⟩ := q
              simp only [Option.toList, List.cons_append, List.nil_append]
              refine r_aload_n rfl rfl ?_
              refine q_getfield rfl (cc_0 _) rfl ?_
              refine q_getfield rfl (cc_31 _) rfl ?_
              refine r_iload_n rfl rfl ?_
              refine r_iload rfl rfl ?_
              obtain ⟨hb22, hk⟩ := hk
              refine w_iast rfl (cc_35 _) hb22 ?_
              refine r_iconst_ (a := 1) rfl (by decide) ?_
              refine r_iret rfl rfl rfl ?_
              first | with_reducible exact fin_k he | exact fin_k he
            · rw [if_pos c_75] at he
              replace hk := hk.1 c_75
              refine r_iconst_ (a := 0) rfl (by decide) ?_
              refine r_iret rfl rfl rfl ?_
              first | with_reducible exact fin_k he | exact fin_k he
        · rw [if_pos c_25] at he
          replace hk := hk.1 c_25
          refine r_bipush_ (a := -2) rfl (by decide) ?_
          refine r_goto rfl ?_
          refine r_istore rfl (Nat.le_of_ble_eq_true rfl) rfl ?_
          refine r_iload rfl rfl ?_
          refine r_aload_n rfl rfl ?_
          refine q_getfield rfl (cc_0 _) rfl ?_
          refine q_getfield rfl (cc_31 _) rfl ?_
          refine r_iload_n rfl rfl ?_
          obtain ⟨hb23, hk⟩ := hk
          refine q_iald rfl (cc_34 _) hb23 ?_
          refine r_icmp_ne rfl (fun c_52 => ?_) (fun c_52 => ?_)
          · rw [if_neg c_52] at he
            replace hk := hk.2 c_52
            refine r_iload rfl rfl ?_
            refine r_istore rfl (Nat.le_of_ble_eq_true rfl) rfl ?_
            refine r_iload rfl rfl ?_
            refine r_aload_n rfl rfl ?_
            refine q_getfield rfl (cc_0 _) rfl ?_
            refine q_getfield rfl (cc_31 _) rfl ?_
            refine r_iload_n rfl rfl ?_
            obtain ⟨hb24, hk⟩ := hk
            refine q_iald rfl (cc_35 _) hb24 ?_
            refine r_icmp_ne rfl (fun c_75 => ?_) (fun c_75 => ?_)
            · rw [if_neg c_75] at he
              replace hk := hk.2 c_75
              refine r_aload_n rfl rfl ?_
              refine q_getfield rfl (cc_0 _) rfl ?_
              refine r_aload_n rfl rfl ?_
              refine q_getfield rfl (cc_0 _) rfl ?_
              obtain ⟨hb25, hk⟩ := hk
              refine q_callVk [_] _ rfl kY_X2_keep kT_X2_keep rfl rfl (Nat.le_of_ble_eq_true rfl) (Nat.le_of_ble_eq_true rfl) (cc_43 _) (s_keep (fu := fu) ok hpY hb25) (fun r h q => ?_)
              obtain ⟨rfl, rfl⟩ := q
              simp only [Option.toList, List.cons_append, List.nil_append]
              refine r_aload_n rfl rfl ?_
              refine q_getfield rfl (cc_0 _) rfl ?_
              refine q_getfield rfl (cc_31 _) rfl ?_
              refine r_iload_n rfl rfl ?_
              refine r_iload rfl rfl ?_
              obtain ⟨hb26, hk⟩ := hk
              refine w_iast rfl (cc_35 _) hb26 ?_
              refine r_iconst_ (a := 1) rfl (by decide) ?_
              refine r_iret rfl rfl rfl ?_
              first | with_reducible exact fin_k he | exact fin_k he
            · rw [if_pos c_75] at he
              replace hk := hk.1 c_75
              refine r_iconst_ (a := 0) rfl (by decide) ?_
              refine r_iret rfl rfl rfl ?_
              first | with_reducible exact fin_k he | exact fin_k he
          · rw [if_pos c_52] at he
            replace hk := hk.1 c_52
            refine r_bipush_ (a := -2) rfl (by decide) ?_
            refine r_goto rfl ?_
            refine r_istore rfl (Nat.le_of_ble_eq_true rfl) rfl ?_
            refine r_iload rfl rfl ?_
            refine r_aload_n rfl rfl ?_
            refine q_getfield rfl (cc_0 _) rfl ?_
            refine q_getfield rfl (cc_31 _) rfl ?_
            refine r_iload_n rfl rfl ?_
            obtain ⟨hb27, hk⟩ := hk
            refine q_iald rfl (cc_35 _) hb27 ?_
            refine r_icmp_ne rfl (fun c_75 => ?_) (fun c_75 => ?_)
            · rw [if_neg c_75] at he
              replace hk := hk.2 c_75
              refine r_aload_n rfl rfl ?_
              refine q_getfield rfl (cc_0 _) rfl ?_
              refine r_aload_n rfl rfl ?_
              refine q_getfield rfl (cc_0 _) rfl ?_
              obtain ⟨hb28, hk⟩ := hk
              refine q_callVk [_] _ rfl kY_X2_keep kT_X2_keep rfl rfl (Nat.le_of_ble_eq_true rfl) (Nat.le_of_ble_eq_true rfl) (cc_43 _) (s_keep (fu := fu) ok hpY hb28) (fun r h q => ?_)
              obtain ⟨rfl, rfl⟩ := q
              simp only [Option.toList, List.cons_append, List.nil_append]
              refine r_aload_n rfl rfl ?_
              refine q_getfield rfl (cc_0 _) rfl ?_
              refine q_getfield rfl (cc_31 _) rfl ?_
              refine r_iload_n rfl rfl ?_
              refine r_iload rfl rfl ?_
              obtain ⟨hb29, hk⟩ := hk
              refine w_iast rfl (cc_35 _) hb29 ?_
              refine r_iconst_ (a := 1) rfl (by decide) ?_
              refine r_iret rfl rfl rfl ?_
              first | with_reducible exact fin_k he | exact fin_k he
            · rw [if_pos c_75] at he
              replace hk := hk.1 c_75
              refine r_iconst_ (a := 0) rfl (by decide) ?_
              refine r_iret rfl rfl rfl ?_
              first | with_reducible exact fin_k he | exact fin_k he
      · rw [if_pos c_18] at he
        replace hk := hk.1 c_18
        refine r_iconst_ (a := 0) rfl (by decide) ?_
        refine r_iret rfl rfl rfl ?_
        first | with_reducible exact fin_k he | exact fin_k he

def f_X11_give_39 (fu : Nat) : Nat → Int32 → Int32 → Int32 → Int32 → fl_D → fl_I → fl_L → Int32 × fl_D × fl_I × fl_L
  | 0, x1, x2, x3, x4, D, s, l => (0, D, s, l)
  | n + 1, x1, x2, x3, x4, D, s, l =>
    if ((s 31 1) ≤ x4) then (x3, D, s, l) else if ((f_X10_holder fu x4 31 s l) = x1) then if ((s ((if D.2.2.1 then 20 else 9) + 8) x2.toNatClampNeg) ≤ (s 36 x2.toNatClampNeg)) then f_X11_give_39 fu n x1 x2 x3 (x4 + 1) D s l else f_X11_give_39 fu n x1 x2 (x3 + 1) (x4 + 1) D (f_X10_putInHat fu x4 x2 31 (wi s 36 x1.toNatClampNeg ((s 36 x1.toNatClampNeg) - (1 : Int32))) l).1 (f_X10_putInHat fu x4 x2 31 (wi s 36 x1.toNatClampNeg ((s 36 x1.toNatClampNeg) - (1 : Int32))) l).2 else f_X11_give_39 fu n x1 x2 x3 (x4 + 1) D s l

def p_X11_give_39 (fu : Nat) : Nat → Int32 → Int32 → Int32 → Int32 → fl_D → fl_I → fl_L → Prop
  | 0, _, _, _, _, _, _, _ => False
  | n + 1, x1, x2, x3, x4, D, s, l =>
    ((((s 31 1) ≤ x4) → True) ∧ (¬ ((s 31 1) ≤ x4) → (p_X10_holder fu x4 31 s l) ∧ ((((f_X10_holder fu x4 31 s l) = x1) → (vp_in x2 4) ∧ (vp_in x2 4) ∧ ((((s ((if D.2.2.1 then 20 else 9) + 8) x2.toNatClampNeg) ≤ (s 36 x2.toNatClampNeg)) → p_X11_give_39 fu n x1 x2 x3 (x4 + 1) D s l) ∧ (¬ ((s ((if D.2.2.1 then 20 else 9) + 8) x2.toNatClampNeg) ≤ (s 36 x2.toNatClampNeg)) → (vp_in x1 4) ∧ (vp_in x1 4) ∧ (p_X10_putInHat fu x4 x2 31 (wi s 36 x1.toNatClampNeg ((s 36 x1.toNatClampNeg) - (1 : Int32))) l) ∧ p_X11_give_39 fu n x1 x2 (x3 + 1) (x4 + 1) D (f_X10_putInHat fu x4 x2 31 (wi s 36 x1.toNatClampNeg ((s 36 x1.toNatClampNeg) - (1 : Int32))) l).1 (f_X10_putInHat fu x4 x2 31 (wi s 36 x1.toNatClampNeg ((s 36 x1.toNatClampNeg) - (1 : Int32))) l).2))) ∧ (¬ ((f_X10_holder fu x4 31 s l) = x1) → p_X11_give_39 fu n x1 x2 x3 (x4 + 1) D s l))))

set_option maxRecDepth 100000 in
set_option maxHeartbeats 1000000 in
theorem lp_X11_give_39 {G : ab_G} {fu : Nat} {d : Nat} {D : fl_D} : ∀ (n : Nat) (x1 : Int32) (x2 : Int32) (x3 : Int32) (x4 : Int32) (s : fl_I) (l : fl_L), p_X11_give_39 fu n x1 x2 x3 x4 D s l → ab_C G (d + 2) 0 0 M_X11_give 39 [some (.ref 0), some (.int x1), some (.int x2), some (.int x3), some (.int x4)] [] (hp D s l) (rt (some (.int (f_X11_give_39 fu n x1 x2 x3 x4 D s l).1)) (hp (f_X11_give_39 fu n x1 x2 x3 x4 D s l).2.1 (f_X11_give_39 fu n x1 x2 x3 x4 D s l).2.2.1 (f_X11_give_39 fu n x1 x2 x3 x4 D s l).2.2.2)) := by
  intro n
  induction n with
  | zero => intro x1 x2 x3 x4 s l hk; exact hk.elim
  | succ n ih =>
    intro x1 x2 x3 x4 s l hk
    generalize he : f_X11_give_39 fu (n + 1) x1 x2 x3 x4 D s l = res
    unfold f_X11_give_39 at he
    unfold p_X11_give_39 at hk
    refine r_iload rfl rfl ?_
    refine r_aload_n rfl rfl ?_
    refine q_getfield rfl (cc_0 _) rfl ?_
    refine q_getfield rfl (cc_31 _) rfl ?_
    refine r_icmp_ge rfl (fun c_48 => ?_) (fun c_48 => ?_)
    · rw [if_pos c_48] at he
      replace hk := hk.1 c_48
      refine r_iload_n rfl rfl ?_
      refine r_iret rfl rfl rfl ?_
      first | with_reducible exact fin_k he | exact fin_k he
    · rw [if_neg c_48] at he
      replace hk := hk.2 c_48
      refine r_aload_n rfl rfl ?_
      refine q_getfield rfl (cc_0 _) rfl ?_
      refine r_iload rfl rfl ?_
      obtain ⟨hb3, hk⟩ := hk
      refine q_callV0 [_] _ rfl kY_X10_holder kT_X10_holder rfl rfl (Nat.le_of_ble_eq_true rfl) (Nat.le_of_ble_eq_true rfl) (cc_31 _) (s_X10_holder (Or.inl rfl) hb3) (fun r h q => ?_)
      obtain ⟨rfl, rfl⟩ := q
      simp only [Option.toList, List.cons_append, List.nil_append]
      refine r_iload_n rfl rfl ?_
      refine r_icmp_ne rfl (fun c_61 => ?_) (fun c_61 => ?_)
      · rw [if_neg c_61] at he
        replace hk := hk.2 c_61
        refine r_iinc (b := x4 + 1) rfl rfl rfl (Nat.le_of_ble_eq_true rfl) rfl ?_
        refine r_goto rfl ?_
        subst he
        exact r_weak (L1 := [some (.ref 0), some (.int x1), some (.int x2), some (.int x3), some (.int (x4 + 1))]) ⟨rfl, rfl, rfl, rfl, rfl, trivial⟩ (ih _ _ _ _ _ _ hk)
      · rw [if_pos c_61] at he
        replace hk := hk.1 c_61
        refine r_aload_n rfl rfl ?_
        refine q_getfield rfl (cc_0 _) rfl ?_
        refine q_getfield rfl (cc_31 _) rfl ?_
        refine r_iload_n rfl rfl ?_
        obtain ⟨hb4, hk⟩ := hk
        refine q_iald rfl (cc_36 _) hb4 ?_
        refine r_aload_n rfl rfl ?_
        refine q_getfield rfl (cc_0 _) rfl ?_
        refine q_getfield rfl (cT_0 (isT_l _)) rfl ?_
        refine r_iload_n rfl rfl ?_
        obtain ⟨hb5, hk⟩ := hk
        refine q_iald rfl (cT_8 (isT_l _)) hb5 ?_
        refine r_icmp_ge rfl (fun c_82 => ?_) (fun c_82 => ?_)
        · rw [if_pos c_82] at he
          replace hk := hk.1 c_82
          refine r_iinc (b := x4 + 1) rfl rfl rfl (Nat.le_of_ble_eq_true rfl) rfl ?_
          refine r_goto rfl ?_
          subst he
          exact r_weak (L1 := [some (.ref 0), some (.int x1), some (.int x2), some (.int x3), some (.int (x4 + 1))]) ⟨rfl, rfl, rfl, rfl, rfl, trivial⟩ (ih _ _ _ _ _ _ hk)
        · rw [if_neg c_82] at he
          replace hk := hk.2 c_82
          refine r_aload_n rfl rfl ?_
          refine q_getfield rfl (cc_0 _) rfl ?_
          refine q_getfield rfl (cc_31 _) rfl ?_
          refine r_iload_n rfl rfl ?_
          refine r_dup2 rfl rfl rfl ?_
          obtain ⟨hb6, hk⟩ := hk
          refine q_iald rfl (cc_36 _) hb6 ?_
          refine r_iconst_ (a := 1) rfl (by decide) ?_
          refine r_isub rfl ?_
          obtain ⟨hb7, hk⟩ := hk
          refine w_iast rfl (cc_36 _) hb7 ?_
          refine r_aload_n rfl rfl ?_
          refine q_getfield rfl (cc_0 _) rfl ?_
          refine r_iload rfl rfl ?_
          refine r_iload_n rfl rfl ?_
          obtain ⟨hb8, hk⟩ := hk
          refine q_callV0 [_, _] _ rfl kY_X10_putInHat kT_X10_putInHat rfl rfl (Nat.le_of_ble_eq_true rfl) (Nat.le_of_ble_eq_true rfl) (cc_31 _) (s_X10_putInHat (Or.inl rfl) hb8) (fun r h q => ?_)
          obtain ⟨rfl, rfl⟩ := q
          simp only [Option.toList, List.cons_append, List.nil_append]
          refine r_iinc (b := x3 + 1) rfl rfl rfl (Nat.le_of_ble_eq_true rfl) rfl ?_
          refine r_iinc (b := x4 + 1) rfl rfl rfl (Nat.le_of_ble_eq_true rfl) rfl ?_
          refine r_goto rfl ?_
          subst he
          exact r_weak (L1 := [some (.ref 0), some (.int x1), some (.int x2), some (.int (x3 + 1)), some (.int (x4 + 1))]) ⟨rfl, rfl, rfl, rfl, rfl, trivial⟩ (ih _ _ _ _ _ _ hk)

def f_X11_give (fu : Nat) (v0 : Int32) (v1 : Int32) (D : fl_D) (s : fl_I) (l : fl_L) : Int32 × fl_D × fl_I × fl_L :=
  if ((f_X11_isPicker fu v0 s l) = 0) then ((-1 : Int32), D, s, l) else if ((f_X11_isPicker fu v1 s l) = 0) then ((-1 : Int32), D, s, l) else if (v0 = v1) then ((-1 : Int32), D, s, l) else f_X11_give_39 fu fu v0 v1 (0 : Int32) (0 : Int32) (f_keep fu D s l).1 (f_keep fu D s l).2.1 (f_keep fu D s l).2.2

def p_X11_give (fu : Nat) (v0 : Int32) (v1 : Int32) (D : fl_D) (s : fl_I) (l : fl_L) : Prop :=
  (p_X11_isPicker fu v0 s l) ∧ ((((f_X11_isPicker fu v0 s l) = 0) → True) ∧ (¬ ((f_X11_isPicker fu v0 s l) = 0) → (p_X11_isPicker fu v1 s l) ∧ ((((f_X11_isPicker fu v1 s l) = 0) → True) ∧ (¬ ((f_X11_isPicker fu v1 s l) = 0) → (((v0 = v1) → True) ∧ (¬ (v0 = v1) → (p_keep fu D s l) ∧ p_X11_give_39 fu fu v0 v1 (0 : Int32) (0 : Int32) (f_keep fu D s l).1 (f_keep fu D s l).2.1 (f_keep fu D s l).2.2))))))

set_option maxRecDepth 100000 in
set_option maxHeartbeats 1000000 in
theorem s_X11_give {G : ab_G} {fu : Nat} {d : Nat} {D : fl_D} {s : fl_I} {l : fl_L} {v0 : Int32} {v1 : Int32} (ok : fl_ok D) (hpY : ∀ i p, D.2.2.2.2.1 i = some p → isY D p) (hk : p_X11_give fu v0 v1 D s l) : ab_C G (d + 2) 6 84 M_X11_give 0 (ab_ent [.ref 0, .int v0, .int v1]) [] (hp D s l) (rt (some (.int (f_X11_give fu v0 v1 D s l).1)) (hp (f_X11_give fu v0 v1 D s l).2.1 (f_X11_give fu v0 v1 D s l).2.2.1 (f_X11_give fu v0 v1 D s l).2.2.2)) := by
  generalize he : (f_X11_give fu v0 v1 D s l) = res
  unfold f_X11_give at he
  unfold p_X11_give at hk
  refine r_weak (L1 := [some (.ref 0), some (.int v0), some (.int v1), none, none]) ⟨rfl, rfl, rfl, trivial⟩ ?_
  refine r_aload_n rfl rfl ?_
  refine r_iload_n rfl rfl ?_
  obtain ⟨hb0, hk⟩ := hk
  refine q_callV0 [_] _ rfl kY_X11_isPicker kT_X11_isPicker rfl rfl (Nat.le_of_ble_eq_true rfl) (Nat.le_of_ble_eq_true rfl) (cc_0 _) (s_X11_isPicker hb0) (fun r h q => ?_)
  obtain ⟨rfl, rfl⟩ := q
  simp only [Option.toList, List.cons_append, List.nil_append]
  refine r_if_eq rfl (fun c_5 => ?_) (fun c_5 => ?_)
  · rw [if_pos c_5] at he
    replace hk := hk.1 c_5
    refine r_iconst_ (a := -1) rfl (by decide) ?_
    refine r_iret rfl rfl rfl ?_
    first | with_reducible exact fin_k he | exact fin_k he
  · rw [if_neg c_5] at he
    replace hk := hk.2 c_5
    refine r_aload_n rfl rfl ?_
    refine r_iload_n rfl rfl ?_
    obtain ⟨hb1, hk⟩ := hk
    refine q_callV0 [_] _ rfl kY_X11_isPicker kT_X11_isPicker rfl rfl (Nat.le_of_ble_eq_true rfl) (Nat.le_of_ble_eq_true rfl) (cc_0 _) (s_X11_isPicker hb1) (fun r h q => ?_)
    obtain ⟨rfl, rfl⟩ := q
    simp only [Option.toList, List.cons_append, List.nil_append]
    refine r_if_eq rfl (fun c_13 => ?_) (fun c_13 => ?_)
    · rw [if_pos c_13] at he
      replace hk := hk.1 c_13
      refine r_iconst_ (a := -1) rfl (by decide) ?_
      refine r_iret rfl rfl rfl ?_
      first | with_reducible exact fin_k he | exact fin_k he
    · rw [if_neg c_13] at he
      replace hk := hk.2 c_13
      refine r_iload_n rfl rfl ?_
      refine r_iload_n rfl rfl ?_
      refine r_icmp_ne rfl (fun c_18 => ?_) (fun c_18 => ?_)
      · rw [if_neg c_18] at he
        replace hk := hk.2 c_18
        refine r_aload_n rfl rfl ?_
        refine q_getfield rfl (cc_0 _) rfl ?_
        refine r_aload_n rfl rfl ?_
        refine q_getfield rfl (cc_0 _) rfl ?_
        obtain ⟨hb2, hk⟩ := hk
        refine q_callVk [_] _ rfl kY_X2_keep kT_X2_keep rfl rfl (Nat.le_of_ble_eq_true rfl) (Nat.le_of_ble_eq_true rfl) (cc_43 _) (s_keep (fu := fu) ok hpY hb2) (fun r h q => ?_)
        obtain ⟨rfl, rfl⟩ := q
        simp only [Option.toList, List.cons_append, List.nil_append]
        refine r_iconst_ (a := 0) rfl (by decide) ?_
        refine r_istore_n rfl (Nat.le_of_ble_eq_true rfl) rfl ?_
        refine r_iconst_ (a := 0) rfl (by decide) ?_
        refine r_istore rfl (Nat.le_of_ble_eq_true rfl) rfl ?_
        subst he
        exact r_weak (L1 := [some (.ref 0), some (.int v0), some (.int v1), some (.int (0 : Int32)), some (.int (0 : Int32))]) ⟨rfl, rfl, rfl, rfl, rfl, trivial⟩ (lp_X11_give_39 fu _ _ _ _ _ _ hk)
      · rw [if_pos c_18] at he
        replace hk := hk.1 c_18
        refine r_iconst_ (a := -1) rfl (by decide) ?_
        refine r_iret rfl rfl rfl ?_
        first | with_reducible exact fin_k he | exact fin_k he
