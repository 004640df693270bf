/-! the tours' row: made once -/
def frok (D : fl_D) : Prop := ∀ (f : Nat → Int32) (g : Nat → Int64), cl D D.2.2.2.1 f g = some (.inl (0, 10240, .inl f))
def fl_fr (D : fl_D) : Prop := D.2.2.2.1 = 54 ∨ frok D
def D_t (D : fl_D) : fl_D := (D.1 + 1, D.2.1, D.2.2.1, D.1, D.2.2.2.2.1, D.2.2.2.2.2)
theorem fl_s_51 {D D' : fl_D} (h1 : D.2.2.1 = D'.2.2.1) (h3 : D.2.2.2.2.1 = D'.2.2.2.2.1) (h4 : D.2.2.2.2.2 = D'.2.2.2.2.2) (f : Nat → Int32) (g : Nat → Int64) {x : Nat} (hx : x ≠ 51) : fl_s D f g x = fl_s D' f g x := by
  unfold fl_s
  split <;> first | rfl | (exact absurd rfl hx) | simp [h1, h3, h4]
theorem fl_y_t {D : fl_D} (ok : fl_ok D) (f : Nat → Int32) : fl_y (D_t D) f D.1 = some (.inl (0, 10240, .inl f)) := by
  have no : ∀ j, j ≤ 5 → D.2.1 (D.1 - j) = false := fun j hj => by
    cases h : D.2.1 (D.1 - j) with
    | false => rfl
    | true => have := ok.2 _ h; have := ok.1; omega
  have n0 : D.2.1 D.1 = false := no 0 (by omega)
  unfold fl_y D_t
  simp [n0, no 1 (by omega), no 2 (by omega), no 3 (by omega), no 4 (by omega), no 5 (by omega)]
theorem frok_t {D : fl_D} (ok : fl_ok D) : frok (D_t D) := by
  intro f g
  show cl (D_t D) D.1 f g = _
  unfold cl
  rw [if_neg (by have := ok.1; omega)]
  exact fl_y_t ok f
theorem hp_t {D : fl_D} {s : fl_I} {l : fl_L} (ok : fl_ok D) (h54 : D.2.2.2.1 = 54) : ab_u (ab_n (hp D s l) (.inl (0, 10240, .inl fun _ => 0))) 51 (.inr (8, [.int (s 51 0), .ref 52, .ref 53, .ref D.1])) = hp (D_t D) (su s D.1 fun _ => 0) l := by
  have ok1 := ok.1
  refine Prod.ext ?_ rfl
  funext x
  show (if x = 51 then _ else (if x = D.1 then _ else cl D x (s x) (l x))) = cl (D_t D) x (su s D.1 (fun _ => 0) x) (l x)
  by_cases h51 : x = 51
  · subst h51
    rw [if_pos rfl, su_ne _ _ (by omega)]
    exact (cc_51 (D_t D) _ _).symm
  · rw [if_neg h51]
    by_cases hd : x = D.1
    · subst hd
      rw [if_pos rfl, su_same]
      unfold cl
      rw [if_neg (by omega)]
      exact (fl_y_t ok _).symm
    · rw [if_neg hd, su_ne _ _ hd]
      unfold cl
      by_cases hx : x < 107
      · rw [if_pos hx, if_pos hx]
        exact fl_s_51 (D := D) (D' := D_t D) rfl rfl rfl _ _ h51
      · rw [if_neg hx, if_neg hx]
        unfold fl_y
        have e1 : x ≠ D.2.2.2.1 := by rw [h54]; omega
        have e2 : x ≠ (D_t D).2.2.2.1 := hd
        rw [if_neg e1, if_neg e2]
        rfl
theorem ty_8_3 : ab_ty 8 3 = .array .int := by decide +kernel
theorem fi_8_3 : ab_fin 8 3 = false := by decide +kernel
def f_fillFrom (fu : Nat) (D : fl_D) (s : fl_I) (l : fl_L) : fl_D × fl_I × fl_L := if D.2.2.2.1 = 54 then (D_t D, f_X8_fillFrom fu (D_t D) (su s D.1 fun _ => 0) l) else (D, f_X8_fillFrom fu D s l)
def p_fillFrom (fu : Nat) (D : fl_D) (s : fl_I) (l : fl_L) : Prop := p_X8_all fu s l ∧ p_X8_index fu (f_X8_all fu s l + 1) 0 ∧ (D.2.2.2.1 = 54 → 0 < f_X8_index fu (f_X8_all fu s l + 1) 0 ∧ p_X8_fillFrom fu (D_t D) (su s D.1 fun _ => 0) l) ∧ (¬ D.2.2.2.1 = 54 → f_X8_index fu (f_X8_all fu s l + 1) 0 ≤ 10240 ∧ p_X8_fillFrom fu D s l)
theorem q_callVf {G : ab_G} {d : Nat} {M : ab_M} {pc n x y : Nat} {cv : Value} {L : List (Option Value)} {st : List Value} {Q : Option Value → ab_H → Prop} {D : fl_D} {s : fl_I} {l : fl_L} {M1 : ab_M} {i b : Nat} {fl : (Nat → Int32) → (Nat → Int64) → List Value} {Q1 : Option Value → ab_H → Prop} (As rest : List Value) (ho : ab_op M pc = some (.invokevirtual i, n, x, y, cv, M1.1)) (okY : ab_okY M1) (okT : ab_okT M1) (hst : st = As.reverse ++ .ref b :: rest) (hn : As.length = M1.2.2.2.2.2.1) (hAs : (lg_sl (.ref b :: As)).length ≤ M1.2.2.1) (hrs : (rest.map fun v => v.category).sum ≤ 8)
    (hc : ∀ f g, cl D b f g = some (.inr (M1.2.2.2.2.1, fl f g))) (hC : ab_C G d 1 10240 M1 0 (ab_ent (.ref b :: As)) [] (hp D s l) Q1) (kk : ∀ r h', Q1 r h' → ab_C G (d + 1) 0 0 M n L (r.toList ++ rest) h' Q) : ab_C G (d + 1) 1 10240 M pc L st (hp D s l) Q :=
  r_callV (kc := 0) (ks := 0) (kc1 := 1) (ks1 := 10240) As rest ho okY okT hst hn hAs hrs (hc (s b) (l b)) hC kk
set_option maxRecDepth 100000 in
set_option maxHeartbeats 1000000 in
/-- Tours.fillFrom -/
theorem s_fillFrom {G : ab_G} {fu : Nat} {d : Nat} {D : fl_D} {s : fl_I} {l : fl_L} (hok : fl_ok D) (hfo : fl_fr D) (hk : p_fillFrom fu D s l) : ab_C G (d + 4) 1 10240 M_X8_fillFrom 0 (ab_ent [.ref 51]) [] (hp D s l) (rt none (hp (f_fillFrom fu D s l).1 (f_fillFrom fu D s l).2.1 (f_fillFrom fu D s l).2.2)) := by
  have ok1 := hok.1
  obtain ⟨ha, hx, h1, h2⟩ := hk
  unfold f_fillFrom
  refine r_weak (L1 := [some (.ref 51), none, none]) ⟨rfl, trivial⟩ ?_
  refine r_aload_n rfl rfl ?_
  refine q_getfield rfl (cc_51 _) rfl ?_
  by_cases h54 : D.2.2.2.1 = 54
  · rw [if_pos h54]
    obtain ⟨hpos, hf⟩ := h1 h54
    rw [show Value.ref D.2.2.2.1 = Value.ref 54 from congrArg _ h54]
    refine q_alen (v := 0) rfl (cc_54 _) (Nat.le_of_ble_eq_true rfl) rfl ?_
    refine r_aload_n rfl rfl ?_
    refine q_callV0 [] _ rfl kY_X8_all kT_X8_all rfl rfl (Nat.le_of_ble_eq_true rfl) (Nat.le_of_ble_eq_true rfl) (cc_51 _) (s_X8_all ha) (fun r h q => ?_)
    obtain ⟨rfl, rfl⟩ := q
    simp only [Option.toList, List.cons_append, List.nil_append]
    refine r_iconst_ (a := 1) rfl (by decide) ?_
    refine r_iadd rfl ?_
    refine r_iconst_ (a := 0) rfl (by decide) ?_
    refine r_callS0 [_, _] _ rfl kY_X8_index kT_X8_index rfl rfl (Nat.le_of_ble_eq_true rfl) (Nat.le_of_ble_eq_true rfl) (s_X8_index hx) (fun r h q => ?_)
    obtain ⟨rfl, rfl⟩ := q
    simp only [Option.toList, List.cons_append, List.nil_append]
    refine r_icmp_ge rfl (fun c_15 => ?_) (fun c_15 => ?_)
    · exact absurd hpos (Int32.not_lt.mpr c_15)
    · refine r_aload_n rfl rfl ?_
      refine r_sipush_ (a := 1024) rfl (by decide) ?_
      refine r_iconst_ (a := 0) rfl (by decide) ?_
      refine r_callS0 [_, _] _ rfl kY_X8_index kT_X8_index rfl rfl (Nat.le_of_ble_eq_true rfl) (Nat.le_of_ble_eq_true rfl) (s_X8_index (fu := fu) (by trivial)) (fun r h q => ?_)
      obtain ⟨rfl, rfl⟩ := q
      simp only [Option.toList, List.cons_append, List.nil_append]
      refine r_newarray (kc := 0) (ks := 0) (ty := .int) (kd := 0) (a0 := (10240, .inl fun _ => 0)) (N := 10240) rfl rfl (fun _ => rfl) (fun _ h9 => by cases h9) (fun _ => rfl) (by unfold f_X8_index; decide) (by unfold f_X8_index; decide) (by decide) ?_
      refine r_putfield rfl (show (ab_n (hp D s l) _).1 51 = _ by rw [ab_n_ne _ _ (show 51 ≠ D.1 by omega)]; exact cc_51 D (s 51) (l 51)) fi_8_3 ty_8_3 rfl rfl (Nat.le_of_ble_eq_true rfl) (show _ = [.int (s 51 0), .ref 52, .ref 53, .ref D.1] from rfl) ?_
      rw [hp_t hok h54]
      exact r_deep (s_X8_fillFrom (d := d) (frok_t hok) hf) (by omega)
  · rw [if_neg h54]
    obtain ⟨hle, hf⟩ := h2 h54
    have hfr : frok D := hfo.resolve_left h54
    refine q_alen (v := 10240) rfl hfr (Nat.le_of_ble_eq_true rfl) rfl ?_
    refine r_aload_n rfl rfl ?_
    refine q_callV0 [] _ rfl kY_X8_all kT_X8_all rfl rfl (Nat.le_of_ble_eq_true rfl) (Nat.le_of_ble_eq_true rfl) (cc_51 _) (s_X8_all ha) (fun r h q => ?_)
    obtain ⟨rfl, rfl⟩ := q
    simp only [Option.toList, List.cons_append, List.nil_append]
    refine r_iconst_ (a := 1) rfl (by decide) ?_
    refine r_iadd rfl ?_
    refine r_iconst_ (a := 0) rfl (by decide) ?_
    refine r_callS0 [_, _] _ rfl kY_X8_index kT_X8_index rfl rfl (Nat.le_of_ble_eq_true rfl) (Nat.le_of_ble_eq_true rfl) (s_X8_index hx) (fun r h q => ?_)
    obtain ⟨rfl, rfl⟩ := q
    simp only [Option.toList, List.cons_append, List.nil_append]
    refine r_icmp_ge rfl (fun c_15 => ?_) (fun c_15 => ?_)
    · exact r_room (r_deep (s_X8_fillFrom (d := d) hfr hf) (by omega)) (Nat.zero_le _) (Nat.zero_le _)
    · exact absurd hle c_15
