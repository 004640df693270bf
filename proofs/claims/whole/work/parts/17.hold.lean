theorem hp_q {D : fl_D} {s : fl_I} {l : fl_L} (ok : fl_ok D) (i : Nat) : ab_u (y_in (ab_n (hp D s l) (.inr (10, [.int 0, .int 0, .int 0, .null, .null, .null, .null, .null]))) D.1) 45 (.inl (4, 3, .inr (.inr (.inr (.inr (va_up D.2.2.2.2.2 i (some D.1))))))) = hp (D_q D i) (sz s D.1) l := by
  have ok1 := ok.1
  refine Prod.ext ?_ rfl
  funext x
  show (if x = 45 then _ else (if x = D.1 then _ else if x = D.1 + 1 ∨ x = D.1 + 1 + 1 then _ else if x = D.1 + 1 + 2 ∨ (x = D.1 + 1 + 3 ∨ x = D.1 + 1 + 4) then _ else (if x = D.1 then _ else cl D x (s x) (l x)))) = cl (D_q D i) x (sz s D.1 x) (l x)
  by_cases h45 : x = 45
  · subst h45; rfl
  · rw [if_neg h45]
    by_cases hx : x < 107
    · have e1 : sz s D.1 x = s x := by unfold sz; rw [if_neg (by omega)]
      rw [e1, if_neg (by omega), if_neg (by omega), if_neg (by omega), if_neg (by omega)]
      unfold cl
      rw [if_pos hx, if_pos hx]
      exact fl_s_45 (D := D) (D' := D_q D i) rfl rfl rfl _ _ h45
    · have h9 := fl_y_new (D' := D_q D i) ok rfl rfl s (x := x) (by omega)
      have e2 : cl (D_q D i) x (sz s D.1 x) (l x) = fl_y (D_q D i) (sz s D.1 x) x := by unfold cl; rw [if_neg hx]
      have e3 : cl D x (s x) (l x) = fl_y D (s x) x := by unfold cl; rw [if_neg hx]
      rw [e2, ← h9, e3]
      by_cases h0 : x = D.1
      · simp [h0]; rfl
      · simp [h0]
/-- hold, from the place where the slot has its Yard -/
def h_33 (fu : Nat) (p : Nat) (v : Int32) (s : fl_I) (l : fl_L) : fl_I × fl_L := (wi (f_X10_copy fu p 31 s l).1 0 8 ((f_X10_copy fu p 31 s l).1 0 8 ||| ((1 : Int32) <<< (v &&& 31))), (f_X10_copy fu p 31 s l).2)
def f_hold (fu : Nat) (v : Int32) (D : fl_D) (s : fl_I) (l : fl_L) : Int32 × fl_D × fl_I × fl_L := if v < 0 then (0, D, s, l) else if v < 3 then (match D.2.2.2.2.2 v.toNatClampNeg with
  | some p => (1, D, h_33 fu p v s l)
  | none => (1, D_q D v.toNatClampNeg, h_33 fu D.1 v (sz s D.1) l)) else (0, D, s, l)
theorem ab_in3 {x : Int32} (h1 : ¬ x < 0) (h2 : x < 3) : vp_in x 3 := by
  obtain ⟨j, hj, rfl⟩ := nI_of h1
  refine vp_in_nI ?_ (by omega)
  rcases Nat.lt_or_ge j 3 with h | h
  · exact h
  · exact absurd h2 (nI_nlt h hj)
set_option maxRecDepth 100000 in
set_option maxHeartbeats 1000000 in
theorem s_hold33 {G : ab_G} {fu : Nat} {d : Nat} {D : fl_D} {s : fl_I} {l : fl_L} {p : Nat} {v : Int32} (hY : isY D p) (hi : vp_in v 3) (hpr : D.2.2.2.2.2 v.toNatClampNeg = some p) : ab_C G (d + 1) 0 0 M_X11_hold 33 [some (.ref 0), some (.int v)] [] (hp D s l) (rt (some (.int 1)) (hp D (h_33 fu p v s l).1 (h_33 fu p v s l).2)) := by
  refine r_aload_n rfl rfl ?_
  refine q_getfield rfl (cc_0 _) rfl ?_
  refine r_iload_n rfl rfl ?_
  refine q_aald rfl (cc_45 _) hi ?_
  rw [hpr]
  show ab_C _ _ _ _ _ _ _ (.ref p :: []) _ _
  refine r_aload_n rfl rfl ?_
  refine q_getfield rfl (cc_0 _) rfl ?_
  refine q_callV0 [_] _ rfl kY_X10_copy kT_X10_copy rfl rfl (Nat.le_of_ble_eq_true rfl) (Nat.le_of_ble_eq_true rfl) (cY_0 hY) (s_X10_copy (fu := fu) hY (Or.inl rfl) trivial) (fun r h q => ?_)
  obtain ⟨rfl, rfl⟩ := q
  simp only [Option.toList, List.cons_append, List.nil_append]
  refine r_aload_n rfl rfl ?_
  refine r_dup rfl rfl ?_
  refine q_getfield rfl (cc_0 _) rfl ?_
  refine r_iconst_ (a := 1) rfl (by decide) ?_
  refine r_iload_n rfl rfl ?_
  refine r_ishl rfl ?_
  refine r_ior rfl ?_
  refine w_put rfl (cc_0 _) ff_11_8 ft_11_8 (fun _ _ => (Nat.le_of_ble_eq_true rfl)) (fun _ _ => rfl) ?_
  refine r_iconst_ (a := 1) rfl (by decide) ?_
  refine r_iret rfl rfl rfl ?_
  exact ⟨rfl, rfl⟩
set_option maxRecDepth 100000 in
set_option maxHeartbeats 1000000 in
/-- hold -/
theorem s_hold {G : ab_G} {fu : Nat} {d : Nat} {D : fl_D} {s : fl_I} {l : fl_L} {v : Int32} (ok : fl_ok D) (hsY : ∀ i p, D.2.2.2.2.2 i = some p → isY D p) : ab_C G (d + 1) 6 84 M_X11_hold 0 (ab_ent [.ref 0, .int v]) [] (hp D s l) (rt (some (.int (f_hold fu v D s l).1)) (hp (f_hold fu v D s l).2.1 (f_hold fu v D s l).2.2.1 (f_hold fu v D s l).2.2.2)) := by
  have ok1 := ok.1
  unfold f_hold
  refine r_iload_n rfl rfl ?_
  refine r_if_lt rfl (fun c_1 => ?_) (fun c_1 => ?_)
  · rw [if_pos c_1]
    refine r_iconst_ (a := 0) rfl (by decide) ?_
    refine r_iret rfl rfl rfl ?_
    exact ⟨rfl, rfl⟩
  · rw [if_neg c_1]
    refine r_iload_n rfl rfl ?_
    refine r_iconst_ (a := 3) rfl (by decide) ?_
    refine r_icmp_lt rfl (fun c_6 => ?_) (fun c_6 => ?_)
    · rw [if_pos c_6]
      have hi : vp_in v 3 := ab_in3 c_1 c_6
      refine r_aload_n rfl rfl ?_
      refine q_getfield rfl (cc_0 _) rfl ?_
      refine r_iload_n rfl rfl ?_
      refine q_aald rfl (cc_45 _) hi ?_
      cases hpr : D.2.2.2.2.2 v.toNatClampNeg with
      | some p =>
        show ab_C _ _ _ _ _ _ _ (.ref p :: []) _ _
        refine r_ifnonnull rfl ?_
        exact r_room (s_hold33 (hsY _ _ hpr) hi hpr) (Nat.zero_le _) (Nat.zero_le _)
      | none =>
        show ab_C _ _ _ _ _ _ _ (.null :: []) _ _
        refine r_ifnonnullN rfl ?_
        refine r_aload_n rfl rfl ?_
        refine q_getfield rfl (cc_0 _) rfl ?_
        refine r_iload_n rfl rfl ?_
        refine r_new (kc := 5) (ks := 76) (N := 8) rfl df_10 rfl ?_
        refine r_dup rfl rfl ?_
        refine r_callIN (kc := 0) (ks := 0) (kc1 := 5) (ks1 := 76) [] _ rfl kY_X10_init kT_X10_init rfl rfl rfl rfl (Nat.le_of_ble_eq_true rfl) (Nat.le_of_ble_eq_true rfl) (s_X10_init (ab_n_same _ _) (Nat.lt_succ_self _)) (fun r h q => ?_)
        obtain ⟨rfl, rfl⟩ := q
        simp only [Option.toList, List.nil_append]
        have hc45 : (y_in (ab_n (hp D s l) (.inr (10, [.int 0, .int 0, .int 0, .null, .null, .null, .null, .null]))) D.1).1 45 = some (.inl (4, 3, .inr (.inr (.inr (.inr D.2.2.2.2.2))))) := by
          show (if 45 = D.1 then _ else if 45 = D.1 + 1 ∨ 45 = D.1 + 1 + 1 then _ else if 45 = D.1 + 1 + 2 ∨ (45 = D.1 + 1 + 3 ∨ 45 = D.1 + 1 + 4) then _ else (if 45 = D.1 then _ else cl D 45 (s 45) (l 45))) = _
          rw [if_neg (by omega), if_neg (by omega), if_neg (by omega), if_neg (by omega)]
          exact cc_45 D _ _
        have hcN : (y_in (ab_n (hp D s l) (.inr (10, [.int 0, .int 0, .int 0, .null, .null, .null, .null, .null]))) D.1).1 D.1 = some (y_ob D.1 (D.1 + 1)) := by
          show (if D.1 = D.1 then _ else _) = _
          rw [if_pos rfl]
          rfl
        refine r_aast (fs := _) rfl hc45 hcN hi ?_
        rw [show (hp D s l).2 = D.1 from rfl, hp_q ok]
        refine s_hold33 (D := D_q D v.toNatClampNeg) (s := sz s D.1) (p := D.1) (isY_new ok rfl) hi ?_
        show va_up D.2.2.2.2.2 v.toNatClampNeg (some D.1) v.toNatClampNeg = some D.1
        simp [va_up]
    · rw [if_neg c_6]
      refine r_iconst_ (a := 0) rfl (by decide) ?_
      refine r_iret rfl rfl rfl ?_
      exact ⟨rfl, rfl⟩
/-! restore -/
def f_restore (fu : Nat) (v : Int32) (D : fl_D) (s : fl_I) (l : fl_L) : Int32 × fl_I × fl_L := if v < 0 then (0, s, l) else if 3 ≤ v then (0, s, l) else if ((s 0 8 >>> (v &&& 31)) &&& 1) = 0 then (0, s, l) else match D.2.2.2.2.2 v.toNatClampNeg with
  | some p => (1, wi (f_X10_copy fu 31 p s l).1 43 0 0, (f_X10_copy fu 31 p s l).2)
  | none => (0, s, l)
set_option maxRecDepth 100000 in
set_option maxHeartbeats 1000000 in
/-- restore -/
theorem s_restore {G : ab_G} {fu : Nat} {d : Nat} {D : fl_D} {s : fl_I} {l : fl_L} {v : Int32} (hsY : ∀ i p, D.2.2.2.2.2 i = some p → isY D p) : ab_C G (d + 1) 0 0 M_X11_restore 0 (ab_ent [.ref 0, .int v]) [] (hp D s l) (rt (some (.int (f_restore fu v D s l).1)) (hp D (f_restore fu v D s l).2.1 (f_restore fu v D s l).2.2)) := by
  have no : ab_C G (d + 1) 0 0 M_X11_restore 29 [some (.ref 0), some (.int v)] [] (hp D s l) (rt (some (.int 0)) (hp D s l)) := by
    refine r_iconst_ (a := 0) rfl (by decide) ?_
    refine r_iret rfl rfl rfl ?_
    exact ⟨rfl, rfl⟩
  unfold f_restore
  refine r_iload_n rfl rfl ?_
  refine r_if_lt rfl (fun c_1 => ?_) (fun c_1 => ?_)
  · rw [if_pos c_1]; exact no
  · rw [if_neg c_1]
    refine r_iload_n rfl rfl ?_
    refine r_iconst_ (a := 3) rfl (by decide) ?_
    refine r_icmp_ge rfl (fun c_6 => ?_) (fun c_6 => ?_)
    · rw [if_pos c_6]; exact no
    · rw [if_neg c_6]
      have hi : vp_in v 3 := ab_in3 c_1 (Int32.not_le.mp c_6)
      refine r_aload_n rfl rfl ?_
      refine q_getfield rfl (cc_0 _) rfl ?_
      refine r_iload_n rfl rfl ?_
      refine r_ishr rfl ?_
      refine r_iconst_ (a := 1) rfl (by decide) ?_
      refine r_iand rfl ?_
      refine r_if_eq rfl (fun c_17 => ?_) (fun c_17 => ?_)
      · rw [if_pos c_17]; exact no
      · rw [if_neg c_17]
        refine r_aload_n rfl rfl ?_
        refine q_getfield rfl (cc_0 _) rfl ?_
        refine r_iload_n rfl rfl ?_
        refine q_aald rfl (cc_45 _) hi ?_
        cases hpr : D.2.2.2.2.2 v.toNatClampNeg with
        | none =>
          show ab_C _ _ _ _ _ _ _ (.null :: []) _ _
          refine r_ifnonnullN rfl ?_
          exact no
        | some p =>
          show ab_C _ _ _ _ _ _ _ (.ref p :: []) _ _
          refine r_ifnonnull rfl ?_
          refine r_aload_n rfl rfl ?_
          refine q_getfield rfl (cc_0 _) rfl ?_
          refine r_aload_n rfl rfl ?_
          refine q_getfield rfl (cc_0 _) rfl ?_
          refine r_iload_n rfl rfl ?_
          refine q_aald rfl (cc_45 _) hi ?_
          rw [hpr]
          show ab_C _ _ _ _ _ _ _ (.ref p :: .ref 31 :: []) _ _
          refine q_callV0 [_] _ rfl kY_X10_copy kT_X10_copy rfl rfl (Nat.le_of_ble_eq_true rfl) (Nat.le_of_ble_eq_true rfl) (cc_31 _) (s_X10_copy (fu := fu) (Or.inl rfl) (hsY _ _ hpr) trivial) (fun r h q => ?_)
          obtain ⟨rfl, rfl⟩ := q
          simp only [Option.toList, List.cons_append, List.nil_append]
          refine r_aload_n rfl rfl ?_
          refine q_getfield rfl (cc_0 _) rfl ?_
          refine r_iconst_ (a := 0) rfl (by decide) ?_
          refine w_put rfl (cc_43 _) ff_2_0 ft_2_0 (fun _ _ => (Nat.le_of_ble_eq_true rfl)) (fun _ _ => rfl) ?_
          refine r_iconst_ (a := 1) rfl (by decide) ?_
          refine r_iret rfl rfl rfl ?_
          exact ⟨rfl, rfl⟩
