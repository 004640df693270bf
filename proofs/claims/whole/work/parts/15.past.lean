/-! a Yard made anew -/
def y_ob (q n : Nat) : ab_E := .inr (10, [.int 0, .int 0, .int 0, .ref n, .ref (n + 1), .ref (n + 2), .ref (n + 3), .ref (n + 4)])
def y_in (h : ab_H) (q : Nat) : ab_H := (fun x => if x = q then some (y_ob q h.2) else if x = h.2 ∨ x = h.2 + 1 then some (.inl (0, 32, .inl fun _ => 0)) else if x = h.2 + 2 ∨ (x = h.2 + 3 ∨ x = h.2 + 4) then some (.inl (0, 4, .inl fun _ => 0)) else h.1 x, h.2 + 5)
theorem ty_10_3 : ab_ty 10 3 = .array .int := by decide +kernel
theorem ty_10_4 : ab_ty 10 4 = .array .int := by decide +kernel
theorem ty_10_5 : ab_ty 10 5 = .array .int := by decide +kernel
theorem ty_10_6 : ab_ty 10 6 = .array .int := by decide +kernel
theorem ty_10_7 : ab_ty 10 7 = .array .int := by decide +kernel
theorem fi_10 : ∀ k, k < 8 → 3 ≤ k → ab_fin 10 k = true := by decide +kernel
theorem dc_10 : ∀ k, k < 8 → ab_dcl 10 k = RX10 := by decide +kernel
set_option maxRecDepth 100000 in
set_option maxHeartbeats 1000000 in
theorem s_X10_init {G : ab_G} {d : Nat} {h : ab_H} {q : Nat} (hq : h.1 q = some (.inr (10, [.int 0, .int 0, .int 0, .null, .null, .null, .null, .null]))) (hlt : q < h.2) : ab_C G d 5 76 M_X10_init 0 (ab_ent [.ref q]) [] h (rt none (y_in h q)) := by
  refine r_aload_n rfl rfl ?_
  refine r_objinit rfl (Nat.le_of_ble_eq_true rfl) ?_
  refine r_aload_n rfl rfl ?_
  refine r_bipush_ (a := 32) rfl (by decide) ?_
  refine r_newarray (kc := 4) (ks := 44) (ty := .int) (kd := 0) (a0 := (32, .inl fun _ => 0)) (N := 32) rfl rfl (fun _ => rfl) (fun _ h9 => by cases h9) (fun _ => rfl) (by decide) (by decide) (by decide) ?_
  refine r_putfieldF rfl (show (ab_n h _).1 q = _ by rw [ab_n_ne _ _ (by omega)]; exact hq) (fi_10 3 (by decide) (by decide)) rfl (dc_10 3 (by decide)) ty_10_3 rfl rfl (Nat.le_of_ble_eq_true rfl) (show _ = [.int 0, .int 0, .int 0, .ref h.2, .null, .null, .null, .null] from rfl) ?_
  refine r_aload_n rfl rfl ?_
  refine r_bipush_ (a := 32) rfl (by decide) ?_
  refine r_newarray (kc := 3) (ks := 12) (ty := .int) (kd := 0) (a0 := (32, .inl fun _ => 0)) (N := 32) rfl rfl (fun _ => rfl) (fun _ h9 => by cases h9) (fun _ => rfl) (by decide) (by decide) (by decide) ?_
  refine r_putfieldF rfl (show (ab_n (ab_u _ q _) _).1 q = _ by rw [ab_n_ne _ _ (show q ≠ h.2 + 1 by omega)]; exact ab_u_same _ _ _) (fi_10 4 (by decide) (by decide)) rfl (dc_10 4 (by decide)) ty_10_4 rfl rfl (Nat.le_of_ble_eq_true rfl) (show _ = [.int 0, .int 0, .int 0, .ref h.2, .ref (h.2 + 1), .null, .null, .null] from rfl) ?_
  refine r_aload_n rfl rfl ?_
  refine r_iconst_ (a := 4) rfl (by decide) ?_
  refine r_newarray (kc := 2) (ks := 8) (ty := .int) (kd := 0) (a0 := (4, .inl fun _ => 0)) (N := 4) rfl rfl (fun _ => rfl) (fun _ h9 => by cases h9) (fun _ => rfl) (by decide) (by decide) (by decide) ?_
  refine r_putfieldF rfl (show (ab_n (ab_u _ q _) _).1 q = _ by rw [ab_n_ne _ _ (show q ≠ h.2 + 1 + 1 by omega)]; exact ab_u_same _ _ _) (fi_10 5 (by decide) (by decide)) rfl (dc_10 5 (by decide)) ty_10_5 rfl rfl (Nat.le_of_ble_eq_true rfl) (show _ = [.int 0, .int 0, .int 0, .ref h.2, .ref (h.2 + 1), .ref (h.2 + 2), .null, .null] from rfl) ?_
  refine r_aload_n rfl rfl ?_
  refine r_iconst_ (a := 4) rfl (by decide) ?_
  refine r_newarray (kc := 1) (ks := 4) (ty := .int) (kd := 0) (a0 := (4, .inl fun _ => 0)) (N := 4) rfl rfl (fun _ => rfl) (fun _ h9 => by cases h9) (fun _ => rfl) (by decide) (by decide) (by decide) ?_
  refine r_putfieldF rfl (show (ab_n (ab_u _ q _) _).1 q = _ by rw [ab_n_ne _ _ (show q ≠ h.2 + 1 + 1 + 1 by omega)]; exact ab_u_same _ _ _) (fi_10 6 (by decide) (by decide)) rfl (dc_10 6 (by decide)) ty_10_6 rfl rfl (Nat.le_of_ble_eq_true rfl) (show _ = [.int 0, .int 0, .int 0, .ref h.2, .ref (h.2 + 1), .ref (h.2 + 2), .ref (h.2 + 3), .null] from rfl) ?_
  refine r_aload_n rfl rfl ?_
  refine r_iconst_ (a := 4) rfl (by decide) ?_
  refine r_newarray (kc := 0) (ks := 0) (ty := .int) (kd := 0) (a0 := (4, .inl fun _ => 0)) (N := 4) rfl rfl (fun _ => rfl) (fun _ h9 => by cases h9) (fun _ => rfl) (by decide) (by decide) (by decide) ?_
  refine r_putfieldF rfl (show (ab_n (ab_u _ q _) _).1 q = _ by rw [ab_n_ne _ _ (show q ≠ h.2 + 1 + 1 + 1 + 1 by omega)]; exact ab_u_same _ _ _) (fi_10 7 (by decide) (by decide)) rfl (dc_10 7 (by decide)) ty_10_7 rfl rfl (Nat.le_of_ble_eq_true rfl) (show _ = [.int 0, .int 0, .int 0, .ref h.2, .ref (h.2 + 1), .ref (h.2 + 2), .ref (h.2 + 3), .ref (h.2 + 4)] from rfl) ?_
  refine r_ret rfl rfl ?_
  refine ⟨rfl, ?_⟩
  unfold y_in
  refine Prod.ext ?_ rfl
  funext x
  have e1 : (ab_u h q (.inr (10, []))).2 = h.2 := rfl
  by_cases h0 : x = q
  · subst h0; simp [ab_u, ab_n, y_ob]
  · by_cases h1 : x = h.2
    · subst h1; simp [ab_u, ab_n, h0, Nat.add_assoc]
    · by_cases h2 : x = h.2 + 1
      · subst h2; simp [ab_u, ab_n, h0, Nat.add_assoc]
      · by_cases h3 : x = h.2 + 2
        · subst h3; simp [ab_u, ab_n, h0, Nat.add_assoc]
        · by_cases h4 : x = h.2 + 3
          · subst h4; simp [ab_u, ab_n, h0, Nat.add_assoc]
          · by_cases h5 : x = h.2 + 4
            · subst h5; simp [ab_u, ab_n, h0, Nat.add_assoc]
            · simp [ab_u, ab_n, h0, h1, h2, h3, h4, h5, Nat.add_assoc]
/-- what holds of what is not a number: Yards made later end below the count -/
def fl_ok (D : fl_D) : Prop := 107 ≤ D.1 ∧ ∀ a, D.2.1 a = true → a + 6 ≤ D.1
/-- a Yard more, kept in the past, or in a slot -/
def D_p (D : fl_D) (i : Nat) : fl_D := (D.1 + 6, fun x => x == D.1 || D.2.1 x, D.2.2.1, D.2.2.2.1, va_up D.2.2.2.2.1 i (some D.1), D.2.2.2.2.2)
def D_q (D : fl_D) (i : Nat) : fl_D := (D.1 + 6, fun x => x == D.1 || D.2.1 x, D.2.2.1, D.2.2.2.1, D.2.2.2.2.1, va_up D.2.2.2.2.2 i (some D.1))
def sz (s : fl_I) (n : Nat) : fl_I := fun q => if n ≤ q ∧ q < n + 6 then (fun _ => 0) else s q
theorem fl_s_44 {D D' : fl_D} (h1 : D.2.2.1 = D'.2.2.1) (h2 : D.2.2.2.1 = D'.2.2.2.1) (h4 : D.2.2.2.2.2 = D'.2.2.2.2.2) (f : Nat → Int32) (g : Nat → Int64) {x : Nat} (hx : x ≠ 44) : fl_s D f g x = fl_s D' f g x := by
  unfold fl_s
  split <;> first | rfl | (exact absurd rfl hx) | simp [h1, h2, h4]
theorem fl_s_45 {D D' : fl_D} (h1 : D.2.2.1 = D'.2.2.1) (h2 : D.2.2.2.1 = D'.2.2.2.1) (h4 : D.2.2.2.2.1 = D'.2.2.2.2.1) (f : Nat → Int32) (g : Nat → Int64) {x : Nat} (hx : x ≠ 45) : fl_s D f g x = fl_s D' f g x := by
  unfold fl_s
  split <;> first | rfl | (exact absurd rfl hx) | simp [h1, h2, h4]
theorem fl_y_new {D D' : fl_D} (ok : fl_ok D) (hy : D'.2.1 = fun x => x == D.1 || D.2.1 x) (hf : D'.2.2.2.1 = D.2.2.2.1) (s : fl_I) {x : Nat} (hx : 107 ≤ x) :
    (if x = D.1 then some (y_ob D.1 (D.1 + 1)) else if x = D.1 + 1 ∨ x = D.1 + 1 + 1 then some (.inl (0, 32, .inl fun _ => 0)) else if x = D.1 + 1 + 2 ∨ (x = D.1 + 1 + 3 ∨ x = D.1 + 1 + 4) then some (.inl (0, 4, .inl fun _ => 0)) else fl_y D (s x) x) = fl_y D' (sz s D.1 x) x := by
  have no : ∀ j, D.2.1 (D.1 + j) = false := fun j => by
    cases hj : D.2.1 (D.1 + j) with
    | false => rfl
    | true => have := ok.2 _ hj; omega
  have no0 : D.2.1 D.1 = false := no 0
  unfold fl_y sz
  rw [hy, hf]
  by_cases h0 : x = D.1
  · subst h0; simp [y_ob]
  · by_cases h1 : x = D.1 + 1
    · subst h1; simp [no 1, show D.1 + 1 - 1 = D.1 by omega]
    · by_cases h2 : x = D.1 + 2
      · subst h2; simp [no 1, no 2, show D.1 + 2 - 1 = D.1 + 1 by omega, show D.1 + 2 - 2 = D.1 by omega]
      · by_cases h3 : x = D.1 + 3
        · subst h3; simp [no 1, no 2, no 3, show D.1 + 3 - 1 = D.1 + 2 by omega, show D.1 + 3 - 2 = D.1 + 1 by omega, show D.1 + 3 - 3 = D.1 by omega]
        · by_cases h4 : x = D.1 + 4
          · subst h4; simp [no 1, no 2, no 3, no 4, show D.1 + 4 - 1 = D.1 + 3 by omega, show D.1 + 4 - 2 = D.1 + 2 by omega, show D.1 + 4 - 3 = D.1 + 1 by omega, show D.1 + 4 - 4 = D.1 by omega]
          · by_cases h5 : x = D.1 + 5
            · subst h5; simp [no 1, no 2, no 3, no 4, no 5, show D.1 + 5 - 1 = D.1 + 4 by omega, show D.1 + 5 - 2 = D.1 + 3 by omega, show D.1 + 5 - 3 = D.1 + 2 by omega, show D.1 + 5 - 4 = D.1 + 1 by omega, show D.1 + 5 - 5 = D.1 by omega]
            · have hb : ¬ (D.1 ≤ x ∧ x < D.1 + 6) := by omega
              have e : ∀ j, j ≤ 5 → (x - j == D.1) = false := fun j hj => by
                have : x - j ≠ D.1 := by have := ok.1; omega
                simpa using this
              have e0 : (x == D.1) = false := e 0 (by omega)
              simp [h0, h1, h2, h3, h4, h5, hb, Nat.add_assoc, e 1 (by omega), e 2 (by omega), e 3 (by omega), e 4 (by omega), e 5 (by omega)]
theorem hp_p {D : fl_D} {s : fl_I} {l : fl_L} (ok : fl_ok D) (i : Nat) : ab_u (y_in (ab_n (hp D s l) (.inr (10, [.int 0, .int 0, .int 0, .null, .null, .null, .null, .null]))) D.1) 44 (.inl (4, 40, .inr (.inr (.inr (.inr (va_up D.2.2.2.2.1 i (some D.1))))))) = hp (D_p D i) (sz s D.1) l := by
  have ok1 := ok.1
  refine Prod.ext ?_ rfl
  funext x
  show (if x = 44 then _ else (if x = D.1 then _ else if x = D.1 + 1 ∨ x = D.1 + 1 + 1 then _ else if x = D.1 + 1 + 2 ∨ (x = D.1 + 1 + 3 ∨ x = D.1 + 1 + 4) then _ else (if x = D.1 then _ else cl D x (s x) (l x)))) = cl (D_p D i) x (sz s D.1 x) (l x)
  by_cases h44 : x = 44
  · subst h44; rfl
  · rw [if_neg h44]
    by_cases hx : x < 107
    · have e1 : sz s D.1 x = s x := by unfold sz; rw [if_neg (by omega)]
      rw [e1, if_neg (by omega), if_neg (by omega), if_neg (by omega), if_neg (by omega)]
      unfold cl
      rw [if_pos hx, if_pos hx]
      exact fl_s_44 (D := D) (D' := D_p D i) rfl rfl rfl _ _ h44
    · have h9 := fl_y_new (D' := D_p D i) ok rfl rfl s (x := x) (by omega)
      have e2 : cl (D_p D i) x (sz s D.1 x) (l x) = fl_y (D_p D i) (sz s D.1 x) x := by unfold cl; rw [if_neg hx]
      have e3 : cl D x (s x) (l x) = fl_y D (s x) x := by unfold cl; rw [if_neg hx]
      rw [e2, ← h9, e3]
      by_cases h0 : x = D.1
      · simp [h0]; rfl
      · simp [h0]
theorem D_p_ok {D : fl_D} (ok : fl_ok D) (i : Nat) : fl_ok (D_p D i) := by
  refine ⟨Nat.le_trans ok.1 (Nat.le_add_right _ _), fun a ha => ?_⟩
  have ha : (a == D.1 || D.2.1 a) = true := ha
  show a + 6 ≤ D.1 + 6
  rcases Bool.or_eq_true_iff.mp ha with h | h
  · have : a = D.1 := by simpa using h
    omega
  · have := ok.2 a h; omega
theorem D_q_ok {D : fl_D} (ok : fl_ok D) (i : Nat) : fl_ok (D_q D i) := D_p_ok ok i
theorem isY_new {D D' : fl_D} (ok : fl_ok D) (hy : D'.2.1 = fun x => x == D.1 || D.2.1 x) : isY D' D.1 := by
  have no : ∀ j, 0 < j → (D.1 + j == D.1 || D.2.1 (D.1 + j)) = false := fun j hj => by
    have e1 : (D.1 + j == D.1) = false := by simp; omega
    rw [e1, Bool.false_or]
    cases h : D.2.1 (D.1 + j) with
    | false => rfl
    | true => have := ok.2 _ h; omega
  refine Or.inr (Or.inr ⟨ok.1, ?_⟩)
  rw [hy]
  exact ⟨by simp, no 1 (by omega), no 2 (by omega), no 3 (by omega), no 4 (by omega), no 5 (by omega)⟩
theorem isY_old {D D' : fl_D} (ok : fl_ok D) (hy : D'.2.1 = fun x => x == D.1 || D.2.1 x) {a : Nat} (h : isY D a) : isY D' a := by
  rcases h with h | h | ⟨h0, h1, h2, h3, h4, h5, h6⟩
  · exact Or.inl h
  · exact Or.inr (Or.inl h)
  · have hb := ok.2 a h1
    have no : ∀ j, j ≤ 5 → (a + j == D.1) = false := fun j hj => by
      have : a + j ≠ D.1 := by omega
      simpa using this
    refine Or.inr (Or.inr ⟨h0, ?_⟩)
    rw [hy]
    exact ⟨by simp [h1], by simp [no 1 (by omega), h2], by simp [no 2 (by omega), h3], by simp [no 3 (by omega), h4], by simp [no 4 (by omega), h5], by simp [no 5 (by omega), h6]⟩
/-! Past.keep -/
/-- the memory behind keep, the Yard of the past standing at p -/
def k_53 (fu : Nat) (p : Nat) (s : fl_I) (l : fl_L) : fl_I × fl_L := (wi (f_X10_copy fu p 31 s l).1 43 0 (i_min 40 ((f_X10_copy fu p 31 s l).1 43 0 + 1)), (f_X10_copy fu p 31 s l).2)
set_option maxRecDepth 100000 in
set_option maxHeartbeats 1000000 in
theorem s_keep53 {G : ab_G} {fu : Nat} {d : Nat} {D : fl_D} {s : fl_I} {l : fl_L} {p : Nat} (hY : isY D p) (hi : vp_in (s 43 2) 40) (hpr : D.2.2.2.2.1 (s 43 2).toNatClampNeg = some p) (hk : p_X10_copy fu p 31 s l) : ab_C G (d + 1) 0 0 M_X2_keep 53 [some (.ref 43), some (.ref 31)] [] (hp D s l) (rt none (hp D (k_53 fu p s l).1 (k_53 fu p s l).2)) := by
  refine r_aload_n rfl rfl ?_
  refine q_getfield rfl (cc_43 _) rfl ?_
  refine r_aload_n rfl rfl ?_
  refine q_getfield rfl (cc_43 _) rfl ?_
  refine q_aald rfl (cc_44 _) hi ?_
  rw [hpr]
  show ab_C _ _ _ _ _ _ _ (.ref p :: []) _ _
  refine r_aload_n rfl rfl ?_
  refine q_callV0 [_] _ rfl kY_X10_copy kT_X10_copy rfl rfl (Nat.le_of_ble_eq_true rfl) (Nat.le_of_ble_eq_true rfl) (cY_0 hY) (s_X10_copy hY (Or.inl rfl) hk) (fun r h q => ?_)
  obtain ⟨rfl, rfl⟩ := q
  simp only [Option.toList, List.cons_append, List.nil_append]
  refine r_aload_n rfl rfl ?_
  refine r_bipush_ (a := 40) rfl (by decide) ?_
  refine r_aload_n rfl rfl ?_
  refine q_getfield rfl (cc_43 _) rfl ?_
  refine r_iconst_ (a := 1) rfl (by decide) ?_
  refine r_iadd rfl ?_
  refine r_mmin rfl (Nat.le_of_ble_eq_true rfl) ?_
  refine w_put rfl (cc_43 _) ff_2_0 ft_2_0 (fun _ _ => (Nat.le_of_ble_eq_true rfl)) (fun _ _ => rfl) ?_
  refine r_ret rfl rfl ?_
  exact ⟨rfl, rfl⟩
def k_n (s : fl_I) : Int32 := if s 43 2 + 1 < 40 then s 43 2 + 1 else 0
/-- keep, from the place where the Yard is looked for -/
def k_25 (fu : Nat) (D : fl_D) (s : fl_I) (l : fl_L) : fl_D × fl_I × fl_L := match D.2.2.2.2.1 (s 43 2).toNatClampNeg with
  | some p => (D, k_53 fu p s l)
  | none => (D_p D (s 43 2).toNatClampNeg, k_53 fu D.1 (sz s D.1) l)
def f_keep (fu : Nat) (D : fl_D) (s : fl_I) (l : fl_L) : fl_D × fl_I × fl_L := k_25 fu D (wi s 43 2 (k_n s)) l
theorem sz_low {s : fl_I} {n q : Nat} (h : q < n) : sz s n q = s q := by unfold sz; rw [if_neg (by omega)]
set_option maxRecDepth 100000 in
set_option maxHeartbeats 1000000 in
theorem s_keep25 {G : ab_G} {fu : Nat} {d : Nat} {D : fl_D} {s : fl_I} {l : fl_L} (ok : fl_ok D) (hpY : ∀ i p, D.2.2.2.2.1 i = some p → isY D p) (hi : vp_in (s 43 2) 40) : ab_C G (d + 1) 6 84 M_X2_keep 25 [some (.ref 43), some (.ref 31)] [] (hp D s l) (rt none (hp (k_25 fu D s l).1 (k_25 fu D s l).2.1 (k_25 fu D s l).2.2)) := by
  have ok1 := ok.1
  refine r_aload_n rfl rfl ?_
  refine q_getfield rfl (cc_43 _) rfl ?_
  refine r_aload_n rfl rfl ?_
  refine q_getfield rfl (cc_43 _) rfl ?_
  refine q_aald rfl (cc_44 _) hi ?_
  unfold k_25
  cases hpr : D.2.2.2.2.1 (s 43 2).toNatClampNeg with
  | some p =>
    show ab_C _ _ _ _ _ _ _ (.ref p :: []) _ _
    refine r_ifnonnull rfl ?_
    exact r_room (s_keep53 (hpY _ _ hpr) hi hpr trivial) (Nat.zero_le _) (Nat.zero_le _)
  | none =>
    show ab_C _ _ _ _ _ _ _ (.null :: []) _ _
    refine r_ifnonnullN rfl ?_
    refine r_aload_n rfl rfl ?_
    refine q_getfield rfl (cc_43 _) rfl ?_
    refine r_aload_n rfl rfl ?_
    refine q_getfield rfl (cc_43 _) rfl ?_
    refine r_new (kc := 5) (ks := 76) (N := 8) rfl df_10 rfl ?_
    refine r_dup rfl rfl ?_
    refine r_callIN (kc := 0) (ks := 0) (kc1 := 5) (ks1 := 76) [] _ rfl kY_X10_init kT_X10_init rfl rfl rfl rfl (Nat.le_of_ble_eq_true rfl) (Nat.le_of_ble_eq_true rfl) (s_X10_init (ab_n_same _ _) (Nat.lt_succ_self _)) (fun r h q => ?_)
    obtain ⟨rfl, rfl⟩ := q
    simp only [Option.toList, List.nil_append]
    have hc44 : (y_in (ab_n (hp D s l) (.inr (10, [.int 0, .int 0, .int 0, .null, .null, .null, .null, .null]))) D.1).1 44 = some (.inl (4, 40, .inr (.inr (.inr (.inr D.2.2.2.2.1))))) := by
      show (if 44 = D.1 then _ else if 44 = D.1 + 1 ∨ 44 = D.1 + 1 + 1 then _ else if 44 = D.1 + 1 + 2 ∨ (44 = D.1 + 1 + 3 ∨ 44 = D.1 + 1 + 4) then _ else (if 44 = D.1 then _ else cl D 44 (s 44) (l 44))) = _
      rw [if_neg (by omega), if_neg (by omega), if_neg (by omega), if_neg (by omega)]
      exact cc_44 D _ _
    have hcN : (y_in (ab_n (hp D s l) (.inr (10, [.int 0, .int 0, .int 0, .null, .null, .null, .null, .null]))) D.1).1 D.1 = some (y_ob D.1 (D.1 + 1)) := by
      show (if D.1 = D.1 then _ else _) = _
      rw [if_pos rfl]
      rfl
    refine r_aast (fs := _) rfl hc44 hcN hi ?_
    rw [show (hp D s l).2 = D.1 from rfl, hp_p ok]
    have e43 : sz s D.1 43 = s 43 := sz_low (by omega)
    refine s_keep53 (D := D_p D (s 43 2).toNatClampNeg) (s := sz s D.1) (p := D.1) (isY_new ok rfl) (by rw [e43]; exact hi) ?_ trivial
    rw [e43]
    show va_up D.2.2.2.2.1 (s 43 2).toNatClampNeg (some D.1) (s 43 2).toNatClampNeg = some D.1
    simp [va_up]
set_option maxRecDepth 100000 in
set_option maxHeartbeats 1000000 in
/-- Past.keep -/
theorem s_keep {G : ab_G} {fu : Nat} {d : Nat} {D : fl_D} {s : fl_I} {l : fl_L} (ok : fl_ok D) (hpY : ∀ i p, D.2.2.2.2.1 i = some p → isY D p) (hi : vp_in (k_n s) 40) : ab_C G (d + 1) 6 84 M_X2_keep 0 (ab_ent [.ref 43, .ref 31]) [] (hp D s l) (rt none (hp (f_keep fu D s l).1 (f_keep fu D s l).2.1 (f_keep fu D s l).2.2)) := by
  have e2 : wi s 43 2 (k_n s) 43 2 = k_n s := by simp [wi, su, upd]
  have go : ab_C G (d + 1) 6 84 M_X2_keep 22 [some (.ref 43), some (.ref 31)] [.int (k_n s), .ref 43] (hp D s l) (rt none (hp (f_keep fu D s l).1 (f_keep fu D s l).2.1 (f_keep fu D s l).2.2)) := by
    refine w_put rfl (cc_43 _) ff_2_2 ft_2_2 (fun _ _ => (Nat.le_of_ble_eq_true rfl)) (fun _ _ => rfl) ?_
    exact s_keep25 ok hpY (by rw [e2]; exact hi)
  refine r_aload_n rfl rfl ?_
  refine r_aload_n rfl rfl ?_
  refine q_getfield rfl (cc_43 _) rfl ?_
  refine r_iconst_ (a := 1) rfl (by decide) ?_
  refine r_iadd rfl ?_
  refine r_bipush_ (a := 40) rfl (by decide) ?_
  refine r_icmp_lt rfl (fun c_9 => ?_) (fun c_9 => ?_)
  · have e : k_n s = s 43 2 + 1 := if_pos c_9
    refine r_aload_n rfl rfl ?_
    refine q_getfield rfl (cc_43 _) rfl ?_
    refine r_iconst_ (a := 1) rfl (by decide) ?_
    refine r_iadd rfl ?_
    rw [← e]
    exact go
  · have e : k_n s = 0 := if_neg c_9
    refine r_iconst_ (a := 0) rfl (by decide) ?_
    refine r_goto rfl ?_
    rw [← e]
    exact go
/-! Past.bringBack -/
def b_21 (fu : Nat) (p : Nat) (s : fl_I) (l : fl_L) : fl_I × fl_L :=
  let m := f_X10_copy fu 31 p s l
  let s1 := if m.1 43 2 = 0 then wi m.1 43 2 39 else wi m.1 43 2 (m.1 43 2 - 1)
  (wi s1 43 0 (s1 43 0 - 1), m.2)
def f_bring (fu : Nat) (D : fl_D) (s : fl_I) (l : fl_L) : Int32 × fl_I × fl_L := if s 43 0 ≤ 0 then (0, s, l) else match D.2.2.2.2.1 (s 43 2).toNatClampNeg with
  | some p => (1, b_21 fu p s l)
  | none => (0, s, l)
set_option maxRecDepth 100000 in
set_option maxHeartbeats 1000000 in
/-- Past.bringBack -/
theorem s_bring {G : ab_G} {fu : Nat} {d : Nat} {D : fl_D} {s : fl_I} {l : fl_L} (hpY : ∀ i p, D.2.2.2.2.1 i = some p → isY D p) (hi : vp_in (s 43 2) 40) : ab_C G (d + 1) 0 0 M_X2_bringBack 0 (ab_ent [.ref 43, .ref 31]) [] (hp D s l) (rt (some (.int (f_bring fu D s l).1)) (hp D (f_bring fu D s l).2.1 (f_bring fu D s l).2.2)) := by
  unfold f_bring
  refine r_aload_n rfl rfl ?_
  refine q_getfield rfl (cc_43 _) rfl ?_
  refine r_if_le rfl (fun c_4 => ?_) (fun c_4 => ?_)
  · rw [if_pos c_4]
    refine r_iconst_ (a := 0) rfl (by decide) ?_
    refine r_iret rfl rfl rfl ?_
    exact ⟨rfl, rfl⟩
  · rw [if_neg c_4]
    refine r_aload_n rfl rfl ?_
    refine q_getfield rfl (cc_43 _) rfl ?_
    refine r_aload_n rfl rfl ?_
    refine q_getfield rfl (cc_43 _) rfl ?_
    refine q_aald rfl (cc_44 _) hi ?_
    cases hpr : D.2.2.2.2.1 (s 43 2).toNatClampNeg with
    | none =>
      show ab_C _ _ _ _ _ _ _ (.null :: []) _ _
      refine r_ifnonnullN rfl ?_
      refine r_iconst_ (a := 0) rfl (by decide) ?_
      refine r_iret rfl rfl rfl ?_
      exact ⟨rfl, rfl⟩
    | some p =>
      show ab_C _ _ _ _ _ _ _ (.ref p :: []) _ _
      refine r_ifnonnull rfl ?_
      refine r_aload_n rfl rfl ?_
      refine r_aload_n rfl rfl ?_
      refine q_getfield rfl (cc_43 _) rfl ?_
      refine r_aload_n rfl rfl ?_
      refine q_getfield rfl (cc_43 _) rfl ?_
      refine q_aald rfl (cc_44 _) hi ?_
      rw [hpr]
      show ab_C _ _ _ _ _ _ _ (.ref p :: .ref 31 :: []) _ _
      refine q_callV0 [_] _ rfl kY_X10_copy kT_X10_copy rfl rfl (Nat.le_of_ble_eq_true rfl) (Nat.le_of_ble_eq_true rfl) (cc_31 _) (s_X10_copy (fu := fu) (Or.inl rfl) (hpY _ _ hpr) trivial) (fun r h q => ?_)
      obtain ⟨rfl, rfl⟩ := q
      simp only [Option.toList, List.cons_append, List.nil_append]
      unfold b_21
      generalize f_X10_copy fu 31 p s l = m
      dsimp only
      refine r_aload_n rfl rfl ?_
      refine r_aload_n rfl rfl ?_
      refine q_getfield rfl (cc_43 _) rfl ?_
      refine r_if_ne rfl (fun c_39 => ?_) (fun c_39 => ?_)
      · rw [if_neg c_39]
        refine r_aload_n rfl rfl ?_
        refine q_getfield rfl (cc_43 _) rfl ?_
        refine r_iconst_ (a := 1) rfl (by decide) ?_
        refine r_isub rfl ?_
        refine w_put rfl (cc_43 _) ff_2_2 ft_2_2 (fun _ _ => (Nat.le_of_ble_eq_true rfl)) (fun _ _ => rfl) ?_
        refine r_aload_n rfl rfl ?_
        refine r_dup rfl rfl ?_
        refine q_getfield rfl (cc_43 _) rfl ?_
        refine r_iconst_ (a := 1) rfl (by decide) ?_
        refine r_isub rfl ?_
        refine w_put rfl (cc_43 _) ff_2_0 ft_2_0 (fun _ _ => (Nat.le_of_ble_eq_true rfl)) (fun _ _ => rfl) ?_
        refine r_iconst_ (a := 1) rfl (by decide) ?_
        refine r_iret rfl rfl rfl ?_
        exact ⟨rfl, rfl⟩
      · rw [if_pos c_39]
        refine r_bipush_ (a := 39) rfl (by decide) ?_
        refine r_goto rfl ?_
        refine w_put rfl (cc_43 _) ff_2_2 ft_2_2 (fun _ _ => (Nat.le_of_ble_eq_true rfl)) (fun _ _ => rfl) ?_
        refine r_aload_n rfl rfl ?_
        refine r_dup rfl rfl ?_
        refine q_getfield rfl (cc_43 _) rfl ?_
        refine r_iconst_ (a := 1) rfl (by decide) ?_
        refine r_isub rfl ?_
        refine w_put rfl (cc_43 _) ff_2_0 ft_2_0 (fun _ _ => (Nat.le_of_ble_eq_true rfl)) (fun _ _ => rfl) ?_
        refine r_iconst_ (a := 1) rfl (by decide) ?_
        refine r_iret rfl rfl rfl ?_
        exact ⟨rfl, rfl⟩
