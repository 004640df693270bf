theorem ab_inB {x b : Int32} {n : Nat} (hb : b = nI n) (hn : n < 2 ^ 31) (h1 : ¬ x < 0) (h2 : ¬ b ≤ x) : vp_in x n := by
  obtain ⟨j, hj, rfl⟩ := nI_of h1
  refine vp_in_nI ?_ hn
  rcases Nat.lt_or_ge j n with h | h
  · exact h
  · exact absurd (by rw [hb]; exact nI_le h hj) h2
theorem pt_addCode (fu : Nat) (v : Int32) (t : Nat) (s : fl_I) (l : fl_L) : p_X5_addCode fu v t s l := ⟨fun _ => trivial, fun h1 => ⟨fun _ => trivial, fun h2 => ⟨ab_inB (by decide) (by decide) h1 h2, trivial⟩⟩⟩
theorem pt_clear (fu t : Nat) (s : fl_I) (l : fl_L) : p_X5_clear fu t s l := by
  unfold p_X5_clear
  refine ⟨pt_addCode _ _ _ _ _, ?_⟩
  unfold p_X5_clear_60
  refine ⟨pt_addCode _ _ _ _ _, ?_⟩
  unfold p_X5_clear_66
  refine ⟨pt_addCode _ _ _ _ _, ?_⟩
  unfold p_X5_clear_91
  exact ⟨pt_addCode _ _ _ _ _, trivial⟩
/-- a Text's cells, the first at n -/
def T5 (n : Nat) (s : fl_I) (l : fl_L) : List ab_E := [.inr (5, [.int (s (n) 0), .int (s (n) 1), .int (s (n) 2), .int (s (n) 3), .ref (n + 1), .ref (n + 2), .ref (n + 3), .ref (n + 4), .ref (n + 5), .ref (n + 6), .ref (n + 7), .ref (n + 8), .ref (n + 9), .ref (n + 10), .int (s (n) 14), .int (s (n) 15), .int (s (n) 16), .int (s (n) 17), .int (s (n) 18)]), .inl (1, 4, .inr (.inl (l (n + 1)))), .inl (1, 8, .inr (.inl (l (n + 2)))), .inl (1, 4, .inr (.inl (l (n + 3)))), .inl (0, 32, .inl (s (n + 4))), .inl (0, 32, .inl (s (n + 5))), .inl (0, 32, .inl (s (n + 6))), .inl (0, 4, .inl (s (n + 7))), .inl (0, 4, .inl (s (n + 8))), .inl (0, 408, .inl (s (n + 9))), .inl (0, 3, .inl (s (n + 10)))]
def C5 (cs : List ab_E) : Nat → (Nat → Int32) → (Nat → Int64) → Option ab_E := fun x f g => if x < cs.length then cs[x]? else (let n := cs.length; [.inr (5, [.int (f 0), .int (f 1), .int (f 2), .int (f 3), .ref (n + 1), .ref (n + 2), .ref (n + 3), .ref (n + 4), .ref (n + 5), .ref (n + 6), .ref (n + 7), .ref (n + 8), .ref (n + 9), .ref (n + 10), .int (f 14), .int (f 15), .int (f 16), .int (f 17), .int (f 18)]), .inl (1, 4, .inr (.inl (g))), .inl (1, 8, .inr (.inl (g))), .inl (1, 4, .inr (.inl (g))), .inl (0, 32, .inl (f)), .inl (0, 32, .inl (f)), .inl (0, 32, .inl (f)), .inl (0, 4, .inl (f)), .inl (0, 4, .inl (f)), .inl (0, 408, .inl (f)), .inl (0, 3, .inl (f))][x - cs.length]?)
theorem hl_T5 (cs : List ab_E) (s : fl_I) (l : fl_L) : hl (cs ++ T5 cs.length s l) = hg (C5 cs) (cs.length + 11) s l := by
  refine Prod.ext ?_ ?_
  · funext x
    show (cs ++ T5 cs.length s l)[x]? = C5 cs x (s x) (l x)
    unfold C5
    by_cases h : x < cs.length
    · rw [if_pos h, List.getElem?_append_left h]
    · rw [if_neg h, List.getElem?_append_right (by omega)]
      obtain ⟨k, rfl⟩ : ∃ k, x = cs.length + k := ⟨x - cs.length, by omega⟩
      rw [Nat.add_sub_cancel_left]
      match k with
      | 0 => rfl
      | 1 => rfl
      | 2 => rfl
      | 3 => rfl
      | 4 => rfl
      | 5 => rfl
      | 6 => rfl
      | 7 => rfl
      | 8 => rfl
      | 9 => rfl
      | 10 => rfl
      | k + 11 => rfl
  · simp [hl, hg, T5]
theorem gT_C5 (cs : List ab_E) : gT (C5 cs) cs.length := by
  unfold gT C5
  refine ⟨?_, ?_, ?_, ?_, ?_, ?_, ?_, ?_, ?_, ?_, ?_⟩ <;> intro f g <;> simp
set_option maxRecDepth 100000 in
set_option maxHeartbeats 2000000 in
/-- Text() -/
theorem i_X5 {G : ab_G} {fu d : Nat} {c0 : List ab_E} : ab_C G (d + 2) 10 531 M_X5_init 0 (ab_ent [.ref c0.length]) [] (hl (c0 ++ [.inr (5, [.int 0, .int 0, .int 0, .int 0, .null, .null, .null, .null, .null, .null, .null, .null, .null, .null, .int 0, .int 0, .int 0, .int 0, .int 0])])) (rt none (hl (c0 ++ T5 c0.length (f_X5_clear fu c0.length (fun _ _ => 0) (fun _ _ => 0)).1 (f_X5_clear fu c0.length (fun _ _ => 0) (fun _ _ => 0)).2))) := by
  rw [hl_T5]
  generalize hcs : c0 ++ [.inr (5, [.int 0, .int 0, .int 0, .int 0, .null, .null, .null, .null, .null, .null, .null, .null, .null, .null, .int 0, .int 0, .int 0, .int 0, .int 0])] = cs
  generalize hq0 : c0.length = q
  have hq : cs[q]? = some (.inr (5, [.int 0, .int 0, .int 0, .int 0, .null, .null, .null, .null, .null, .null, .null, .null, .null, .null, .int 0, .int 0, .int 0, .int 0, .int 0])) := by rw [← hcs, ← hq0]; simp
  have hlen : cs.length = q + 1 := by rw [← hcs, ← hq0]; simp
  have hlt := hl_lt hq
  rw [hl_start hq]
  refine r_aload_n rfl rfl ?_
  refine r_objinit rfl (Nat.le_of_ble_eq_true rfl) ?_
  refine r_aload_n rfl rfl ?_
  refine r_iconst_ (a := 4) rfl (by decide) ?_
  refine r_newarray (kc := 9) (ks := 527) (ty := .long) (kd := 1) (a0 := (4, .inr (.inl fun _ => 0))) (N := 4) rfl rfl (fun _ => rfl) (fun _ h9 => by cases h9) (fun _ => rfl) (by decide) (by decide) (by decide) ?_
  rw [hl_new, hl_len, List.append_assoc]
  simp only [List.cons_append, List.nil_append, List.length_cons, List.length_nil, Nat.zero_add, Nat.reduceAdd, Nat.add_zero]
  refine r_putfieldF rfl (hl_get hlt) (by decide +kernel) rfl (by decide +kernel) (ty := .array .long) (by decide +kernel) rfl rfl (Nat.le_of_ble_eq_true rfl) (show _ = [.int 0, .int 0, .int 0, .int 0, .ref cs.length, .null, .null, .null, .null, .null, .null, .null, .null, .null, .int 0, .int 0, .int 0, .int 0, .int 0] from rfl) ?_
  rw [hl_put hlt]
  refine r_aload_n rfl rfl ?_
  refine r_bipush_ (a := 8) rfl (by decide) ?_
  refine r_newarray (kc := 8) (ks := 519) (ty := .long) (kd := 1) (a0 := (8, .inr (.inl fun _ => 0))) (N := 8) rfl rfl (fun _ => rfl) (fun _ h9 => by cases h9) (fun _ => rfl) (by decide) (by decide) (by decide) ?_
  rw [hl_new, hl_len, List.append_assoc]
  simp only [List.cons_append, List.nil_append, List.length_cons, List.length_nil, Nat.zero_add, Nat.reduceAdd, Nat.add_zero]
  refine r_putfieldF rfl (hl_get hlt) (by decide +kernel) rfl (by decide +kernel) (ty := .array .long) (by decide +kernel) rfl rfl (Nat.le_of_ble_eq_true rfl) (show _ = [.int 0, .int 0, .int 0, .int 0, .ref cs.length, .ref (cs.length + 1), .null, .null, .null, .null, .null, .null, .null, .null, .int 0, .int 0, .int 0, .int 0, .int 0] from rfl) ?_
  rw [hl_put hlt]
  refine r_aload_n rfl rfl ?_
  refine r_iconst_ (a := 4) rfl (by decide) ?_
  refine r_newarray (kc := 7) (ks := 515) (ty := .long) (kd := 1) (a0 := (4, .inr (.inl fun _ => 0))) (N := 4) rfl rfl (fun _ => rfl) (fun _ h9 => by cases h9) (fun _ => rfl) (by decide) (by decide) (by decide) ?_
  rw [hl_new, hl_len, List.append_assoc]
  simp only [List.cons_append, List.nil_append, List.length_cons, List.length_nil, Nat.zero_add, Nat.reduceAdd, Nat.add_zero]
  refine r_putfieldF rfl (hl_get hlt) (by decide +kernel) rfl (by decide +kernel) (ty := .array .long) (by decide +kernel) rfl rfl (Nat.le_of_ble_eq_true rfl) (show _ = [.int 0, .int 0, .int 0, .int 0, .ref cs.length, .ref (cs.length + 1), .ref (cs.length + 2), .null, .null, .null, .null, .null, .null, .null, .int 0, .int 0, .int 0, .int 0, .int 0] from rfl) ?_
  rw [hl_put hlt]
  refine r_aload_n rfl rfl ?_
  refine r_bipush_ (a := 32) rfl (by decide) ?_
  refine r_newarray (kc := 6) (ks := 483) (ty := .int) (kd := 0) (a0 := (32, .inl fun _ => 0)) (N := 32) rfl rfl (fun _ => rfl) (fun _ h9 => by cases h9) (fun _ => rfl) (by decide) (by decide) (by decide) ?_
  rw [hl_new, hl_len, List.append_assoc]
  simp only [List.cons_append, List.nil_append, List.length_cons, List.length_nil, Nat.zero_add, Nat.reduceAdd, Nat.add_zero]
  refine r_putfieldF rfl (hl_get hlt) (by decide +kernel) rfl (by decide +kernel) (ty := .array .int) (by decide +kernel) rfl rfl (Nat.le_of_ble_eq_true rfl) (show _ = [.int 0, .int 0, .int 0, .int 0, .ref cs.length, .ref (cs.length + 1), .ref (cs.length + 2), .ref (cs.length + 3), .null, .null, .null, .null, .null, .null, .int 0, .int 0, .int 0, .int 0, .int 0] from rfl) ?_
  rw [hl_put hlt]
  refine r_aload_n rfl rfl ?_
  refine r_bipush_ (a := 32) rfl (by decide) ?_
  refine r_newarray (kc := 5) (ks := 451) (ty := .int) (kd := 0) (a0 := (32, .inl fun _ => 0)) (N := 32) rfl rfl (fun _ => rfl) (fun _ h9 => by cases h9) (fun _ => rfl) (by decide) (by decide) (by decide) ?_
  rw [hl_new, hl_len, List.append_assoc]
  simp only [List.cons_append, List.nil_append, List.length_cons, List.length_nil, Nat.zero_add, Nat.reduceAdd, Nat.add_zero]
  refine r_putfieldF rfl (hl_get hlt) (by decide +kernel) rfl (by decide +kernel) (ty := .array .int) (by decide +kernel) rfl rfl (Nat.le_of_ble_eq_true rfl) (show _ = [.int 0, .int 0, .int 0, .int 0, .ref cs.length, .ref (cs.length + 1), .ref (cs.length + 2), .ref (cs.length + 3), .ref (cs.length + 4), .null, .null, .null, .null, .null, .int 0, .int 0, .int 0, .int 0, .int 0] from rfl) ?_
  rw [hl_put hlt]
  refine r_aload_n rfl rfl ?_
  refine r_bipush_ (a := 32) rfl (by decide) ?_
  refine r_newarray (kc := 4) (ks := 419) (ty := .int) (kd := 0) (a0 := (32, .inl fun _ => 0)) (N := 32) rfl rfl (fun _ => rfl) (fun _ h9 => by cases h9) (fun _ => rfl) (by decide) (by decide) (by decide) ?_
  rw [hl_new, hl_len, List.append_assoc]
  simp only [List.cons_append, List.nil_append, List.length_cons, List.length_nil, Nat.zero_add, Nat.reduceAdd, Nat.add_zero]
  refine r_putfieldF rfl (hl_get hlt) (by decide +kernel) rfl (by decide +kernel) (ty := .array .int) (by decide +kernel) rfl rfl (Nat.le_of_ble_eq_true rfl) (show _ = [.int 0, .int 0, .int 0, .int 0, .ref cs.length, .ref (cs.length + 1), .ref (cs.length + 2), .ref (cs.length + 3), .ref (cs.length + 4), .ref (cs.length + 5), .null, .null, .null, .null, .int 0, .int 0, .int 0, .int 0, .int 0] from rfl) ?_
  rw [hl_put hlt]
  refine r_aload_n rfl rfl ?_
  refine r_iconst_ (a := 4) rfl (by decide) ?_
  refine r_newarray (kc := 3) (ks := 415) (ty := .int) (kd := 0) (a0 := (4, .inl fun _ => 0)) (N := 4) rfl rfl (fun _ => rfl) (fun _ h9 => by cases h9) (fun _ => rfl) (by decide) (by decide) (by decide) ?_
  rw [hl_new, hl_len, List.append_assoc]
  simp only [List.cons_append, List.nil_append, List.length_cons, List.length_nil, Nat.zero_add, Nat.reduceAdd, Nat.add_zero]
  refine r_putfieldF rfl (hl_get hlt) (by decide +kernel) rfl (by decide +kernel) (ty := .array .int) (by decide +kernel) rfl rfl (Nat.le_of_ble_eq_true rfl) (show _ = [.int 0, .int 0, .int 0, .int 0, .ref cs.length, .ref (cs.length + 1), .ref (cs.length + 2), .ref (cs.length + 3), .ref (cs.length + 4), .ref (cs.length + 5), .ref (cs.length + 6), .null, .null, .null, .int 0, .int 0, .int 0, .int 0, .int 0] from rfl) ?_
  rw [hl_put hlt]
  refine r_aload_n rfl rfl ?_
  refine r_iconst_ (a := 4) rfl (by decide) ?_
  refine r_newarray (kc := 2) (ks := 411) (ty := .int) (kd := 0) (a0 := (4, .inl fun _ => 0)) (N := 4) rfl rfl (fun _ => rfl) (fun _ h9 => by cases h9) (fun _ => rfl) (by decide) (by decide) (by decide) ?_
  rw [hl_new, hl_len, List.append_assoc]
  simp only [List.cons_append, List.nil_append, List.length_cons, List.length_nil, Nat.zero_add, Nat.reduceAdd, Nat.add_zero]
  refine r_putfieldF rfl (hl_get hlt) (by decide +kernel) rfl (by decide +kernel) (ty := .array .int) (by decide +kernel) rfl rfl (Nat.le_of_ble_eq_true rfl) (show _ = [.int 0, .int 0, .int 0, .int 0, .ref cs.length, .ref (cs.length + 1), .ref (cs.length + 2), .ref (cs.length + 3), .ref (cs.length + 4), .ref (cs.length + 5), .ref (cs.length + 6), .ref (cs.length + 7), .null, .null, .int 0, .int 0, .int 0, .int 0, .int 0] from rfl) ?_
  rw [hl_put hlt]
  refine r_aload_n rfl rfl ?_
  refine r_sipush_ (a := 408) rfl (by decide) ?_
  refine r_newarray (kc := 1) (ks := 3) (ty := .int) (kd := 0) (a0 := (408, .inl fun _ => 0)) (N := 408) rfl rfl (fun _ => rfl) (fun _ h9 => by cases h9) (fun _ => rfl) (by decide) (by decide) (by decide) ?_
  rw [hl_new, hl_len, List.append_assoc]
  simp only [List.cons_append, List.nil_append, List.length_cons, List.length_nil, Nat.zero_add, Nat.reduceAdd, Nat.add_zero]
  refine r_putfieldF rfl (hl_get hlt) (by decide +kernel) rfl (by decide +kernel) (ty := .array .int) (by decide +kernel) rfl rfl (Nat.le_of_ble_eq_true rfl) (show _ = [.int 0, .int 0, .int 0, .int 0, .ref cs.length, .ref (cs.length + 1), .ref (cs.length + 2), .ref (cs.length + 3), .ref (cs.length + 4), .ref (cs.length + 5), .ref (cs.length + 6), .ref (cs.length + 7), .ref (cs.length + 8), .null, .int 0, .int 0, .int 0, .int 0, .int 0] from rfl) ?_
  rw [hl_put hlt]
  refine r_aload_n rfl rfl ?_
  refine r_iconst_ (a := 3) rfl (by decide) ?_
  refine r_newarray (kc := 0) (ks := 0) (ty := .int) (kd := 0) (a0 := (3, .inl fun _ => 0)) (N := 3) rfl rfl (fun _ => rfl) (fun _ h9 => by cases h9) (fun _ => rfl) (by decide) (by decide) (by decide) ?_
  rw [hl_new, hl_len, List.append_assoc]
  simp only [List.cons_append, List.nil_append, List.length_cons, List.length_nil, Nat.zero_add, Nat.reduceAdd, Nat.add_zero]
  refine r_putfieldF rfl (hl_get hlt) (by decide +kernel) rfl (by decide +kernel) (ty := .array .int) (by decide +kernel) rfl rfl (Nat.le_of_ble_eq_true rfl) (show _ = [.int 0, .int 0, .int 0, .int 0, .ref cs.length, .ref (cs.length + 1), .ref (cs.length + 2), .ref (cs.length + 3), .ref (cs.length + 4), .ref (cs.length + 5), .ref (cs.length + 6), .ref (cs.length + 7), .ref (cs.length + 8), .ref (cs.length + 9), .int 0, .int 0, .int 0, .int 0, .int 0] from rfl) ?_
  rw [hl_put hlt]
  subst hq0
  have e0 : hl (cs.set c0.length (.inr (5, [.int 0, .int 0, .int 0, .int 0, .ref cs.length, .ref (cs.length + 1), .ref (cs.length + 2), .ref (cs.length + 3), .ref (cs.length + 4), .ref (cs.length + 5), .ref (cs.length + 6), .ref (cs.length + 7), .ref (cs.length + 8), .ref (cs.length + 9), .int 0, .int 0, .int 0, .int 0, .int 0])) ++ [.inl (1, 4, .inr (.inl fun _ => 0)), .inl (1, 8, .inr (.inl fun _ => 0)), .inl (1, 4, .inr (.inl fun _ => 0)), .inl (0, 32, .inl fun _ => 0), .inl (0, 32, .inl fun _ => 0), .inl (0, 32, .inl fun _ => 0), .inl (0, 4, .inl fun _ => 0), .inl (0, 4, .inl fun _ => 0), .inl (0, 408, .inl fun _ => 0), .inl (0, 3, .inl fun _ => 0)]) = hg (C5 c0) (c0.length + 11) (fun _ _ => 0) (fun _ _ => 0) := by
    rw [← hl_T5, hlen, ← hcs, List.set_append_right _ _ (Nat.le_refl _), List.append_assoc]
    simp [T5, Nat.add_assoc]
  rw [e0]
  refine r_aload_n rfl rfl ?_
  refine gq_callV0 [] _ rfl kY_X5_clear kT_X5_clear rfl rfl (Nat.le_of_ble_eq_true rfl) (Nat.le_of_ble_eq_true rfl) (gT_0 (gT_C5 c0)) (sg_X5_clear (fu := fu) (gT_C5 c0) (pt_clear _ _ _ _)) (fun r h q9 => ?_)
  obtain ⟨rfl, rfl⟩ := q9
  refine r_ret rfl rfl ?_
  exact ⟨rfl, rfl⟩

