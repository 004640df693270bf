/-- a heap that is a list of cells -/
def hl (cs : List ab_E) : ab_H := (fun q => cs[q]?, cs.length)
theorem hl_new (cs : List ab_E) (e : ab_E) : ab_n (hl cs) e = hl (cs ++ [e]) := by
  refine Prod.ext ?_ ?_
  · funext x
    show (if x = cs.length then some e else cs[x]?) = (cs ++ [e])[x]?
    by_cases h : x = cs.length
    · subst h; simp
    · rw [if_neg h]
      by_cases h1 : x < cs.length
      · rw [List.getElem?_append_left h1]
      · rw [List.getElem?_eq_none (by omega), List.getElem?_eq_none (by simp; omega)]
  · simp [ab_n, hl]
theorem hl_put {cs news : List ab_E} {q : Nat} {o o' : ab_E} (hq : q < cs.length) : ab_u (hl (cs.set q o ++ news)) q o' = hl (cs.set q o' ++ news) := by
  refine Prod.ext ?_ ?_
  · funext x
    show (if x = q then some o' else (cs.set q o ++ news)[x]?) = (cs.set q o' ++ news)[x]?
    by_cases h : x = q
    · subst h; rw [if_pos rfl, List.getElem?_append_left (by simpa using hq)]; simp [hq]
    · rw [if_neg h]
      by_cases h1 : x < cs.length
      · rw [List.getElem?_append_left (by simpa using h1), List.getElem?_append_left (by simpa using h1), List.getElem?_set_ne (Ne.symm h), List.getElem?_set_ne (Ne.symm h)]
      · rw [List.getElem?_append_right (by simp; omega), List.getElem?_append_right (by simp; omega)]; simp
  · simp [ab_u, hl]
theorem hl_get {cs news : List ab_E} {q : Nat} {o : ab_E} (hq : q < cs.length) : (hl (cs.set q o ++ news)).1 q = some o := by
  show (cs.set q o ++ news)[q]? = some o
  rw [List.getElem?_append_left (by simpa using hq)]
  simp [hq]
theorem hl_start {cs : List ab_E} {q : Nat} {o : ab_E} (hq : cs[q]? = some o) : hl cs = hl (cs.set q o ++ []) := by
  have : cs.set q o = cs := by
    apply List.ext_getElem?
    intro i
    by_cases h : q = i
    · subst h
      have hl := (List.getElem?_eq_some_iff.mp hq).1
      rw [List.getElem?_set_self hl, hq]
    · rw [List.getElem?_set_ne h]
  rw [this, List.append_nil]
theorem hl_lt {cs : List ab_E} {q : Nat} {o : ab_E} (hq : cs[q]? = some o) : q < cs.length := (List.getElem?_eq_some_iff.mp hq).1
theorem hl_len (cs news : List ab_E) (q : Nat) (o : ab_E) : (hl (cs.set q o ++ news)).2 = cs.length + news.length := by simp [hl]
/-- a constructor's end inside another one's heap: the object that it fills is the last cell -/
theorem hl_in {cs news nw : List ab_E} {q : Nat} {o b b' : ab_E} : hl ((cs.set q o ++ news ++ [b]).set (cs.length + news.length) b' ++ nw) = hl (cs.set q o ++ (news ++ [b'] ++ nw)) := by
  congr 1
  rw [List.set_append_right _ _ (by simp)]
  simp

set_option maxRecDepth 100000 in
set_option maxHeartbeats 1000000 in
theorem i_X0 {G : ab_G} {d : Nat} {cs : List ab_E} {q : Nat} (hq : cs[q]? = some (.inr (0, [.null]))) : ab_C G d 1 32 M_X0_init 0 (ab_ent [.ref q]) [] (hl cs) (rt none (hl (cs.set q (.inr (0, [.ref cs.length])) ++ [.inl (0, 32, .inl fun _ => 0)]))) := by
  have hlt := hl_lt hq
  rw [hl_start hq]
  refine r_aload_n rfl rfl ?_
  refine r_objinit rfl (Nat.le_of_ble_eq_true rfl) ?_
  refine r_aload_n rfl rfl ?_
  refine r_bipush_ (a := 32) rfl (by decide) ?_
  refine r_newarray (kc := 0) (ks := 0) (ty := .int) (kd := 0) (a0 := (32, .inl fun _ => 0)) (N := 32) rfl rfl (fun _ => rfl) (fun _ h9 => by cases h9) (fun _ => rfl) (by decide) (by decide) (by decide) ?_
  rw [hl_new, hl_len, List.append_assoc]
  simp only [List.cons_append, List.nil_append, List.length_cons, List.length_nil, Nat.zero_add, Nat.reduceAdd, Nat.add_zero]
  refine r_putfieldF rfl (hl_get hlt) (by decide +kernel) rfl (by decide +kernel) (ty := .array .int) (by decide +kernel) rfl rfl (Nat.le_of_ble_eq_true rfl) (show _ = [.ref cs.length] from rfl) ?_
  rw [hl_put hlt]
  refine r_ret rfl rfl ?_
  exact ⟨rfl, rfl⟩

set_option maxRecDepth 100000 in
set_option maxHeartbeats 1000000 in
theorem i_X1 {G : ab_G} {d : Nat} {cs : List ab_E} {q : Nat} (hq : cs[q]? = some (.inr (1, [.null, .null]))) : ab_C G d 2 41 M_X1_init 0 (ab_ent [.ref q]) [] (hl cs) (rt none (hl (cs.set q (.inr (1, [.ref cs.length, .ref (cs.length + 1)])) ++ [.inl (0, 9, .inl fun _ => 0), .inl (0, 32, .inl fun _ => 0)]))) := by
  have hlt := hl_lt hq
  rw [hl_start hq]
  refine r_aload_n rfl rfl ?_
  refine r_objinit rfl (Nat.le_of_ble_eq_true rfl) ?_
  refine r_aload_n rfl rfl ?_
  refine r_bipush_ (a := 9) rfl (by decide) ?_
  refine r_newarray (kc := 1) (ks := 32) (ty := .int) (kd := 0) (a0 := (9, .inl fun _ => 0)) (N := 9) rfl rfl (fun _ => rfl) (fun _ h9 => by cases h9) (fun _ => rfl) (by decide) (by decide) (by decide) ?_
  rw [hl_new, hl_len, List.append_assoc]
  simp only [List.cons_append, List.nil_append, List.length_cons, List.length_nil, Nat.zero_add, Nat.reduceAdd, Nat.add_zero]
  refine r_putfieldF rfl (hl_get hlt) (by decide +kernel) rfl (by decide +kernel) (ty := .array .int) (by decide +kernel) rfl rfl (Nat.le_of_ble_eq_true rfl) (show _ = [.ref cs.length, .null] from rfl) ?_
  rw [hl_put hlt]
  refine r_aload_n rfl rfl ?_
  refine r_bipush_ (a := 32) rfl (by decide) ?_
  refine r_newarray (kc := 0) (ks := 0) (ty := .int) (kd := 0) (a0 := (32, .inl fun _ => 0)) (N := 32) rfl rfl (fun _ => rfl) (fun _ h9 => by cases h9) (fun _ => rfl) (by decide) (by decide) (by decide) ?_
  rw [hl_new, hl_len, List.append_assoc]
  simp only [List.cons_append, List.nil_append, List.length_cons, List.length_nil, Nat.zero_add, Nat.reduceAdd, Nat.add_zero]
  refine r_putfieldF rfl (hl_get hlt) (by decide +kernel) rfl (by decide +kernel) (ty := .array .int) (by decide +kernel) rfl rfl (Nat.le_of_ble_eq_true rfl) (show _ = [.ref cs.length, .ref (cs.length + 1)] from rfl) ?_
  rw [hl_put hlt]
  refine r_ret rfl rfl ?_
  exact ⟨rfl, rfl⟩

set_option maxRecDepth 100000 in
set_option maxHeartbeats 1000000 in
theorem i_X2 {G : ab_G} {d : Nat} {cs : List ab_E} {q : Nat} (hq : cs[q]? = some (.inr (2, [.int 0, .null, .int 0]))) : ab_C G d 1 40 M_X2_init 0 (ab_ent [.ref q]) [] (hl cs) (rt none (hl (cs.set q (.inr (2, [.int 0, .ref cs.length, .int 0])) ++ [.inl (4, 40, .inr (.inr (.inr (.inr fun _ => none))))]))) := by
  have hlt := hl_lt hq
  rw [hl_start hq]
  refine r_aload_n rfl rfl ?_
  refine r_objinit rfl (Nat.le_of_ble_eq_true rfl) ?_
  refine r_aload_n rfl rfl ?_
  refine r_bipush_ (a := 40) rfl (by decide) ?_
  refine r_anew (kc := 0) (ks := 0) (N := 40) rfl (by decide) (by decide) (by decide) ?_
  rw [hl_new, hl_len, List.append_assoc]
  simp only [List.cons_append, List.nil_append, List.length_cons, List.length_nil, Nat.zero_add, Nat.reduceAdd, Nat.add_zero]
  refine r_putfieldF rfl (hl_get hlt) (by decide +kernel) rfl (by decide +kernel) (ty := .array (.object "ConfettiRound$Yard")) (by decide +kernel) rfl rfl (Nat.le_of_ble_eq_true rfl) (show _ = [.int 0, .ref cs.length, .int 0] from rfl) ?_
  rw [hl_put hlt]
  refine r_ret rfl rfl ?_
  exact ⟨rfl, rfl⟩

set_option maxRecDepth 100000 in
set_option maxHeartbeats 1000000 in
theorem i_X4 {G : ab_G} {d : Nat} {cs : List ab_E} {q : Nat} (hq : cs[q]? = some (.inr (4, [.null, .int 0]))) : ab_C G d 1 2000 M_X4_init 0 (ab_ent [.ref q]) [] (hl cs) (rt none (hl (cs.set q (.inr (4, [.ref cs.length, .int 0])) ++ [.inl (2, 2000, .inl fun _ => 0)]))) := by
  have hlt := hl_lt hq
  rw [hl_start hq]
  refine r_aload_n rfl rfl ?_
  refine r_objinit rfl (Nat.le_of_ble_eq_true rfl) ?_
  refine r_aload_n rfl rfl ?_
  refine r_sipush_ (a := 2000) rfl (by decide) ?_
  refine r_newarray (kc := 0) (ks := 0) (ty := .byte) (kd := 2) (a0 := (2000, .inl fun _ => 0)) (N := 2000) rfl rfl (fun _ => rfl) (fun _ h9 => by cases h9) (fun _ => rfl) (by decide) (by decide) (by decide) ?_
  rw [hl_new, hl_len, List.append_assoc]
  simp only [List.cons_append, List.nil_append, List.length_cons, List.length_nil, Nat.zero_add, Nat.reduceAdd, Nat.add_zero]
  refine r_putfieldF rfl (hl_get hlt) (by decide +kernel) rfl (by decide +kernel) (ty := .array .byte) (by decide +kernel) rfl rfl (Nat.le_of_ble_eq_true rfl) (show _ = [.ref cs.length, .int 0] from rfl) ?_
  rw [hl_put hlt]
  refine r_ret rfl rfl ?_
  exact ⟨rfl, rfl⟩

set_option maxRecDepth 100000 in
set_option maxHeartbeats 1000000 in
theorem i_X7 {G : ab_G} {d : Nat} {cs : List ab_E} {q : Nat} (hq : cs[q]? = some (.inr (7, [.int 0, .null]))) : ab_C G d 1 20 M_X7_init 0 (ab_ent [.ref q]) [] (hl cs) (rt none (hl (cs.set q (.inr (7, [.int 0, .ref cs.length])) ++ [.inl (0, 20, .inl fun _ => 0)]))) := by
  have hlt := hl_lt hq
  rw [hl_start hq]
  refine r_aload_n rfl rfl ?_
  refine r_objinit rfl (Nat.le_of_ble_eq_true rfl) ?_
  refine r_aload_n rfl rfl ?_
  refine r_bipush_ (a := 20) rfl (by decide) ?_
  refine r_newarray (kc := 0) (ks := 0) (ty := .int) (kd := 0) (a0 := (20, .inl fun _ => 0)) (N := 20) rfl rfl (fun _ => rfl) (fun _ h9 => by cases h9) (fun _ => rfl) (by decide) (by decide) (by decide) ?_
  rw [hl_new, hl_len, List.append_assoc]
  simp only [List.cons_append, List.nil_append, List.length_cons, List.length_nil, Nat.zero_add, Nat.reduceAdd, Nat.add_zero]
  refine r_putfieldF rfl (hl_get hlt) (by decide +kernel) rfl (by decide +kernel) (ty := .array .int) (by decide +kernel) rfl rfl (Nat.le_of_ble_eq_true rfl) (show _ = [.int 0, .ref cs.length] from rfl) ?_
  rw [hl_put hlt]
  refine r_ret rfl rfl ?_
  exact ⟨rfl, rfl⟩

set_option maxRecDepth 100000 in
set_option maxHeartbeats 1000000 in
theorem i_X8 {G : ab_G} {d : Nat} {cs : List ab_E} {q : Nat} (hq : cs[q]? = some (.inr (8, [.int 0, .null, .null, .null]))) : ab_C G d 3 90 M_X8_init 0 (ab_ent [.ref q]) [] (hl cs) (rt none (hl (cs.set q (.inr (8, [.int 0, .ref cs.length, .ref (cs.length + 1), .ref (cs.length + 2)])) ++ [.inl (0, 10, .inl fun _ => 0), .inl (0, 80, .inl fun _ => 0), .inl (0, 0, .inl fun _ => 0)]))) := by
  have hlt := hl_lt hq
  rw [hl_start hq]
  refine r_aload_n rfl rfl ?_
  refine r_objinit rfl (Nat.le_of_ble_eq_true rfl) ?_
  refine r_aload_n rfl rfl ?_
  refine r_bipush_ (a := 10) rfl (by decide) ?_
  refine r_newarray (kc := 2) (ks := 80) (ty := .int) (kd := 0) (a0 := (10, .inl fun _ => 0)) (N := 10) rfl rfl (fun _ => rfl) (fun _ h9 => by cases h9) (fun _ => rfl) (by decide) (by decide) (by decide) ?_
  rw [hl_new, hl_len, List.append_assoc]
  simp only [List.cons_append, List.nil_append, List.length_cons, List.length_nil, Nat.zero_add, Nat.reduceAdd, Nat.add_zero]
  refine r_putfieldF rfl (hl_get hlt) (by decide +kernel) rfl (by decide +kernel) (ty := .array .int) (by decide +kernel) rfl rfl (Nat.le_of_ble_eq_true rfl) (show _ = [.int 0, .ref cs.length, .null, .null] from rfl) ?_
  rw [hl_put hlt]
  refine r_aload_n rfl rfl ?_
  refine r_bipush_ (a := 80) rfl (by decide) ?_
  refine r_newarray (kc := 1) (ks := 0) (ty := .int) (kd := 0) (a0 := (80, .inl fun _ => 0)) (N := 80) rfl rfl (fun _ => rfl) (fun _ h9 => by cases h9) (fun _ => rfl) (by decide) (by decide) (by decide) ?_
  rw [hl_new, hl_len, List.append_assoc]
  simp only [List.cons_append, List.nil_append, List.length_cons, List.length_nil, Nat.zero_add, Nat.reduceAdd, Nat.add_zero]
  refine r_putfieldF rfl (hl_get hlt) (by decide +kernel) rfl (by decide +kernel) (ty := .array .int) (by decide +kernel) rfl rfl (Nat.le_of_ble_eq_true rfl) (show _ = [.int 0, .ref cs.length, .ref (cs.length + 1), .null] from rfl) ?_
  rw [hl_put hlt]
  refine r_aload_n rfl rfl ?_
  refine r_iconst_ (a := 0) rfl (by decide) ?_
  refine r_newarray (kc := 0) (ks := 0) (ty := .int) (kd := 0) (a0 := (0, .inl fun _ => 0)) (N := 0) rfl rfl (fun _ => rfl) (fun _ h9 => by cases h9) (fun _ => rfl) (by decide) (by decide) (by decide) ?_
  rw [hl_new, hl_len, List.append_assoc]
  simp only [List.cons_append, List.nil_append, List.length_cons, List.length_nil, Nat.zero_add, Nat.reduceAdd, Nat.add_zero]
  refine r_putfield rfl (hl_get hlt) (by decide +kernel) (ty := .array .int) (by decide +kernel) rfl rfl (Nat.le_of_ble_eq_true rfl) (show _ = [.int 0, .ref cs.length, .ref (cs.length + 1), .ref (cs.length + 2)] from rfl) ?_
  rw [hl_put hlt]
  refine r_ret rfl rfl ?_
  exact ⟨rfl, rfl⟩

set_option maxRecDepth 100000 in
set_option maxHeartbeats 1000000 in
theorem i_X10 {G : ab_G} {d : Nat} {cs : List ab_E} {q : Nat} (hq : cs[q]? = some (.inr (10, [.int 0, .int 0, .int 0, .null, .null, .null, .null, .null]))) : ab_C G d 5 76 M_X10_init 0 (ab_ent [.ref q]) [] (hl cs) (rt none (hl (cs.set q (.inr (10, [.int 0, .int 0, .int 0, .ref cs.length, .ref (cs.length + 1), .ref (cs.length + 2), .ref (cs.length + 3), .ref (cs.length + 4)])) ++ [.inl (0, 32, .inl fun _ => 0), .inl (0, 32, .inl fun _ => 0), .inl (0, 4, .inl fun _ => 0), .inl (0, 4, .inl fun _ => 0), .inl (0, 4, .inl fun _ => 0)]))) := by
  have hlt := hl_lt hq
  rw [hl_start hq]
  refine r_aload_n rfl rfl ?_
  refine r_objinit rfl (Nat.le_of_ble_eq_true rfl) ?_
  refine r_aload_n rfl rfl ?_
  refine r_bipush_ (a := 32) rfl (by decide) ?_
  refine r_newarray (kc := 4) (ks := 44) (ty := .int) (kd := 0) (a0 := (32, .inl fun _ => 0)) (N := 32) rfl rfl (fun _ => rfl) (fun _ h9 => by cases h9) (fun _ => rfl) (by decide) (by decide) (by decide) ?_
  rw [hl_new, hl_len, List.append_assoc]
  simp only [List.cons_append, List.nil_append, List.length_cons, List.length_nil, Nat.zero_add, Nat.reduceAdd, Nat.add_zero]
  refine r_putfieldF rfl (hl_get hlt) (by decide +kernel) rfl (by decide +kernel) (ty := .array .int) (by decide +kernel) rfl rfl (Nat.le_of_ble_eq_true rfl) (show _ = [.int 0, .int 0, .int 0, .ref cs.length, .null, .null, .null, .null] from rfl) ?_
  rw [hl_put hlt]
  refine r_aload_n rfl rfl ?_
  refine r_bipush_ (a := 32) rfl (by decide) ?_
  refine r_newarray (kc := 3) (ks := 12) (ty := .int) (kd := 0) (a0 := (32, .inl fun _ => 0)) (N := 32) rfl rfl (fun _ => rfl) (fun _ h9 => by cases h9) (fun _ => rfl) (by decide) (by decide) (by decide) ?_
  rw [hl_new, hl_len, List.append_assoc]
  simp only [List.cons_append, List.nil_append, List.length_cons, List.length_nil, Nat.zero_add, Nat.reduceAdd, Nat.add_zero]
  refine r_putfieldF rfl (hl_get hlt) (by decide +kernel) rfl (by decide +kernel) (ty := .array .int) (by decide +kernel) rfl rfl (Nat.le_of_ble_eq_true rfl) (show _ = [.int 0, .int 0, .int 0, .ref cs.length, .ref (cs.length + 1), .null, .null, .null] from rfl) ?_
  rw [hl_put hlt]
  refine r_aload_n rfl rfl ?_
  refine r_iconst_ (a := 4) rfl (by decide) ?_
  refine r_newarray (kc := 2) (ks := 8) (ty := .int) (kd := 0) (a0 := (4, .inl fun _ => 0)) (N := 4) rfl rfl (fun _ => rfl) (fun _ h9 => by cases h9) (fun _ => rfl) (by decide) (by decide) (by decide) ?_
  rw [hl_new, hl_len, List.append_assoc]
  simp only [List.cons_append, List.nil_append, List.length_cons, List.length_nil, Nat.zero_add, Nat.reduceAdd, Nat.add_zero]
  refine r_putfieldF rfl (hl_get hlt) (by decide +kernel) rfl (by decide +kernel) (ty := .array .int) (by decide +kernel) rfl rfl (Nat.le_of_ble_eq_true rfl) (show _ = [.int 0, .int 0, .int 0, .ref cs.length, .ref (cs.length + 1), .ref (cs.length + 2), .null, .null] from rfl) ?_
  rw [hl_put hlt]
  refine r_aload_n rfl rfl ?_
  refine r_iconst_ (a := 4) rfl (by decide) ?_
  refine r_newarray (kc := 1) (ks := 4) (ty := .int) (kd := 0) (a0 := (4, .inl fun _ => 0)) (N := 4) rfl rfl (fun _ => rfl) (fun _ h9 => by cases h9) (fun _ => rfl) (by decide) (by decide) (by decide) ?_
  rw [hl_new, hl_len, List.append_assoc]
  simp only [List.cons_append, List.nil_append, List.length_cons, List.length_nil, Nat.zero_add, Nat.reduceAdd, Nat.add_zero]
  refine r_putfieldF rfl (hl_get hlt) (by decide +kernel) rfl (by decide +kernel) (ty := .array .int) (by decide +kernel) rfl rfl (Nat.le_of_ble_eq_true rfl) (show _ = [.int 0, .int 0, .int 0, .ref cs.length, .ref (cs.length + 1), .ref (cs.length + 2), .ref (cs.length + 3), .null] from rfl) ?_
  rw [hl_put hlt]
  refine r_aload_n rfl rfl ?_
  refine r_iconst_ (a := 4) rfl (by decide) ?_
  refine r_newarray (kc := 0) (ks := 0) (ty := .int) (kd := 0) (a0 := (4, .inl fun _ => 0)) (N := 4) rfl rfl (fun _ => rfl) (fun _ h9 => by cases h9) (fun _ => rfl) (by decide) (by decide) (by decide) ?_
  rw [hl_new, hl_len, List.append_assoc]
  simp only [List.cons_append, List.nil_append, List.length_cons, List.length_nil, Nat.zero_add, Nat.reduceAdd, Nat.add_zero]
  refine r_putfieldF rfl (hl_get hlt) (by decide +kernel) rfl (by decide +kernel) (ty := .array .int) (by decide +kernel) rfl rfl (Nat.le_of_ble_eq_true rfl) (show _ = [.int 0, .int 0, .int 0, .ref cs.length, .ref (cs.length + 1), .ref (cs.length + 2), .ref (cs.length + 3), .ref (cs.length + 4)] from rfl) ?_
  rw [hl_put hlt]
  refine r_ret rfl rfl ?_
  exact ⟨rfl, rfl⟩

set_option maxRecDepth 100000 in
set_option maxHeartbeats 1000000 in
theorem i_X9 {G : ab_G} {d : Nat} {cs : List ab_E} {q : Nat} (hq : cs[q]? = some (.inr (9, [.null, .null]))) : ab_C G (d + 1) 4 123 M_X9_init 0 (ab_ent [.ref q]) [] (hl cs) (rt none (hl (cs.set q (.inr (9, [.ref cs.length, .ref (cs.length + 3)])) ++ [.inr (1, [.ref (cs.length + 1), .ref (cs.length + 2)]), .inl (0, 9, .inl fun _ => 0), .inl (0, 32, .inl fun _ => 0), .inl (0, 80, .inl fun _ => 0)]))) := by
  have hlt := hl_lt hq
  rw [hl_start hq]
  refine r_aload_n rfl rfl ?_
  refine r_objinit rfl (Nat.le_of_ble_eq_true rfl) ?_
  refine r_aload_n rfl rfl ?_
  refine r_new (kc := 3) (ks := 121) (N := 2) rfl df_1 rfl ?_
  rw [hl_new, hl_len, List.append_assoc]
  simp only [List.cons_append, List.nil_append, List.length_cons, List.length_nil, Nat.zero_add, Nat.reduceAdd, Nat.add_zero]
  refine r_dup rfl rfl ?_
  refine r_callIN (kc := 1) (ks := 80) (kc1 := 2) (ks1 := 41) [] _ rfl kY_X1_init kT_X1_init rfl rfl rfl rfl (Nat.le_of_ble_eq_true rfl) (Nat.le_of_ble_eq_true rfl) (i_X1 (cs := cs.set q _ ++ [.inr (1, [.null, .null])]) (by simp)) (fun r h q9 => ?_)
  obtain ⟨rfl, rfl⟩ := q9
  simp only [Option.toList, List.nil_append, List.length_append, List.length_set, List.length_cons, List.length_nil, Nat.zero_add, Nat.add_assoc, Nat.reduceAdd, Nat.add_zero]
  rw [List.set_append_right _ _ (by simp)]
  simp only [List.length_set, Nat.add_sub_cancel_left, Nat.sub_self, List.set_cons_zero, List.set_cons_succ, List.append_assoc, List.cons_append, List.nil_append]
  refine r_putfieldF rfl (hl_get hlt) (by decide +kernel) rfl (by decide +kernel) (ty := .object "ConfettiRound$Laws") (by decide +kernel) rfl rfl (Nat.le_of_ble_eq_true rfl) (show _ = [.ref cs.length, .null] from rfl) ?_
  rw [hl_put hlt]
  refine r_aload_n rfl rfl ?_
  refine r_bipush_ (a := 80) rfl (by decide) ?_
  refine r_newarray (kc := 0) (ks := 0) (ty := .int) (kd := 0) (a0 := (80, .inl fun _ => 0)) (N := 80) rfl rfl (fun _ => rfl) (fun _ h9 => by cases h9) (fun _ => rfl) (by decide) (by decide) (by decide) ?_
  rw [hl_new, hl_len, List.append_assoc]
  simp only [List.cons_append, List.nil_append, List.length_cons, List.length_nil, Nat.zero_add, Nat.reduceAdd, Nat.add_zero]
  refine r_putfieldF rfl (hl_get hlt) (by decide +kernel) rfl (by decide +kernel) (ty := .array .int) (by decide +kernel) rfl rfl (Nat.le_of_ble_eq_true rfl) (show _ = [.ref cs.length, .ref (cs.length + 3)] from rfl) ?_
  rw [hl_put hlt]
  refine r_ret rfl rfl ?_
  exact ⟨rfl, rfl⟩
