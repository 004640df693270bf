set_option maxRecDepth 100000 in
set_option maxHeartbeats 4000000 in
theorem s_isLying {G : ab_G} {d : Nat} {D : fl_D} {s : fl_I} {l : fl_L} {a : Nat} (hy : isY D a) {i : Int32} (hi : vp_in i 32) : ab_C G d 0 0 M_X10_isLying 0 (ab_ent [.ref a, .int i]) [] (hp D s l) (rt (some (.int (if s (a + 1) i.toNatClampNeg < 80 then 1 else 0))) (hp D s l)) := by
  refine r_aload_n rfl rfl ?_
  refine r_getfield rfl ((cY_0 hy) _ _) rfl ?_
  refine r_iload_n rfl rfl ?_
  refine r_iald rfl ((cY_1 hy) _ _) hi ?_
  refine r_bipush_ (a := 80) rfl (by decide) ?_
  refine r_icmp_ge rfl (fun c_8 => ?_) (fun c_8 => ?_)
  · refine r_iconst_ (a := 0) rfl (by decide) ?_
    refine r_iret rfl rfl rfl ?_
    exact ⟨by simp_all [Int32.not_lt], rfl⟩
  · refine r_iconst_ (a := 1) rfl (by decide) ?_
    refine r_goto rfl ?_
    refine r_iret rfl rfl rfl ?_
    exact ⟨by simp_all [Int32.not_lt], rfl⟩

/-- who has a PIECE that is at w: -2 if it lies -/
def y_ho (w : Int32) : Int32 := if w < 80 then -2 else w - 80

set_option maxRecDepth 100000 in
set_option maxHeartbeats 4000000 in
theorem s_holder {G : ab_G} {d : Nat} {D : fl_D} {s : fl_I} {l : fl_L} {a : Nat} (hy : isY D a) {i : Int32} (hi : vp_in i 32) : ab_C G d 0 0 M_X10_holder 0 (ab_ent [.ref a, .int i]) [] (hp D s l) (rt (some (.int (y_ho (s (a + 1) i.toNatClampNeg)))) (hp D s l)) := by
  refine r_aload_n rfl rfl ?_
  refine r_getfield rfl ((cY_0 hy) _ _) rfl ?_
  refine r_iload_n rfl rfl ?_
  refine r_iald rfl ((cY_1 hy) _ _) hi ?_
  refine r_bipush_ (a := 80) rfl (by decide) ?_
  refine r_icmp_ge rfl (fun c_8 => ?_) (fun c_8 => ?_)
  · refine r_aload_n rfl rfl ?_
    refine r_getfield rfl ((cY_0 hy) _ _) rfl ?_
    refine r_iload_n rfl rfl ?_
    refine r_iald rfl ((cY_1 hy) _ _) hi ?_
    refine r_bipush_ (a := 80) rfl (by decide) ?_
    refine r_isub rfl ?_
    refine r_iret rfl rfl rfl ?_
    exact ⟨by simp_all [Int32.not_lt, y_ho], rfl⟩
  · refine r_bipush_ (a := -2) rfl (by decide) ?_
    refine r_goto rfl ?_
    refine r_iret rfl rfl rfl ?_
    exact ⟨by simp_all [Int32.not_lt, y_ho], rfl⟩

theorem ab_in4 {x : Int32} (h1 : ¬ x < 0) (h2 : ¬ (4 : Int32) ≤ x) : vp_in x 4 := by
  obtain ⟨j, hj, rfl⟩ := nI_of h1
  refine vp_in_nI ?_ (by omega)
  rcases Nat.lt_or_ge j 4 with h | h
  · exact h
  · exact absurd (nI_le h hj) h2
/-- the cell at which a PIECE is -/
def y_ce (s : fl_I) (a : Nat) (w : Int32) : Int32 := if 0 ≤ y_ho w ∧ y_ho w < 4 then s (a + 3) (y_ho w).toNatClampNeg else w

set_option maxRecDepth 100000 in
set_option maxHeartbeats 4000000 in
theorem s_cellOf {G : ab_G} {d : Nat} {D : fl_D} {s : fl_I} {l : fl_L} {a : Nat} (hy : isY D a) {i : Int32} (hi : vp_in i 32) : ab_C G (d + 1) 0 0 M_X10_cellOf 0 (ab_ent [.ref a, .int i]) [] (hp D s l) (rt (some (.int (y_ce s a (s (a + 1) i.toNatClampNeg)))) (hp D s l)) := by
  refine r_weak (L1 := [some (.ref a), some (.int i), none]) ⟨rfl, rfl, trivial⟩ ?_
  refine r_aload_n rfl rfl ?_
  refine r_iload_n rfl rfl ?_
  refine r_callV0 [_] _ rfl kY_X10_holder kT_X10_holder rfl rfl (Nat.le_of_ble_eq_true rfl) (Nat.le_of_ble_eq_true rfl) ((cY_0 hy) _ _) (s_holder hy hi) (fun r h q => ?_)
  obtain ⟨rfl, rfl⟩ := q
  simp only [Option.toList, List.cons_append, List.nil_append]
  refine r_istore_n rfl (Nat.le_of_ble_eq_true rfl) rfl ?_
  refine r_iload_n rfl rfl ?_
  refine r_if_lt rfl (fun c_7 => ?_) (fun c_7 => ?_)
  · refine r_aload_n rfl rfl ?_
    refine r_getfield rfl ((cY_0 hy) _ _) rfl ?_
    refine r_iload_n rfl rfl ?_
    refine r_iald rfl ((cY_1 hy) _ _) hi ?_
    refine r_iret rfl rfl rfl ?_
    refine ⟨?_, rfl⟩
    unfold y_ce
    simp_all [Int32.not_lt, Int32.not_le]
  · refine r_iload_n rfl rfl ?_
    refine r_iconst_ (a := 4) rfl (by decide) ?_
    refine r_icmp_ge rfl (fun c_12 => ?_) (fun c_12 => ?_)
    · refine r_aload_n rfl rfl ?_
      refine r_getfield rfl ((cY_0 hy) _ _) rfl ?_
      refine r_iload_n rfl rfl ?_
      refine r_iald rfl ((cY_1 hy) _ _) hi ?_
      refine r_iret rfl rfl rfl ?_
      refine ⟨?_, rfl⟩
      unfold y_ce
      simp_all [Int32.not_lt, Int32.not_le]
    · refine r_aload_n rfl rfl ?_
      refine r_getfield rfl ((cY_0 hy) _ _) rfl ?_
      refine r_iload_n rfl rfl ?_
      refine r_iald rfl ((cY_3 hy) _ _) (ab_in4 c_7 c_12) ?_
      refine r_goto rfl ?_
      refine r_iret rfl rfl rfl ?_
      refine ⟨?_, rfl⟩
      unfold y_ce
      simp_all [Int32.not_lt, Int32.not_le]

/-- a PIECE comes into a HAT -/
def y_pi (s : fl_I) (a : Nat) (i j : Int32) : fl_I :=
  let s1 := su s (a + 1) (upd (s (a + 1)) i.toNatClampNeg (80 + j))
  let s2 := su s1 (a + 2) (upd (s1 (a + 2)) i.toNatClampNeg 0)
  su s2 (a + 5) (upd (s2 (a + 5)) j.toNatClampNeg (s2 (a + 5) j.toNatClampNeg + 1))

set_option maxRecDepth 100000 in
set_option maxHeartbeats 4000000 in
theorem s_putInHat {G : ab_G} {d : Nat} {D : fl_D} {s : fl_I} {l : fl_L} {a : Nat} (hy : isY D a) {i j : Int32} (hi : vp_in i 32) (hj : vp_in j 4) : ab_C G d 0 0 M_X10_putInHat 0 (ab_ent [.ref a, .int i, .int j]) [] (hp D s l) (rt (none) (hp D (y_pi s a i j) l)) := by
  refine r_aload_n rfl rfl ?_
  refine r_getfield rfl ((cY_0 hy) _ _) rfl ?_
  refine r_iload_n rfl rfl ?_
  refine r_bipush_ (a := 80) rfl (by decide) ?_
  refine r_iload_n rfl rfl ?_
  refine r_iadd rfl ?_
  refine w_iast rfl (cY_1 hy) hi ?_
  refine r_aload_n rfl rfl ?_
  refine r_getfield rfl ((cY_0 hy) _ _) rfl ?_
  refine r_iload_n rfl rfl ?_
  refine r_iconst_ (a := 0) rfl (by decide) ?_
  refine w_iast rfl (cY_2 hy) hi ?_
  refine r_aload_n rfl rfl ?_
  refine r_getfield rfl ((cY_0 hy) _ _) rfl ?_
  refine r_iload_n rfl rfl ?_
  refine r_dup2 rfl rfl rfl ?_
  refine r_iald rfl ((cY_5 hy) _ _) hj ?_
  refine r_iconst_ (a := 1) rfl (by decide) ?_
  refine r_iadd rfl ?_
  refine w_iast rfl (cY_5 hy) hj ?_
  refine r_ret rfl rfl ?_
  exact ⟨rfl, rfl⟩

/-- a PIECE is laid down where its PICKER is -/
def y_ld (s : fl_I) (a : Nat) (i : Int32) : fl_I :=
  let j := y_ho (s (a + 1) i.toNatClampNeg)
  if 0 ≤ j ∧ j < 4 then
    let s1 := su s (a + 5) (upd (s (a + 5)) j.toNatClampNeg (s (a + 5) j.toNatClampNeg - 1))
    let s2 := su s1 (a + 1) (upd (s1 (a + 1)) i.toNatClampNeg (s1 (a + 3) j.toNatClampNeg))
    su s2 (a + 2) (upd (s2 (a + 2)) i.toNatClampNeg 0)
  else s

set_option maxRecDepth 100000 in
set_option maxHeartbeats 4000000 in
theorem s_layDown {G : ab_G} {d : Nat} {D : fl_D} {s : fl_I} {l : fl_L} {a : Nat} (hy : isY D a) {i : Int32} (hi : vp_in i 32) : ab_C G (d + 1) 0 0 M_X10_layDown 0 (ab_ent [.ref a, .int i]) [] (hp D s l) (rt (none) (hp D (y_ld s a i) l)) := by
  refine r_weak (L1 := [some (.ref a), some (.int i), none]) ⟨rfl, rfl, trivial⟩ ?_
  refine r_aload_n rfl rfl ?_
  refine r_iload_n rfl rfl ?_
  refine r_callV0 [_] _ rfl kY_X10_holder kT_X10_holder rfl rfl (Nat.le_of_ble_eq_true rfl) (Nat.le_of_ble_eq_true rfl) ((cY_0 hy) _ _) (s_holder hy hi) (fun r h q => ?_)
  obtain ⟨rfl, rfl⟩ := q
  simp only [Option.toList, List.cons_append, List.nil_append]
  refine r_istore_n rfl (Nat.le_of_ble_eq_true rfl) rfl ?_
  refine r_iload_n rfl rfl ?_
  refine r_if_lt rfl (fun c_7 => ?_) (fun c_7 => ?_)
  · refine r_ret rfl rfl ?_
    refine ⟨rfl, ?_⟩
    unfold y_ld
    first | rw [if_pos ⟨Int32.not_lt.mp c_7, Int32.not_le.mp c_12⟩] | rw [if_neg (fun q => Int32.not_lt.mpr q.1 c_7)] | rw [if_neg (fun q => Int32.not_lt.mpr c_12 q.2)]
  · refine r_iload_n rfl rfl ?_
    refine r_iconst_ (a := 4) rfl (by decide) ?_
    refine r_icmp_ge rfl (fun c_12 => ?_) (fun c_12 => ?_)
    · refine r_ret rfl rfl ?_
      refine ⟨rfl, ?_⟩
      unfold y_ld
      first | rw [if_pos ⟨Int32.not_lt.mp c_7, Int32.not_le.mp c_12⟩] | rw [if_neg (fun q => Int32.not_lt.mpr q.1 c_7)] | rw [if_neg (fun q => Int32.not_lt.mpr c_12 q.2)]
    · refine r_aload_n rfl rfl ?_
      refine r_getfield rfl ((cY_0 hy) _ _) rfl ?_
      refine r_iload_n rfl rfl ?_
      refine r_dup2 rfl rfl rfl ?_
      refine r_iald rfl ((cY_5 hy) _ _) (ab_in4 c_7 c_12) ?_
      refine r_iconst_ (a := 1) rfl (by decide) ?_
      refine r_isub rfl ?_
      refine w_iast rfl (cY_5 hy) (ab_in4 c_7 c_12) ?_
      refine r_aload_n rfl rfl ?_
      refine r_getfield rfl ((cY_0 hy) _ _) rfl ?_
      refine r_iload_n rfl rfl ?_
      refine r_aload_n rfl rfl ?_
      refine r_getfield rfl ((cY_0 hy) _ _) rfl ?_
      refine r_iload_n rfl rfl ?_
      refine r_iald rfl ((cY_3 hy) _ _) (ab_in4 c_7 c_12) ?_
      refine w_iast rfl (cY_1 hy) hi ?_
      refine r_aload_n rfl rfl ?_
      refine r_getfield rfl ((cY_0 hy) _ _) rfl ?_
      refine r_iload_n rfl rfl ?_
      refine r_iconst_ (a := 0) rfl (by decide) ?_
      refine w_iast rfl (cY_2 hy) hi ?_
      refine r_ret rfl rfl ?_
      refine ⟨rfl, ?_⟩
      unfold y_ld
      first | rw [if_pos ⟨Int32.not_lt.mp c_7, Int32.not_le.mp c_12⟩] | rw [if_neg (fun q => Int32.not_lt.mpr q.1 c_7)] | rw [if_neg (fun q => Int32.not_lt.mpr c_12 q.2)]

/-- how many lie: all but those in HATS -/
def y_cl (s : fl_I) (a : Nat) : Nat → Int32
  | 0 => s a 1
  | n + 1 => y_cl s a n - s (a + 5) n

set_option maxRecDepth 100000 in
set_option maxHeartbeats 4000000 in
theorem lp_countLying {G : ab_G} {d : Nat} {D : fl_D} {s : fl_I} {l : fl_L} {a : Nat} (hy : isY D a) {m : Nat} (hm : s a 2 = nI m) (hm4 : m ≤ 4) : ∀ (k n : Nat), n ≤ m → m < n + k → ab_C G d 0 0 M_X10_countLying 7 [some (.ref a), some (.int (y_cl s a n)), some (.int (nI n))] [] (hp D s l) (rt (some (.int (y_cl s a m))) (hp D s l)) := by
  intro k
  induction k with
  | zero => intro n h1 h2; omega
  | succ k ih =>
    intro n h1 h2
    refine r_iload_n rfl rfl ?_
    refine r_aload_n rfl rfl ?_
    refine r_getfield rfl ((cY_0 hy) _ _) rfl ?_
    rw [hm]
    refine r_icmp_ge rfl (fun c_12 => ?_) (fun c_12 => ?_)
    · refine r_iload_n rfl rfl ?_
      refine r_iret rfl rfl rfl ?_
      have e2 : n = m := by have := (nI_leI (by omega) (by omega)).mp c_12; omega
      subst e2
      exact ⟨rfl, rfl⟩
    · refine r_iload_n rfl rfl ?_
      refine r_aload_n rfl rfl ?_
      refine r_getfield rfl ((cY_0 hy) _ _) rfl ?_
      refine r_iload_n rfl rfl ?_
      refine r_iald rfl ((cY_5 hy) _ _) (vp_in_nI (by have := fun q => c_12 ((nI_leI (by omega) (by omega)).mpr q); omega) (by omega)) ?_
      refine r_isub rfl ?_
      refine r_istore_n rfl (Nat.le_of_ble_eq_true rfl) rfl ?_
      refine r_iinc rfl rfl (nI_1 n) (Nat.le_of_ble_eq_true rfl) rfl ?_
      refine r_goto rfl ?_
      have hlt : n < m := by have := fun q => c_12 ((nI_leI (by omega) (by omega)).mpr q); omega
      exact r_weak (L1 := [some (.ref a), some (.int (y_cl s a (n + 1))), some (.int (nI (n + 1)))]) ⟨rfl, by rw [y_cl]; simp [ab_s1, ab_kill, Value.category, nI_clamp (show n < 2 ^ 31 by omega)], rfl, trivial⟩ (ih (n + 1) (by omega) (by omega))

set_option maxRecDepth 100000 in
set_option maxHeartbeats 4000000 in
theorem s_countLying {G : ab_G} {d : Nat} {D : fl_D} {s : fl_I} {l : fl_L} {a : Nat} (hy : isY D a) {m : Nat} (hm : s a 2 = nI m) (hm4 : m ≤ 4) : ab_C G d 0 0 M_X10_countLying 0 (ab_ent [.ref a]) [] (hp D s l) (rt (some (.int (y_cl s a m))) (hp D s l)) := by
  refine r_weak (L1 := [some (.ref a), none, none]) ⟨rfl, trivial⟩ ?_
  refine r_aload_n rfl rfl ?_
  refine r_getfield rfl ((cY_0 hy) _ _) rfl ?_
  refine r_istore_n rfl (Nat.le_of_ble_eq_true rfl) rfl ?_
  refine r_iconst_ (a := 0) rfl (by decide) ?_
  refine r_istore_n rfl (Nat.le_of_ble_eq_true rfl) rfl ?_
  exact r_weak ⟨rfl, rfl, rfl, trivial⟩ (lp_countLying hy hm hm4 (m + 1) 0 (by omega) (by omega))

/-- how many of the first n lie at a cell -/
def y_ca (s : fl_I) (a : Nat) (c : Int32) : Nat → Int32
  | 0 => 0
  | n + 1 => if s (a + 1) n = c then y_ca s a c n + 1 else y_ca s a c n

set_option maxRecDepth 100000 in
set_option maxHeartbeats 4000000 in
theorem lp_countAt {G : ab_G} {d : Nat} {D : fl_D} {s : fl_I} {l : fl_L} {a : Nat} (hy : isY D a) {p : Nat} (hp1 : s a 1 = nI p) (hp2 : p ≤ 32) {c : Int32} : ∀ (k n : Nat), n ≤ p → p < n + k → ab_C G d 0 0 M_X10_countAt 4 [some (.ref a), some (.int c), some (.int (y_ca s a c n)), some (.int (nI n))] [] (hp D s l) (rt (some (.int (y_ca s a c p))) (hp D s l)) := by
  intro k
  induction k with
  | zero => intro n h1 h2; omega
  | succ k ih =>
    intro n h1 h2
    refine r_iload_n rfl rfl ?_
    refine r_aload_n rfl rfl ?_
    refine r_getfield rfl ((cY_0 hy) _ _) rfl ?_
    rw [hp1]
    refine r_icmp_ge rfl (fun c_9 => ?_) (fun c_9 => ?_)
    · refine r_iload_n rfl rfl ?_
      refine r_iret rfl rfl rfl ?_
      have e2 : n = p := by have := (nI_leI (by omega) (by omega)).mp c_9; omega
      subst e2
      exact ⟨rfl, rfl⟩
    · refine r_aload_n rfl rfl ?_
      refine r_getfield rfl ((cY_0 hy) _ _) rfl ?_
      refine r_iload_n rfl rfl ?_
      refine r_iald rfl ((cY_1 hy) _ _) (vp_in_nI (by have := fun q => c_9 ((nI_leI (by omega) (by omega)).mpr q); omega) (by omega)) ?_
      refine r_iload_n rfl rfl ?_
      rw [nI_clamp (show n < 2 ^ 31 by omega)]
      refine r_icmp_ne rfl (fun c_19 => ?_) (fun c_19 => ?_)
      · refine r_iinc rfl rfl (nI_1 n) (Nat.le_of_ble_eq_true rfl) rfl ?_
        refine r_goto rfl ?_
        have hlt : n < p := by have := fun q => c_9 ((nI_leI (by omega) (by omega)).mpr q); omega
        exact r_weak (L1 := [some (.ref a), some (.int c), some (.int (y_ca s a c (n + 1))), some (.int (nI (n + 1)))]) ⟨rfl, rfl, by rw [y_ca]; first | (rw [if_neg c_19]; rfl) | (rw [if_pos (Classical.not_not.mp c_19)]; rfl), rfl, trivial⟩ (ih (n + 1) (by omega) (by omega))
      · refine r_iinc rfl rfl rfl (Nat.le_of_ble_eq_true rfl) rfl ?_
        refine r_iinc rfl rfl (nI_1 n) (Nat.le_of_ble_eq_true rfl) rfl ?_
        refine r_goto rfl ?_
        have hlt : n < p := by have := fun q => c_9 ((nI_leI (by omega) (by omega)).mpr q); omega
        exact r_weak (L1 := [some (.ref a), some (.int c), some (.int (y_ca s a c (n + 1))), some (.int (nI (n + 1)))]) ⟨rfl, rfl, by rw [y_ca]; first | (rw [if_neg c_19]; rfl) | (rw [if_pos (Classical.not_not.mp c_19)]; rfl), rfl, trivial⟩ (ih (n + 1) (by omega) (by omega))

set_option maxRecDepth 100000 in
set_option maxHeartbeats 4000000 in
theorem s_countAt {G : ab_G} {d : Nat} {D : fl_D} {s : fl_I} {l : fl_L} {a : Nat} (hy : isY D a) {p : Nat} (hp1 : s a 1 = nI p) (hp2 : p ≤ 32) {c : Int32} : ab_C G d 0 0 M_X10_countAt 0 (ab_ent [.ref a, .int c]) [] (hp D s l) (rt (some (.int (y_ca s a c p))) (hp D s l)) := by
  refine r_weak (L1 := [some (.ref a), some (.int c), none, none]) ⟨rfl, rfl, trivial⟩ ?_
  refine r_iconst_ (a := 0) rfl (by decide) ?_
  refine r_istore_n rfl (Nat.le_of_ble_eq_true rfl) rfl ?_
  refine r_iconst_ (a := 0) rfl (by decide) ?_
  refine r_istore_n rfl (Nat.le_of_ble_eq_true rfl) rfl ?_
  exact r_weak ⟨rfl, rfl, rfl, rfl, trivial⟩ (lp_countAt hy hp1 hp2 (p + 1) 0 (by omega) (by omega))

