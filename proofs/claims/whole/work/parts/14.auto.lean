
def f_X11_apart (v0 : Int32) (v1 : Int32) : Int32 :=
  ((if 0 ≤ ((v0 - v0 / (10 : Int32) * (10 : Int32)) - (v1 - v1 / (10 : Int32) * (10 : Int32))) then ((v0 - v0 / (10 : Int32) * (10 : Int32)) - (v1 - v1 / (10 : Int32) * (10 : Int32))) else 0 - ((v0 - v0 / (10 : Int32) * (10 : Int32)) - (v1 - v1 / (10 : Int32) * (10 : Int32)))) + (if 0 ≤ ((v0 / (10 : Int32)) - (v1 / (10 : Int32))) then ((v0 / (10 : Int32)) - (v1 / (10 : Int32))) else 0 - ((v0 / (10 : Int32)) - (v1 / (10 : Int32)))))
set_option maxRecDepth 100000 in
set_option maxHeartbeats 4000000 in
theorem s_X11_apart {G : ab_G} {d : Nat} {h : ab_H} {v0 : Int32} {v1 : Int32}  : ab_C G d 0 0 M_X11_apart 0 (ab_ent [.int v0, .int v1]) [] (h) (rt (some (.int (f_X11_apart v0 v1))) (h)) := by
  refine r_weak (L1 := [some (.int v0), some (.int v1)]) ⟨rfl, rfl, trivial⟩ ?_
  refine r_iload_n rfl rfl ?_
  refine r_bipush_ (a := 10) rfl (by decide) ?_
  refine r_irem rfl (by decide) ?_
  refine r_iload_n rfl rfl ?_
  refine r_bipush_ (a := 10) rfl (by decide) ?_
  refine r_irem rfl (by decide) ?_
  refine r_isub rfl ?_
  refine r_mabs rfl (Nat.le_of_ble_eq_true rfl) ?_
  refine r_iload_n rfl rfl ?_
  refine r_bipush_ (a := 10) rfl (by decide) ?_
  refine r_idiv rfl (by decide) ?_
  refine r_iload_n rfl rfl ?_
  refine r_bipush_ (a := 10) rfl (by decide) ?_
  refine r_idiv rfl (by decide) ?_
  refine r_isub rfl ?_
  refine r_mabs rfl (Nat.le_of_ble_eq_true rfl) ?_
  refine r_iadd rfl ?_
  refine r_iret rfl rfl rfl ?_
  exact ⟨rfl, rfl⟩

def f_X11_held (v0 : Int32) (v1 : Int32) : Int32 :=
  (if (0 : Int32) < (if v0 < v1 then v0 else v1) then (if v0 < v1 then v0 else v1) else (0 : Int32))
set_option maxRecDepth 100000 in
set_option maxHeartbeats 4000000 in
theorem s_X11_held {G : ab_G} {d : Nat} {h : ab_H} {v0 : Int32} {v1 : Int32}  : ab_C G d 0 0 M_X11_held 0 (ab_ent [.int v0, .int v1]) [] (h) (rt (some (.int (f_X11_held v0 v1))) (h)) := by
  refine r_weak (L1 := [some (.int v0), some (.int v1)]) ⟨rfl, rfl, trivial⟩ ?_
  refine r_iconst_ (a := 0) rfl (by decide) ?_
  refine r_iload_n rfl rfl ?_
  refine r_iload_n rfl rfl ?_
  refine r_mmin rfl (Nat.le_of_ble_eq_true rfl) ?_
  refine r_mmax rfl (Nat.le_of_ble_eq_true rfl) ?_
  refine r_iret rfl rfl rfl ?_
  exact ⟨rfl, rfl⟩

def f_X11_money (v0 : Int32) : Int32 :=
  (f_X11_held v0 (99 : Int32))
set_option maxRecDepth 100000 in
set_option maxHeartbeats 4000000 in
theorem s_X11_money {G : ab_G} {d : Nat} {h : ab_H} {v0 : Int32}  : ab_C G (d + 1) 0 0 M_X11_money 0 (ab_ent [.int v0]) [] (h) (rt (some (.int (f_X11_money v0))) (h)) := by
  refine r_weak (L1 := [some (.int v0)]) ⟨rfl, trivial⟩ ?_
  refine r_iload_n rfl rfl ?_
  refine r_bipush_ (a := 99) rfl (by decide) ?_
  refine r_callS0 [_, _] _ rfl kY_X11_held kT_X11_held rfl rfl (Nat.le_of_ble_eq_true rfl) (Nat.le_of_ble_eq_true rfl) (s_X11_held) (fun r h q => ?_)
  obtain ⟨rfl, rfl⟩ := q
  simp only [Option.toList, List.cons_append, List.nil_append]
  refine r_iret rfl rfl rfl ?_
  exact ⟨rfl, rfl⟩

def f_X11_stirred (v0 : Int32) (v1 : Int32) : Int32 :=
  ((((v0 ^^^ v1) * (1103515245 : Int32)) + (12345 : Int32)) ^^^ (i_ushr (((v0 ^^^ v1) * (1103515245 : Int32)) + (12345 : Int32)) (15 : Int32)))
set_option maxRecDepth 100000 in
set_option maxHeartbeats 4000000 in
theorem s_X11_stirred {G : ab_G} {d : Nat} {h : ab_H} {v0 : Int32} {v1 : Int32}  : ab_C G d 0 0 M_X11_stirred 0 (ab_ent [.int v0, .int v1]) [] (h) (rt (some (.int (f_X11_stirred v0 v1))) (h)) := by
  refine r_weak (L1 := [some (.int v0), some (.int v1), none]) ⟨rfl, rfl, trivial⟩ ?_
  refine r_iload_n rfl rfl ?_
  refine r_iload_n rfl rfl ?_
  refine r_ixor rfl ?_
  refine r_ldc_w rfl ?_
  refine r_imul rfl ?_
  refine r_sipush_ (a := 12345) rfl (by decide) ?_
  refine r_iadd rfl ?_
  refine r_istore_n rfl (Nat.le_of_ble_eq_true rfl) rfl ?_
  refine r_iload_n rfl rfl ?_
  refine r_iload_n rfl rfl ?_
  refine r_bipush_ (a := 15) rfl (by decide) ?_
  refine r_iushr rfl ?_
  refine r_ixor rfl ?_
  refine r_iret rfl rfl rfl ?_
  exact ⟨rfl, rfl⟩

def f_X11_lot (v0 : Int32) (v1 : Int32) (v2 : Int32) : Int32 :=
  if (v0 ≤ 0) then (0 : Int32) else ((i_ushr (f_X11_stirred (f_X11_stirred v1 (145 : Int32)) v2) (1 : Int32)) - (i_ushr (f_X11_stirred (f_X11_stirred v1 (145 : Int32)) v2) (1 : Int32)) / v0 * v0)
set_option maxRecDepth 100000 in
set_option maxHeartbeats 4000000 in
theorem s_X11_lot {G : ab_G} {d : Nat} {h : ab_H} {v0 : Int32} {v1 : Int32} {v2 : Int32} (hb0 : ¬ (v0 ≤ 0) → ¬ v0 = 0) : ab_C G (d + 1) 0 0 M_X11_lot 0 (ab_ent [.int v0, .int v1, .int v2]) [] (h) (rt (some (.int (f_X11_lot v0 v1 v2))) (h)) := by
  refine r_weak (L1 := [some (.int v0), some (.int v1), some (.int v2), none]) ⟨rfl, rfl, rfl, trivial⟩ ?_
  refine r_iload_n rfl rfl ?_
  refine r_sipush_ (a := 145) rfl (by decide) ?_
  refine r_callS0 [_, _] _ rfl kY_X11_stirred kT_X11_stirred rfl rfl (Nat.le_of_ble_eq_true rfl) (Nat.le_of_ble_eq_true rfl) (s_X11_stirred) (fun r h q => ?_)
  obtain ⟨rfl, rfl⟩ := q
  simp only [Option.toList, List.cons_append, List.nil_append]
  refine r_iload_n rfl rfl ?_
  refine r_callS0 [_, _] _ rfl kY_X11_stirred kT_X11_stirred rfl rfl (Nat.le_of_ble_eq_true rfl) (Nat.le_of_ble_eq_true rfl) (s_X11_stirred) (fun r h q => ?_)
  obtain ⟨rfl, rfl⟩ := q
  simp only [Option.toList, List.cons_append, List.nil_append]
  refine r_istore_n rfl (Nat.le_of_ble_eq_true rfl) rfl ?_
  refine r_iload_n rfl rfl ?_
  refine r_if_le rfl (fun c_13 => ?_) (fun c_13 => ?_)
  · refine r_iconst_ (a := 0) rfl (by decide) ?_
    refine r_iret rfl rfl rfl ?_
    exact ⟨by (unfold f_X11_lot; (try dsimp only); rw [if_pos c_13]), rfl⟩
  · refine r_iload_n rfl rfl ?_
    refine r_iconst_ (a := 1) rfl (by decide) ?_
    refine r_iushr rfl ?_
    refine r_iload_n rfl rfl ?_
    refine r_irem rfl (hb0 c_13) ?_
    refine r_goto rfl ?_
    refine r_iret rfl rfl rfl ?_
    exact ⟨by (unfold f_X11_lot; (try dsimp only); rw [if_neg c_13]), rfl⟩

def f_X11_signAt (v0 : Int64) (v1 : Int32) : Int32 :=
  if (v1 < 0) then (0 : Int32) else if (v1 < (8 : Int32)) then ((l_ushr v0 ((5 : Int32) * v1)).toInt32 &&& (31 : Int32)) else (0 : Int32)
set_option maxRecDepth 100000 in
set_option maxHeartbeats 4000000 in
theorem s_X11_signAt {G : ab_G} {d : Nat} {h : ab_H} {v0 : Int64} {v1 : Int32}  : ab_C G d 0 0 M_X11_signAt 0 (ab_ent [.long v0, .int v1]) [] (h) (rt (some (.int (f_X11_signAt v0 v1))) (h)) := by
  refine r_weak (L1 := [some (.long v0), none, some (.int v1)]) ⟨rfl, rfl, trivial⟩ ?_
  refine r_iload_n rfl rfl ?_
  refine r_if_lt rfl (fun c_1 => ?_) (fun c_1 => ?_)
  · refine r_iconst_ (a := 0) rfl (by decide) ?_
    refine r_goto rfl ?_
    refine r_iret rfl rfl rfl ?_
    exact ⟨by (unfold f_X11_signAt; (try dsimp only); rw [if_pos c_1]), rfl⟩
  · refine r_iload_n rfl rfl ?_
    refine r_bipush_ (a := 8) rfl (by decide) ?_
    refine r_icmp_lt rfl (fun c_7 => ?_) (fun c_7 => ?_)
    · refine r_lload_n rfl rfl ?_
      refine r_iconst_ (a := 5) rfl (by decide) ?_
      refine r_iload_n rfl rfl ?_
      refine r_imul rfl ?_
      refine r_lushr rfl ?_
      refine r_l2i rfl ?_
      refine r_bipush_ (a := 31) rfl (by decide) ?_
      refine r_iand rfl ?_
      refine r_iret rfl rfl rfl ?_
      exact ⟨by (unfold f_X11_signAt; (try dsimp only); rw [if_neg c_1, if_pos c_7]), rfl⟩
    · refine r_iconst_ (a := 0) rfl (by decide) ?_
      refine r_goto rfl ?_
      refine r_iret rfl rfl rfl ?_
      exact ⟨by (unfold f_X11_signAt; (try dsimp only); rw [if_neg c_1, if_neg c_7]), rfl⟩

def f_X11_withSign (v0 : Int64) (v1 : Int32) (v2 : Int32) : Int64 :=
  if (v1 < 0) then v0 else if (v1 < (8 : Int32)) then (v0 ||| (l_shl v2.toInt64 ((5 : Int32) * v1))) else v0
set_option maxRecDepth 100000 in
set_option maxHeartbeats 4000000 in
theorem s_X11_withSign {G : ab_G} {d : Nat} {h : ab_H} {v0 : Int64} {v1 : Int32} {v2 : Int32}  : ab_C G d 0 0 M_X11_withSign 0 (ab_ent [.long v0, .int v1, .int v2]) [] (h) (rt (some (.long (f_X11_withSign v0 v1 v2))) (h)) := by
  refine r_weak (L1 := [some (.long v0), none, some (.int v1), some (.int v2)]) ⟨rfl, rfl, rfl, trivial⟩ ?_
  refine r_iload_n rfl rfl ?_
  refine r_if_lt rfl (fun c_1 => ?_) (fun c_1 => ?_)
  · refine r_lload_n rfl rfl ?_
    refine r_goto rfl ?_
    refine r_lret rfl rfl ?_
    exact ⟨by (unfold f_X11_withSign; (try dsimp only); rw [if_pos c_1]), rfl⟩
  · refine r_iload_n rfl rfl ?_
    refine r_bipush_ (a := 8) rfl (by decide) ?_
    refine r_icmp_lt rfl (fun c_7 => ?_) (fun c_7 => ?_)
    · refine r_lload_n rfl rfl ?_
      refine r_iload_n rfl rfl ?_
      refine r_i2l rfl ?_
      refine r_iconst_ (a := 5) rfl (by decide) ?_
      refine r_iload_n rfl rfl ?_
      refine r_imul rfl ?_
      refine r_lshl rfl ?_
      refine r_lor rfl ?_
      refine r_lret rfl rfl ?_
      exact ⟨by (unfold f_X11_withSign; (try dsimp only); rw [if_neg c_1, if_pos c_7]), rfl⟩
    · refine r_lload_n rfl rfl ?_
      refine r_goto rfl ?_
      refine r_lret rfl rfl ?_
      exact ⟨by (unfold f_X11_withSign; (try dsimp only); rw [if_neg c_1, if_neg c_7]), rfl⟩

def f_X11_isCell (v0 : Int32) (v1 : Int32) : Int32 :=
  if (v0 < 0) then (0 : Int32) else if ((10 : Int32) ≤ v0) then (0 : Int32) else if (v1 < 0) then (0 : Int32) else if ((8 : Int32) ≤ v1) then (0 : Int32) else (1 : Int32)
set_option maxRecDepth 100000 in
set_option maxHeartbeats 4000000 in
theorem s_X11_isCell {G : ab_G} {d : Nat} {h : ab_H} {v0 : Int32} {v1 : Int32}  : ab_C G d 0 0 M_X11_isCell 0 (ab_ent [.int v0, .int v1]) [] (h) (rt (some (.int (f_X11_isCell v0 v1))) (h)) := by
  refine r_weak (L1 := [some (.int v0), some (.int v1)]) ⟨rfl, rfl, trivial⟩ ?_
  refine r_iload_n rfl rfl ?_
  refine r_if_lt rfl (fun c_1 => ?_) (fun c_1 => ?_)
  · refine r_iconst_ (a := 0) rfl (by decide) ?_
    refine r_iret rfl rfl rfl ?_
    exact ⟨by (unfold f_X11_isCell; (try dsimp only); rw [if_pos c_1]), rfl⟩
  · refine r_iload_n rfl rfl ?_
    refine r_bipush_ (a := 10) rfl (by decide) ?_
    refine r_icmp_ge rfl (fun c_7 => ?_) (fun c_7 => ?_)
    · refine r_iconst_ (a := 0) rfl (by decide) ?_
      refine r_iret rfl rfl rfl ?_
      exact ⟨by (unfold f_X11_isCell; (try dsimp only); rw [if_neg c_1, if_pos c_7]), rfl⟩
    · refine r_iload_n rfl rfl ?_
      refine r_if_lt rfl (fun c_11 => ?_) (fun c_11 => ?_)
      · refine r_iconst_ (a := 0) rfl (by decide) ?_
        refine r_iret rfl rfl rfl ?_
        exact ⟨by (unfold f_X11_isCell; (try dsimp only); rw [if_neg c_1, if_neg c_7, if_pos c_11]), rfl⟩
      · refine r_iload_n rfl rfl ?_
        refine r_bipush_ (a := 8) rfl (by decide) ?_
        refine r_icmp_ge rfl (fun c_17 => ?_) (fun c_17 => ?_)
        · refine r_iconst_ (a := 0) rfl (by decide) ?_
          refine r_iret rfl rfl rfl ?_
          exact ⟨by (unfold f_X11_isCell; (try dsimp only); rw [if_neg c_1, if_neg c_7, if_neg c_11, if_pos c_17]), rfl⟩
        · refine r_iconst_ (a := 1) rfl (by decide) ?_
          refine r_goto rfl ?_
          refine r_iret rfl rfl rfl ?_
          exact ⟨by (unfold f_X11_isCell; (try dsimp only); rw [if_neg c_1, if_neg c_7, if_neg c_11, if_neg c_17]), rfl⟩

def f_X12_in (v0 : Int32) (v1 : Int32) (v2 : Int32) : Int32 :=
  if (v0 < v1) then (0 : Int32) else if (v2 < v0) then (0 : Int32) else (1 : Int32)
set_option maxRecDepth 100000 in
set_option maxHeartbeats 4000000 in
theorem s_X12_in {G : ab_G} {d : Nat} {h : ab_H} {v0 : Int32} {v1 : Int32} {v2 : Int32}  : ab_C G d 0 0 M_X12_in 0 (ab_ent [.int v0, .int v1, .int v2]) [] (h) (rt (some (.int (f_X12_in v0 v1 v2))) (h)) := by
  refine r_weak (L1 := [some (.int v0), some (.int v1), some (.int v2)]) ⟨rfl, rfl, rfl, trivial⟩ ?_
  refine r_iload_n rfl rfl ?_
  refine r_iload_n rfl rfl ?_
  refine r_icmp_lt rfl (fun c_2 => ?_) (fun c_2 => ?_)
  · refine r_iconst_ (a := 0) rfl (by decide) ?_
    refine r_iret rfl rfl rfl ?_
    exact ⟨by (unfold f_X12_in; (try dsimp only); rw [if_pos c_2]), rfl⟩
  · refine r_iload_n rfl rfl ?_
    refine r_iload_n rfl rfl ?_
    refine r_icmp_gt rfl (fun c_7 => ?_) (fun c_7 => ?_)
    · refine r_iconst_ (a := 0) rfl (by decide) ?_
      refine r_iret rfl rfl rfl ?_
      exact ⟨by (unfold f_X12_in; (try dsimp only); rw [if_neg c_2, if_pos c_7]), rfl⟩
    · refine r_iconst_ (a := 1) rfl (by decide) ?_
      refine r_goto rfl ?_
      refine r_iret rfl rfl rfl ?_
      exact ⟨by (unfold f_X12_in; (try dsimp only); rw [if_neg c_2, if_neg c_7]), rfl⟩

def f_X12_within (v0 : Int32) (v1 : Int32) (v2 : Int32) : Int32 :=
  if (v1 ≤ v0) then if (v0 ≤ v2) then v0 else v2 else v1
set_option maxRecDepth 100000 in
set_option maxHeartbeats 4000000 in
theorem s_X12_within {G : ab_G} {d : Nat} {h : ab_H} {v0 : Int32} {v1 : Int32} {v2 : Int32}  : ab_C G d 0 0 M_X12_within 0 (ab_ent [.int v0, .int v1, .int v2]) [] (h) (rt (some (.int (f_X12_within v0 v1 v2))) (h)) := by
  refine r_weak (L1 := [some (.int v0), some (.int v1), some (.int v2)]) ⟨rfl, rfl, rfl, trivial⟩ ?_
  refine r_iload_n rfl rfl ?_
  refine r_iload_n rfl rfl ?_
  refine r_icmp_ge rfl (fun c_2 => ?_) (fun c_2 => ?_)
  · refine r_iload_n rfl rfl ?_
    refine r_iload_n rfl rfl ?_
    refine r_icmp_le rfl (fun c_11 => ?_) (fun c_11 => ?_)
    · refine r_iload_n rfl rfl ?_
      refine r_iret rfl rfl rfl ?_
      exact ⟨by (unfold f_X12_within; (try dsimp only); rw [if_pos c_2, if_pos c_11]), rfl⟩
    · refine r_iload_n rfl rfl ?_
      refine r_goto rfl ?_
      refine r_iret rfl rfl rfl ?_
      exact ⟨by (unfold f_X12_within; (try dsimp only); rw [if_pos c_2, if_neg c_11]), rfl⟩
  · refine r_iload_n rfl rfl ?_
    refine r_goto rfl ?_
    refine r_iret rfl rfl rfl ?_
    exact ⟨by (unfold f_X12_within; (try dsimp only); rw [if_neg c_2]), rfl⟩

def f_X12_off (v0 : Int32) (v1 : Int32) : Int32 :=
  if (v1 ≤ v0) then (v0 - v1) else (v1 - v0)
set_option maxRecDepth 100000 in
set_option maxHeartbeats 4000000 in
theorem s_X12_off {G : ab_G} {d : Nat} {h : ab_H} {v0 : Int32} {v1 : Int32}  : ab_C G d 0 0 M_X12_off 0 (ab_ent [.int v0, .int v1]) [] (h) (rt (some (.int (f_X12_off v0 v1))) (h)) := by
  refine r_weak (L1 := [some (.int v0), some (.int v1)]) ⟨rfl, rfl, trivial⟩ ?_
  refine r_iload_n rfl rfl ?_
  refine r_iload_n rfl rfl ?_
  refine r_icmp_ge rfl (fun c_2 => ?_) (fun c_2 => ?_)
  · refine r_iload_n rfl rfl ?_
    refine r_iload_n rfl rfl ?_
    refine r_isub rfl ?_
    refine r_iret rfl rfl rfl ?_
    exact ⟨by (unfold f_X12_off; (try dsimp only); rw [if_pos c_2]), rfl⟩
  · refine r_iload_n rfl rfl ?_
    refine r_iload_n rfl rfl ?_
    refine r_isub rfl ?_
    refine r_goto rfl ?_
    refine r_iret rfl rfl rfl ?_
    exact ⟨by (unfold f_X12_off; (try dsimp only); rw [if_neg c_2]), rfl⟩

def f_X12_stepsOff (v0 : Int32) (v1 : Int32) : Int32 :=
  ((f_X12_off (v0 - v0 / (10 : Int32) * (10 : Int32)) (v1 - v1 / (10 : Int32) * (10 : Int32))) + (f_X12_off (v0 / (10 : Int32)) (v1 / (10 : Int32))))
set_option maxRecDepth 100000 in
set_option maxHeartbeats 4000000 in
theorem s_X12_stepsOff {G : ab_G} {d : Nat} {h : ab_H} {v0 : Int32} {v1 : Int32}  : ab_C G (d + 1) 0 0 M_X12_stepsOff 0 (ab_ent [.int v0, .int v1]) [] (h) (rt (some (.int (f_X12_stepsOff v0 v1))) (h)) := by
  refine r_weak (L1 := [some (.int v0), some (.int v1)]) ⟨rfl, rfl, trivial⟩ ?_
  refine r_iload_n rfl rfl ?_
  refine r_bipush_ (a := 10) rfl (by decide) ?_
  refine r_irem rfl (by decide) ?_
  refine r_iload_n rfl rfl ?_
  refine r_bipush_ (a := 10) rfl (by decide) ?_
  refine r_irem rfl (by decide) ?_
  refine r_callS0 [_, _] _ rfl kY_X12_off kT_X12_off rfl rfl (Nat.le_of_ble_eq_true rfl) (Nat.le_of_ble_eq_true rfl) (s_X12_off) (fun r h q => ?_)
  obtain ⟨rfl, rfl⟩ := q
  simp only [Option.toList, List.cons_append, List.nil_append]
  refine r_iload_n rfl rfl ?_
  refine r_bipush_ (a := 10) rfl (by decide) ?_
  refine r_idiv rfl (by decide) ?_
  refine r_iload_n rfl rfl ?_
  refine r_bipush_ (a := 10) rfl (by decide) ?_
  refine r_idiv rfl (by decide) ?_
  refine r_callS0 [_, _] _ rfl kY_X12_off kT_X12_off rfl rfl (Nat.le_of_ble_eq_true rfl) (Nat.le_of_ble_eq_true rfl) (s_X12_off) (fun r h q => ?_)
  obtain ⟨rfl, rfl⟩ := q
  simp only [Option.toList, List.cons_append, List.nil_append]
  refine r_iadd rfl ?_
  refine r_iret rfl rfl rfl ?_
  exact ⟨rfl, rfl⟩

def f_X12_mixed (v0 : Int32) (v1 : Int32) : Int32 :=
  ((((v0 ^^^ v1) * (1103515245 : Int32)) + (12345 : Int32)) ^^^ (i_ushr (((v0 ^^^ v1) * (1103515245 : Int32)) + (12345 : Int32)) (15 : Int32)))
set_option maxRecDepth 100000 in
set_option maxHeartbeats 4000000 in
theorem s_X12_mixed {G : ab_G} {d : Nat} {h : ab_H} {v0 : Int32} {v1 : Int32}  : ab_C G d 0 0 M_X12_mixed 0 (ab_ent [.int v0, .int v1]) [] (h) (rt (some (.int (f_X12_mixed v0 v1))) (h)) := by
  refine r_weak (L1 := [some (.int v0), some (.int v1), none]) ⟨rfl, rfl, trivial⟩ ?_
  refine r_iload_n rfl rfl ?_
  refine r_iload_n rfl rfl ?_
  refine r_ixor rfl ?_
  refine r_ldc_w rfl ?_
  refine r_imul rfl ?_
  refine r_sipush_ (a := 12345) rfl (by decide) ?_
  refine r_iadd rfl ?_
  refine r_istore_n rfl (Nat.le_of_ble_eq_true rfl) rfl ?_
  refine r_iload_n rfl rfl ?_
  refine r_iload_n rfl rfl ?_
  refine r_bipush_ (a := 15) rfl (by decide) ?_
  refine r_iushr rfl ?_
  refine r_ixor rfl ?_
  refine r_iret rfl rfl rfl ?_
  exact ⟨rfl, rfl⟩

def f_X12_isDigit (v0 : Int32) : Int32 :=
  if (v0 < (48 : Int32)) then (0 : Int32) else if ((57 : Int32) < v0) then (0 : Int32) else (1 : Int32)
set_option maxRecDepth 100000 in
set_option maxHeartbeats 4000000 in
theorem s_X12_isDigit {G : ab_G} {d : Nat} {h : ab_H} {v0 : Int32}  : ab_C G d 0 0 M_X12_isDigit 0 (ab_ent [.int v0]) [] (h) (rt (some (.int (f_X12_isDigit v0))) (h)) := by
  refine r_weak (L1 := [some (.int v0)]) ⟨rfl, trivial⟩ ?_
  refine r_iload_n rfl rfl ?_
  refine r_bipush_ (a := 48) rfl (by decide) ?_
  refine r_icmp_lt rfl (fun c_3 => ?_) (fun c_3 => ?_)
  · refine r_iconst_ (a := 0) rfl (by decide) ?_
    refine r_iret rfl rfl rfl ?_
    exact ⟨by (unfold f_X12_isDigit; (try dsimp only); rw [if_pos c_3]), rfl⟩
  · refine r_iload_n rfl rfl ?_
    refine r_bipush_ (a := 57) rfl (by decide) ?_
    refine r_icmp_gt rfl (fun c_9 => ?_) (fun c_9 => ?_)
    · refine r_iconst_ (a := 0) rfl (by decide) ?_
      refine r_iret rfl rfl rfl ?_
      exact ⟨by (unfold f_X12_isDigit; (try dsimp only); rw [if_neg c_3, if_pos c_9]), rfl⟩
    · refine r_iconst_ (a := 1) rfl (by decide) ?_
      refine r_goto rfl ?_
      refine r_iret rfl rfl rfl ?_
      exact ⟨by (unfold f_X12_isDigit; (try dsimp only); rw [if_neg c_3, if_neg c_9]), rfl⟩

def f_X12_isLetter (v0 : Int32) : Int32 :=
  if (v0 < (97 : Int32)) then (0 : Int32) else if ((122 : Int32) < v0) then (0 : Int32) else (1 : Int32)
set_option maxRecDepth 100000 in
set_option maxHeartbeats 4000000 in
theorem s_X12_isLetter {G : ab_G} {d : Nat} {h : ab_H} {v0 : Int32}  : ab_C G d 0 0 M_X12_isLetter 0 (ab_ent [.int v0]) [] (h) (rt (some (.int (f_X12_isLetter v0))) (h)) := by
  refine r_weak (L1 := [some (.int v0)]) ⟨rfl, trivial⟩ ?_
  refine r_iload_n rfl rfl ?_
  refine r_bipush_ (a := 97) rfl (by decide) ?_
  refine r_icmp_lt rfl (fun c_3 => ?_) (fun c_3 => ?_)
  · refine r_iconst_ (a := 0) rfl (by decide) ?_
    refine r_iret rfl rfl rfl ?_
    exact ⟨by (unfold f_X12_isLetter; (try dsimp only); rw [if_pos c_3]), rfl⟩
  · refine r_iload_n rfl rfl ?_
    refine r_bipush_ (a := 122) rfl (by decide) ?_
    refine r_icmp_gt rfl (fun c_9 => ?_) (fun c_9 => ?_)
    · refine r_iconst_ (a := 0) rfl (by decide) ?_
      refine r_iret rfl rfl rfl ?_
      exact ⟨by (unfold f_X12_isLetter; (try dsimp only); rw [if_neg c_3, if_pos c_9]), rfl⟩
    · refine r_iconst_ (a := 1) rfl (by decide) ?_
      refine r_goto rfl ?_
      refine r_iret rfl rfl rfl ?_
      exact ⟨by (unfold f_X12_isLetter; (try dsimp only); rw [if_neg c_3, if_neg c_9]), rfl⟩

def f_X12_appends (v0 : Int64) (v1 : Int32) : Int64 :=
  if (v1 = 0) then v0 else (((27 : Int64) * v0) + ((v1 - (97 : Int32)) + (1 : Int32)).toInt64)
set_option maxRecDepth 100000 in
set_option maxHeartbeats 4000000 in
theorem s_X12_appends {G : ab_G} {d : Nat} {h : ab_H} {v0 : Int64} {v1 : Int32}  : ab_C G d 0 0 M_X12_appends 0 (ab_ent [.long v0, .int v1]) [] (h) (rt (some (.long (f_X12_appends v0 v1))) (h)) := by
  refine r_weak (L1 := [some (.long v0), none, some (.int v1)]) ⟨rfl, rfl, trivial⟩ ?_
  refine r_iload_n rfl rfl ?_
  refine r_if_ne rfl (fun c_1 => ?_) (fun c_1 => ?_)
  · refine r_ldc2_w rfl ?_
    refine r_lload_n rfl rfl ?_
    refine r_lmul rfl ?_
    refine r_iload_n rfl rfl ?_
    refine r_bipush_ (a := 97) rfl (by decide) ?_
    refine r_isub rfl ?_
    refine r_iconst_ (a := 1) rfl (by decide) ?_
    refine r_iadd rfl ?_
    refine r_i2l rfl ?_
    refine r_ladd rfl ?_
    refine r_lret rfl rfl ?_
    exact ⟨by (unfold f_X12_appends; (try dsimp only); rw [if_neg c_1]), rfl⟩
  · refine r_lload_n rfl rfl ?_
    refine r_goto rfl ?_
    refine r_lret rfl rfl ?_
    exact ⟨by (unfold f_X12_appends; (try dsimp only); rw [if_pos c_1]), rfl⟩

def f_X12_word (v0 : Int32) (v1 : Int32) (v2 : Int32) (v3 : Int32) (v4 : Int32) (v5 : Int32) (v6 : Int32) : Int64 :=
  (f_X12_appends (f_X12_appends (f_X12_appends (f_X12_appends (f_X12_appends (f_X12_appends (f_X12_appends (0 : Int64) v0) v1) v2) v3) v4) v5) v6)
set_option maxRecDepth 100000 in
set_option maxHeartbeats 4000000 in
theorem s_X12_word {G : ab_G} {d : Nat} {h : ab_H} {v0 : Int32} {v1 : Int32} {v2 : Int32} {v3 : Int32} {v4 : Int32} {v5 : Int32} {v6 : Int32}  : ab_C G (d + 1) 0 0 M_X12_word 0 (ab_ent [.int v0, .int v1, .int v2, .int v3, .int v4, .int v5, .int v6]) [] (h) (rt (some (.long (f_X12_word v0 v1 v2 v3 v4 v5 v6))) (h)) := by
  refine r_weak (L1 := [some (.int v0), some (.int v1), some (.int v2), some (.int v3), some (.int v4), some (.int v5), some (.int v6)]) ⟨rfl, rfl, rfl, rfl, rfl, rfl, rfl, trivial⟩ ?_
  refine r_lconst (a := 0) rfl (by decide) ?_
  refine r_iload_n rfl rfl ?_
  refine r_callS0 [_, _] _ rfl kY_X12_appends kT_X12_appends rfl rfl (Nat.le_of_ble_eq_true rfl) (Nat.le_of_ble_eq_true rfl) (s_X12_appends) (fun r h q => ?_)
  obtain ⟨rfl, rfl⟩ := q
  simp only [Option.toList, List.cons_append, List.nil_append]
  refine r_iload_n rfl rfl ?_
  refine r_callS0 [_, _] _ rfl kY_X12_appends kT_X12_appends rfl rfl (Nat.le_of_ble_eq_true rfl) (Nat.le_of_ble_eq_true rfl) (s_X12_appends) (fun r h q => ?_)
  obtain ⟨rfl, rfl⟩ := q
  simp only [Option.toList, List.cons_append, List.nil_append]
  refine r_iload_n rfl rfl ?_
  refine r_callS0 [_, _] _ rfl kY_X12_appends kT_X12_appends rfl rfl (Nat.le_of_ble_eq_true rfl) (Nat.le_of_ble_eq_true rfl) (s_X12_appends) (fun r h q => ?_)
  obtain ⟨rfl, rfl⟩ := q
  simp only [Option.toList, List.cons_append, List.nil_append]
  refine r_iload_n rfl rfl ?_
  refine r_callS0 [_, _] _ rfl kY_X12_appends kT_X12_appends rfl rfl (Nat.le_of_ble_eq_true rfl) (Nat.le_of_ble_eq_true rfl) (s_X12_appends) (fun r h q => ?_)
  obtain ⟨rfl, rfl⟩ := q
  simp only [Option.toList, List.cons_append, List.nil_append]
  refine r_iload rfl rfl ?_
  refine r_callS0 [_, _] _ rfl kY_X12_appends kT_X12_appends rfl rfl (Nat.le_of_ble_eq_true rfl) (Nat.le_of_ble_eq_true rfl) (s_X12_appends) (fun r h q => ?_)
  obtain ⟨rfl, rfl⟩ := q
  simp only [Option.toList, List.cons_append, List.nil_append]
  refine r_iload rfl rfl ?_
  refine r_callS0 [_, _] _ rfl kY_X12_appends kT_X12_appends rfl rfl (Nat.le_of_ble_eq_true rfl) (Nat.le_of_ble_eq_true rfl) (s_X12_appends) (fun r h q => ?_)
  obtain ⟨rfl, rfl⟩ := q
  simp only [Option.toList, List.cons_append, List.nil_append]
  refine r_iload rfl rfl ?_
  refine r_callS0 [_, _] _ rfl kY_X12_appends kT_X12_appends rfl rfl (Nat.le_of_ble_eq_true rfl) (Nat.le_of_ble_eq_true rfl) (s_X12_appends) (fun r h q => ?_)
  obtain ⟨rfl, rfl⟩ := q
  simp only [Option.toList, List.cons_append, List.nil_append]
  refine r_lret rfl rfl ?_
  exact ⟨rfl, rfl⟩

def f_X12_isCell (v0 : Int32) (v1 : Int32) : Int32 :=
  if ((f_X12_in v0 (0 : Int32) (9 : Int32)) = 0) then (0 : Int32) else if ((f_X12_in v1 (0 : Int32) (7 : Int32)) = 0) then (0 : Int32) else (1 : Int32)
set_option maxRecDepth 100000 in
set_option maxHeartbeats 4000000 in
theorem s_X12_isCell {G : ab_G} {d : Nat} {h : ab_H} {v0 : Int32} {v1 : Int32}  : ab_C G (d + 1) 0 0 M_X12_isCell 0 (ab_ent [.int v0, .int v1]) [] (h) (rt (some (.int (f_X12_isCell v0 v1))) (h)) := by
  refine r_weak (L1 := [some (.int v0), some (.int v1)]) ⟨rfl, rfl, trivial⟩ ?_
  refine r_iload_n rfl rfl ?_
  refine r_iconst_ (a := 0) rfl (by decide) ?_
  refine r_bipush_ (a := 9) rfl (by decide) ?_
  refine r_callS0 [_, _, _] _ rfl kY_X12_in kT_X12_in rfl rfl (Nat.le_of_ble_eq_true rfl) (Nat.le_of_ble_eq_true rfl) (s_X12_in) (fun r h q => ?_)
  obtain ⟨rfl, rfl⟩ := q
  simp only [Option.toList, List.cons_append, List.nil_append]
  refine r_if_eq rfl (fun c_7 => ?_) (fun c_7 => ?_)
  · refine r_iconst_ (a := 0) rfl (by decide) ?_
    refine r_iret rfl rfl rfl ?_
    exact ⟨by (unfold f_X12_isCell; (try dsimp only); rw [if_pos c_7]), rfl⟩
  · refine r_iload_n rfl rfl ?_
    refine r_iconst_ (a := 0) rfl (by decide) ?_
    refine r_bipush_ (a := 7) rfl (by decide) ?_
    refine r_callS0 [_, _, _] _ rfl kY_X12_in kT_X12_in rfl rfl (Nat.le_of_ble_eq_true rfl) (Nat.le_of_ble_eq_true rfl) (s_X12_in) (fun r h q => ?_)
    obtain ⟨rfl, rfl⟩ := q
    simp only [Option.toList, List.cons_append, List.nil_append]
    refine r_if_eq rfl (fun c_17 => ?_) (fun c_17 => ?_)
    · refine r_iconst_ (a := 0) rfl (by decide) ?_
      refine r_iret rfl rfl rfl ?_
      exact ⟨by (unfold f_X12_isCell; (try dsimp only); rw [if_neg c_7, if_pos c_17]), rfl⟩
    · refine r_iconst_ (a := 1) rfl (by decide) ?_
      refine r_goto rfl ?_
      refine r_iret rfl rfl rfl ?_
      exact ⟨by (unfold f_X12_isCell; (try dsimp only); rw [if_neg c_7, if_neg c_17]), rfl⟩

def f_X12_isLong (v0 : Int32) : Int32 :=
  (f_X12_in v0 (0 : Int32) (40 : Int32))
set_option maxRecDepth 100000 in
set_option maxHeartbeats 4000000 in
theorem s_X12_isLong {G : ab_G} {d : Nat} {h : ab_H} {v0 : Int32} (hb0 : narrow .boolean (.int (f_X12_in v0 (0 : Int32) (40 : Int32))) = .int (f_X12_in v0 (0 : Int32) (40 : Int32))) : ab_C G (d + 1) 0 0 M_X12_isLong 0 (ab_ent [.int v0]) [] (h) (rt (some (.int (f_X12_isLong v0))) (h)) := by
  refine r_weak (L1 := [some (.int v0)]) ⟨rfl, trivial⟩ ?_
  refine r_iload_n rfl rfl ?_
  refine r_iconst_ (a := 0) rfl (by decide) ?_
  refine r_bipush_ (a := 40) rfl (by decide) ?_
  refine r_callS0 [_, _, _] _ rfl kY_X12_in kT_X12_in rfl rfl (Nat.le_of_ble_eq_true rfl) (Nat.le_of_ble_eq_true rfl) (s_X12_in) (fun r h q => ?_)
  obtain ⟨rfl, rfl⟩ := q
  simp only [Option.toList, List.cons_append, List.nil_append]
  refine r_iret rfl rfl hb0 ?_
  exact ⟨rfl, rfl⟩

def f_X6_isBlank (v0 : Int32) : Int32 :=
  if (v0 = (9 : Int32)) then (1 : Int32) else if (v0 = (10 : Int32)) then (1 : Int32) else if (v0 = (13 : Int32)) then (1 : Int32) else if (v0 = (32 : Int32)) then (1 : Int32) else (0 : Int32)
set_option maxRecDepth 100000 in
set_option maxHeartbeats 4000000 in
theorem s_X6_isBlank {G : ab_G} {d : Nat} {h : ab_H} {v0 : Int32}  : ab_C G d 0 0 M_X6_isBlank 0 (ab_ent [.int v0]) [] (h) (rt (some (.int (f_X6_isBlank v0))) (h)) := by
  refine r_weak (L1 := [some (.int v0)]) ⟨rfl, trivial⟩ ?_
  refine r_iload_n rfl rfl ?_
  refine r_bipush_ (a := 9) rfl (by decide) ?_
  refine r_icmp_eq rfl (fun c_3 => ?_) (fun c_3 => ?_)
  · refine r_iconst_ (a := 1) rfl (by decide) ?_
    refine r_goto rfl ?_
    refine r_iret rfl rfl rfl ?_
    exact ⟨by (unfold f_X6_isBlank; (try dsimp only); rw [if_pos c_3]), rfl⟩
  · refine r_iload_n rfl rfl ?_
    refine r_bipush_ (a := 10) rfl (by decide) ?_
    refine r_icmp_eq rfl (fun c_9 => ?_) (fun c_9 => ?_)
    · refine r_iconst_ (a := 1) rfl (by decide) ?_
      refine r_goto rfl ?_
      refine r_iret rfl rfl rfl ?_
      exact ⟨by (unfold f_X6_isBlank; (try dsimp only); rw [if_neg c_3, if_pos c_9]), rfl⟩
    · refine r_iload_n rfl rfl ?_
      refine r_bipush_ (a := 13) rfl (by decide) ?_
      refine r_icmp_eq rfl (fun c_15 => ?_) (fun c_15 => ?_)
      · refine r_iconst_ (a := 1) rfl (by decide) ?_
        refine r_goto rfl ?_
        refine r_iret rfl rfl rfl ?_
        exact ⟨by (unfold f_X6_isBlank; (try dsimp only); rw [if_neg c_3, if_neg c_9, if_pos c_15]), rfl⟩
      · refine r_iload_n rfl rfl ?_
        refine r_bipush_ (a := 32) rfl (by decide) ?_
        refine r_icmp_ne rfl (fun c_21 => ?_) (fun c_21 => ?_)
        · refine r_iconst_ (a := 0) rfl (by decide) ?_
          refine r_iret rfl rfl rfl ?_
          exact ⟨by (unfold f_X6_isBlank; (try dsimp only); rw [if_neg c_3, if_neg c_9, if_neg c_15, if_neg c_21]), rfl⟩
        · refine r_iconst_ (a := 1) rfl (by decide) ?_
          refine r_goto rfl ?_
          refine r_iret rfl rfl rfl ?_
          exact ⟨by (unfold f_X6_isBlank; (try dsimp only); rw [if_neg c_3, if_neg c_9, if_neg c_15, if_pos c_21]), rfl⟩

def f_X6_isLetter (v0 : Int32) : Int32 :=
  if (v0 < (97 : Int32)) then (0 : Int32) else if ((122 : Int32) < v0) then (0 : Int32) else (1 : Int32)
set_option maxRecDepth 100000 in
set_option maxHeartbeats 4000000 in
theorem s_X6_isLetter {G : ab_G} {d : Nat} {h : ab_H} {v0 : Int32}  : ab_C G d 0 0 M_X6_isLetter 0 (ab_ent [.int v0]) [] (h) (rt (some (.int (f_X6_isLetter v0))) (h)) := by
  refine r_weak (L1 := [some (.int v0)]) ⟨rfl, trivial⟩ ?_
  refine r_iload_n rfl rfl ?_
  refine r_bipush_ (a := 97) rfl (by decide) ?_
  refine r_icmp_lt rfl (fun c_3 => ?_) (fun c_3 => ?_)
  · refine r_iconst_ (a := 0) rfl (by decide) ?_
    refine r_iret rfl rfl rfl ?_
    exact ⟨by (unfold f_X6_isLetter; (try dsimp only); rw [if_pos c_3]), rfl⟩
  · refine r_iload_n rfl rfl ?_
    refine r_bipush_ (a := 122) rfl (by decide) ?_
    refine r_icmp_gt rfl (fun c_9 => ?_) (fun c_9 => ?_)
    · refine r_iconst_ (a := 0) rfl (by decide) ?_
      refine r_iret rfl rfl rfl ?_
      exact ⟨by (unfold f_X6_isLetter; (try dsimp only); rw [if_neg c_3, if_pos c_9]), rfl⟩
    · refine r_iconst_ (a := 1) rfl (by decide) ?_
      refine r_goto rfl ?_
      refine r_iret rfl rfl rfl ?_
      exact ⟨by (unfold f_X6_isLetter; (try dsimp only); rw [if_neg c_3, if_neg c_9]), rfl⟩

def f_X6_isDigit (v0 : Int32) : Int32 :=
  if (v0 < (48 : Int32)) then (0 : Int32) else if ((57 : Int32) < v0) then (0 : Int32) else (1 : Int32)
set_option maxRecDepth 100000 in
set_option maxHeartbeats 4000000 in
theorem s_X6_isDigit {G : ab_G} {d : Nat} {h : ab_H} {v0 : Int32}  : ab_C G d 0 0 M_X6_isDigit 0 (ab_ent [.int v0]) [] (h) (rt (some (.int (f_X6_isDigit v0))) (h)) := by
  refine r_weak (L1 := [some (.int v0)]) ⟨rfl, trivial⟩ ?_
  refine r_iload_n rfl rfl ?_
  refine r_bipush_ (a := 48) rfl (by decide) ?_
  refine r_icmp_lt rfl (fun c_3 => ?_) (fun c_3 => ?_)
  · refine r_iconst_ (a := 0) rfl (by decide) ?_
    refine r_iret rfl rfl rfl ?_
    exact ⟨by (unfold f_X6_isDigit; (try dsimp only); rw [if_pos c_3]), rfl⟩
  · refine r_iload_n rfl rfl ?_
    refine r_bipush_ (a := 57) rfl (by decide) ?_
    refine r_icmp_gt rfl (fun c_9 => ?_) (fun c_9 => ?_)
    · refine r_iconst_ (a := 0) rfl (by decide) ?_
      refine r_iret rfl rfl rfl ?_
      exact ⟨by (unfold f_X6_isDigit; (try dsimp only); rw [if_neg c_3, if_pos c_9]), rfl⟩
    · refine r_iconst_ (a := 1) rfl (by decide) ?_
      refine r_goto rfl ?_
      refine r_iret rfl rfl rfl ?_
      exact ⟨by (unfold f_X6_isDigit; (try dsimp only); rw [if_neg c_3, if_neg c_9]), rfl⟩

def f_X6_isSign (v0 : Int32) : Int32 :=
  if (v0 = 40) then (1 : Int32) else if (v0 = 41) then (1 : Int32) else if (v0 = 42) then (1 : Int32) else if (v0 = 43) then (1 : Int32) else if (v0 = 45) then (1 : Int32) else if (v0 = 47) then (1 : Int32) else if (v0 = 59) then (1 : Int32) else if (v0 = 60) then (1 : Int32) else if (v0 = 61) then (1 : Int32) else if (v0 = 44) then (0 : Int32) else if (v0 = 46) then (0 : Int32) else if (v0 = 48) then (0 : Int32) else if (v0 = 49) then (0 : Int32) else if (v0 = 50) then (0 : Int32) else if (v0 = 51) then (0 : Int32) else if (v0 = 52) then (0 : Int32) else if (v0 = 53) then (0 : Int32) else if (v0 = 54) then (0 : Int32) else if (v0 = 55) then (0 : Int32) else if (v0 = 56) then (0 : Int32) else if (v0 = 57) then (0 : Int32) else if (v0 = 58) then (0 : Int32) else (0 : Int32)
set_option maxRecDepth 100000 in
set_option maxHeartbeats 4000000 in
theorem s_X6_isSign {G : ab_G} {d : Nat} {h : ab_H} {v0 : Int32}  : ab_C G d 0 0 M_X6_isSign 0 (ab_ent [.int v0]) [] (h) (rt (some (.int (f_X6_isSign v0))) (h)) := by
  refine r_weak (L1 := [some (.int v0)]) ⟨rfl, trivial⟩ ?_
  refine r_iload_n rfl rfl ?_
  by_cases c_1_40 : (v0 = 40)
  · refine r_tableIn (tgt := 104) rfl (by rw [c_1_40]; decide) (by rw [c_1_40]; decide) (by rw [c_1_40]; rfl) (by decide) ?_
    refine r_iconst_ (a := 1) rfl (by decide) ?_
    refine r_iret rfl rfl rfl ?_
    exact ⟨by (unfold f_X6_isSign; (try dsimp only); rw [if_pos c_1_40]), rfl⟩
  · by_cases c_1_41 : (v0 = 41)
    · refine r_tableIn (tgt := 104) rfl (by rw [c_1_41]; decide) (by rw [c_1_41]; decide) (by rw [c_1_41]; rfl) (by decide) ?_
      refine r_iconst_ (a := 1) rfl (by decide) ?_
      refine r_iret rfl rfl rfl ?_
      exact ⟨by (unfold f_X6_isSign; (try dsimp only); rw [if_neg c_1_40, if_pos c_1_41]), rfl⟩
    · by_cases c_1_42 : (v0 = 42)
      · refine r_tableIn (tgt := 104) rfl (by rw [c_1_42]; decide) (by rw [c_1_42]; decide) (by rw [c_1_42]; rfl) (by decide) ?_
        refine r_iconst_ (a := 1) rfl (by decide) ?_
        refine r_iret rfl rfl rfl ?_
        exact ⟨by (unfold f_X6_isSign; (try dsimp only); rw [if_neg c_1_40, if_neg c_1_41, if_pos c_1_42]), rfl⟩
      · by_cases c_1_43 : (v0 = 43)
        · refine r_tableIn (tgt := 104) rfl (by rw [c_1_43]; decide) (by rw [c_1_43]; decide) (by rw [c_1_43]; rfl) (by decide) ?_
          refine r_iconst_ (a := 1) rfl (by decide) ?_
          refine r_iret rfl rfl rfl ?_
          exact ⟨by (unfold f_X6_isSign; (try dsimp only); rw [if_neg c_1_40, if_neg c_1_41, if_neg c_1_42, if_pos c_1_43]), rfl⟩
        · by_cases c_1_45 : (v0 = 45)
          · refine r_tableIn (tgt := 104) rfl (by rw [c_1_45]; decide) (by rw [c_1_45]; decide) (by rw [c_1_45]; rfl) (by decide) ?_
            refine r_iconst_ (a := 1) rfl (by decide) ?_
            refine r_iret rfl rfl rfl ?_
            exact ⟨by (unfold f_X6_isSign; (try dsimp only); rw [if_neg c_1_40, if_neg c_1_41, if_neg c_1_42, if_neg c_1_43, if_pos c_1_45]), rfl⟩
          · by_cases c_1_47 : (v0 = 47)
            · refine r_tableIn (tgt := 104) rfl (by rw [c_1_47]; decide) (by rw [c_1_47]; decide) (by rw [c_1_47]; rfl) (by decide) ?_
              refine r_iconst_ (a := 1) rfl (by decide) ?_
              refine r_iret rfl rfl rfl ?_
              exact ⟨by (unfold f_X6_isSign; (try dsimp only); rw [if_neg c_1_40, if_neg c_1_41, if_neg c_1_42, if_neg c_1_43, if_neg c_1_45, if_pos c_1_47]), rfl⟩
            · by_cases c_1_59 : (v0 = 59)
              · refine r_tableIn (tgt := 104) rfl (by rw [c_1_59]; decide) (by rw [c_1_59]; decide) (by rw [c_1_59]; rfl) (by decide) ?_
                refine r_iconst_ (a := 1) rfl (by decide) ?_
                refine r_iret rfl rfl rfl ?_
                exact ⟨by (unfold f_X6_isSign; (try dsimp only); rw [if_neg c_1_40, if_neg c_1_41, if_neg c_1_42, if_neg c_1_43, if_neg c_1_45, if_neg c_1_47, if_pos c_1_59]), rfl⟩
              · by_cases c_1_60 : (v0 = 60)
                · refine r_tableIn (tgt := 104) rfl (by rw [c_1_60]; decide) (by rw [c_1_60]; decide) (by rw [c_1_60]; rfl) (by decide) ?_
                  refine r_iconst_ (a := 1) rfl (by decide) ?_
                  refine r_iret rfl rfl rfl ?_
                  exact ⟨by (unfold f_X6_isSign; (try dsimp only); rw [if_neg c_1_40, if_neg c_1_41, if_neg c_1_42, if_neg c_1_43, if_neg c_1_45, if_neg c_1_47, if_neg c_1_59, if_pos c_1_60]), rfl⟩
                · by_cases c_1_61 : (v0 = 61)
                  · refine r_tableIn (tgt := 104) rfl (by rw [c_1_61]; decide) (by rw [c_1_61]; decide) (by rw [c_1_61]; rfl) (by decide) ?_
                    refine r_iconst_ (a := 1) rfl (by decide) ?_
                    refine r_iret rfl rfl rfl ?_
                    exact ⟨by (unfold f_X6_isSign; (try dsimp only); rw [if_neg c_1_40, if_neg c_1_41, if_neg c_1_42, if_neg c_1_43, if_neg c_1_45, if_neg c_1_47, if_neg c_1_59, if_neg c_1_60, if_pos c_1_61]), rfl⟩
                  · by_cases c_1_44 : (v0 = 44)
                    · refine r_tableIn (tgt := 106) rfl (by rw [c_1_44]; decide) (by rw [c_1_44]; decide) (by rw [c_1_44]; rfl) (by decide) ?_
                      refine r_iconst_ (a := 0) rfl (by decide) ?_
                      refine r_iret rfl rfl rfl ?_
                      exact ⟨by (unfold f_X6_isSign; (try dsimp only); rw [if_neg c_1_40, if_neg c_1_41, if_neg c_1_42, if_neg c_1_43, if_neg c_1_45, if_neg c_1_47, if_neg c_1_59, if_neg c_1_60, if_neg c_1_61, if_pos c_1_44]), rfl⟩
                    · by_cases c_1_46 : (v0 = 46)
                      · refine r_tableIn (tgt := 106) rfl (by rw [c_1_46]; decide) (by rw [c_1_46]; decide) (by rw [c_1_46]; rfl) (by decide) ?_
                        refine r_iconst_ (a := 0) rfl (by decide) ?_
                        refine r_iret rfl rfl rfl ?_
                        exact ⟨by (unfold f_X6_isSign; (try dsimp only); rw [if_neg c_1_40, if_neg c_1_41, if_neg c_1_42, if_neg c_1_43, if_neg c_1_45, if_neg c_1_47, if_neg c_1_59, if_neg c_1_60, if_neg c_1_61, if_neg c_1_44, if_pos c_1_46]), rfl⟩
                      · by_cases c_1_48 : (v0 = 48)
                        · refine r_tableIn (tgt := 106) rfl (by rw [c_1_48]; decide) (by rw [c_1_48]; decide) (by rw [c_1_48]; rfl) (by decide) ?_
                          refine r_iconst_ (a := 0) rfl (by decide) ?_
                          refine r_iret rfl rfl rfl ?_
                          exact ⟨by (unfold f_X6_isSign; (try dsimp only); rw [if_neg c_1_40, if_neg c_1_41, if_neg c_1_42, if_neg c_1_43, if_neg c_1_45, if_neg c_1_47, if_neg c_1_59, if_neg c_1_60, if_neg c_1_61, if_neg c_1_44, if_neg c_1_46, if_pos c_1_48]), rfl⟩
                        · by_cases c_1_49 : (v0 = 49)
                          · refine r_tableIn (tgt := 106) rfl (by rw [c_1_49]; decide) (by rw [c_1_49]; decide) (by rw [c_1_49]; rfl) (by decide) ?_
                            refine r_iconst_ (a := 0) rfl (by decide) ?_
                            refine r_iret rfl rfl rfl ?_
                            exact ⟨by (unfold f_X6_isSign; (try dsimp only); rw [if_neg c_1_40, if_neg c_1_41, if_neg c_1_42, if_neg c_1_43, if_neg c_1_45, if_neg c_1_47, if_neg c_1_59, if_neg c_1_60, if_neg c_1_61, if_neg c_1_44, if_neg c_1_46, if_neg c_1_48, if_pos c_1_49]), rfl⟩
                          · by_cases c_1_50 : (v0 = 50)
                            · refine r_tableIn (tgt := 106) rfl (by rw [c_1_50]; decide) (by rw [c_1_50]; decide) (by rw [c_1_50]; rfl) (by decide) ?_
                              refine r_iconst_ (a := 0) rfl (by decide) ?_
                              refine r_iret rfl rfl rfl ?_
                              exact ⟨by (unfold f_X6_isSign; (try dsimp only); rw [if_neg c_1_40, if_neg c_1_41, if_neg c_1_42, if_neg c_1_43, if_neg c_1_45, if_neg c_1_47, if_neg c_1_59, if_neg c_1_60, if_neg c_1_61, if_neg c_1_44, if_neg c_1_46, if_neg c_1_48, if_neg c_1_49, if_pos c_1_50]), rfl⟩
                            · by_cases c_1_51 : (v0 = 51)
                              · refine r_tableIn (tgt := 106) rfl (by rw [c_1_51]; decide) (by rw [c_1_51]; decide) (by rw [c_1_51]; rfl) (by decide) ?_
                                refine r_iconst_ (a := 0) rfl (by decide) ?_
                                refine r_iret rfl rfl rfl ?_
                                exact ⟨by (unfold f_X6_isSign; (try dsimp only); rw [if_neg c_1_40, if_neg c_1_41, if_neg c_1_42, if_neg c_1_43, if_neg c_1_45, if_neg c_1_47, if_neg c_1_59, if_neg c_1_60, if_neg c_1_61, if_neg c_1_44, if_neg c_1_46, if_neg c_1_48, if_neg c_1_49, if_neg c_1_50, if_pos c_1_51]), rfl⟩
                              · by_cases c_1_52 : (v0 = 52)
                                · refine r_tableIn (tgt := 106) rfl (by rw [c_1_52]; decide) (by rw [c_1_52]; decide) (by rw [c_1_52]; rfl) (by decide) ?_
                                  refine r_iconst_ (a := 0) rfl (by decide) ?_
                                  refine r_iret rfl rfl rfl ?_
                                  exact ⟨by (unfold f_X6_isSign; (try dsimp only); rw [if_neg c_1_40, if_neg c_1_41, if_neg c_1_42, if_neg c_1_43, if_neg c_1_45, if_neg c_1_47, if_neg c_1_59, if_neg c_1_60, if_neg c_1_61, if_neg c_1_44, if_neg c_1_46, if_neg c_1_48, if_neg c_1_49, if_neg c_1_50, if_neg c_1_51, if_pos c_1_52]), rfl⟩
                                · by_cases c_1_53 : (v0 = 53)
                                  · refine r_tableIn (tgt := 106) rfl (by rw [c_1_53]; decide) (by rw [c_1_53]; decide) (by rw [c_1_53]; rfl) (by decide) ?_
                                    refine r_iconst_ (a := 0) rfl (by decide) ?_
                                    refine r_iret rfl rfl rfl ?_
                                    exact ⟨by (unfold f_X6_isSign; (try dsimp only); rw [if_neg c_1_40, if_neg c_1_41, if_neg c_1_42, if_neg c_1_43, if_neg c_1_45, if_neg c_1_47, if_neg c_1_59, if_neg c_1_60, if_neg c_1_61, if_neg c_1_44, if_neg c_1_46, if_neg c_1_48, if_neg c_1_49, if_neg c_1_50, if_neg c_1_51, if_neg c_1_52, if_pos c_1_53]), rfl⟩
                                  · by_cases c_1_54 : (v0 = 54)
                                    · refine r_tableIn (tgt := 106) rfl (by rw [c_1_54]; decide) (by rw [c_1_54]; decide) (by rw [c_1_54]; rfl) (by decide) ?_
                                      refine r_iconst_ (a := 0) rfl (by decide) ?_
                                      refine r_iret rfl rfl rfl ?_
                                      exact ⟨by (unfold f_X6_isSign; (try dsimp only); rw [if_neg c_1_40, if_neg c_1_41, if_neg c_1_42, if_neg c_1_43, if_neg c_1_45, if_neg c_1_47, if_neg c_1_59, if_neg c_1_60, if_neg c_1_61, if_neg c_1_44, if_neg c_1_46, if_neg c_1_48, if_neg c_1_49, if_neg c_1_50, if_neg c_1_51, if_neg c_1_52, if_neg c_1_53, if_pos c_1_54]), rfl⟩
                                    · by_cases c_1_55 : (v0 = 55)
                                      · refine r_tableIn (tgt := 106) rfl (by rw [c_1_55]; decide) (by rw [c_1_55]; decide) (by rw [c_1_55]; rfl) (by decide) ?_
                                        refine r_iconst_ (a := 0) rfl (by decide) ?_
                                        refine r_iret rfl rfl rfl ?_
                                        exact ⟨by (unfold f_X6_isSign; (try dsimp only); rw [if_neg c_1_40, if_neg c_1_41, if_neg c_1_42, if_neg c_1_43, if_neg c_1_45, if_neg c_1_47, if_neg c_1_59, if_neg c_1_60, if_neg c_1_61, if_neg c_1_44, if_neg c_1_46, if_neg c_1_48, if_neg c_1_49, if_neg c_1_50, if_neg c_1_51, if_neg c_1_52, if_neg c_1_53, if_neg c_1_54, if_pos c_1_55]), rfl⟩
                                      · by_cases c_1_56 : (v0 = 56)
                                        · refine r_tableIn (tgt := 106) rfl (by rw [c_1_56]; decide) (by rw [c_1_56]; decide) (by rw [c_1_56]; rfl) (by decide) ?_
                                          refine r_iconst_ (a := 0) rfl (by decide) ?_
                                          refine r_iret rfl rfl rfl ?_
                                          exact ⟨by (unfold f_X6_isSign; (try dsimp only); rw [if_neg c_1_40, if_neg c_1_41, if_neg c_1_42, if_neg c_1_43, if_neg c_1_45, if_neg c_1_47, if_neg c_1_59, if_neg c_1_60, if_neg c_1_61, if_neg c_1_44, if_neg c_1_46, if_neg c_1_48, if_neg c_1_49, if_neg c_1_50, if_neg c_1_51, if_neg c_1_52, if_neg c_1_53, if_neg c_1_54, if_neg c_1_55, if_pos c_1_56]), rfl⟩
                                        · by_cases c_1_57 : (v0 = 57)
                                          · refine r_tableIn (tgt := 106) rfl (by rw [c_1_57]; decide) (by rw [c_1_57]; decide) (by rw [c_1_57]; rfl) (by decide) ?_
                                            refine r_iconst_ (a := 0) rfl (by decide) ?_
                                            refine r_iret rfl rfl rfl ?_
                                            exact ⟨by (unfold f_X6_isSign; (try dsimp only); rw [if_neg c_1_40, if_neg c_1_41, if_neg c_1_42, if_neg c_1_43, if_neg c_1_45, if_neg c_1_47, if_neg c_1_59, if_neg c_1_60, if_neg c_1_61, if_neg c_1_44, if_neg c_1_46, if_neg c_1_48, if_neg c_1_49, if_neg c_1_50, if_neg c_1_51, if_neg c_1_52, if_neg c_1_53, if_neg c_1_54, if_neg c_1_55, if_neg c_1_56, if_pos c_1_57]), rfl⟩
                                          · by_cases c_1_58 : (v0 = 58)
                                            · refine r_tableIn (tgt := 106) rfl (by rw [c_1_58]; decide) (by rw [c_1_58]; decide) (by rw [c_1_58]; rfl) (by decide) ?_
                                              refine r_iconst_ (a := 0) rfl (by decide) ?_
                                              refine r_iret rfl rfl rfl ?_
                                              exact ⟨by (unfold f_X6_isSign; (try dsimp only); rw [if_neg c_1_40, if_neg c_1_41, if_neg c_1_42, if_neg c_1_43, if_neg c_1_45, if_neg c_1_47, if_neg c_1_59, if_neg c_1_60, if_neg c_1_61, if_neg c_1_44, if_neg c_1_46, if_neg c_1_48, if_neg c_1_49, if_neg c_1_50, if_neg c_1_51, if_neg c_1_52, if_neg c_1_53, if_neg c_1_54, if_neg c_1_55, if_neg c_1_56, if_neg c_1_57, if_pos c_1_58]), rfl⟩
                                            · refine r_tableOut (tgt := 106) rfl (by simp only [Int32.lt_iff_toInt_lt, Int32.le_iff_toInt_le, ← Int32.toInt_inj, ti_0, ti_1, ti_2, ti_3, ti_4, ti_5, ti_6, ti_7, ti_8, ti_9, ti_10, ti_11, ti_12, ti_13, ti_14, ti_15, ti_16, ti_17, ti_18, ti_19, ti_20, ti_21, ti_22, ti_23, ti_24, ti_25, ti_26, ti_27, ti_28, ti_29, ti_30, ti_31, ti_32, ti_33, ti_34, ti_35, ti_36, ti_37, ti_38, ti_39, ti_40, ti_41, ti_42, ti_43, ti_44, ti_45, ti_46, ti_47, ti_48, ti_49, ti_50, ti_51, ti_52, ti_53, ti_54, ti_55, ti_56, ti_57, ti_58, ti_59, ti_60, ti_61, ti_62, ti_63, ti_64, ti_79, ti_80, ti_90, ti_96, ti_97, ti_99, ti_100, ti_122, ti_128, ti_132, ti_136, ti_140, ti_141, ti_145, ti_255, ti_256, ti_257, ti_258, ti_259, ti_262, ti_263, ti_264, ti_265, ti_266, ti_267, ti_268, ti_276, ti_277, ti_400, ti_401, ti_408, ti_420, ti_840, ti_999, ti_1980, ti_2000, ti_9999, ti_10000, ti_10240, ti_1000000, ti_m1, ti_m2, ti_m3, ti_m4, ti_m5, ti_m6, ti_m7] at c_1_40 c_1_41 c_1_42 c_1_43 c_1_45 c_1_47 c_1_59 c_1_60 c_1_61 c_1_44 c_1_46 c_1_48 c_1_49 c_1_50 c_1_51 c_1_52 c_1_53 c_1_54 c_1_55 c_1_56 c_1_57 c_1_58; omega) (by decide) ?_
                                              refine r_iconst_ (a := 0) rfl (by decide) ?_
                                              refine r_iret rfl rfl rfl ?_
                                              exact ⟨by (unfold f_X6_isSign; (try dsimp only); rw [if_neg c_1_40, if_neg c_1_41, if_neg c_1_42, if_neg c_1_43, if_neg c_1_45, if_neg c_1_47, if_neg c_1_59, if_neg c_1_60, if_neg c_1_61, if_neg c_1_44, if_neg c_1_46, if_neg c_1_48, if_neg c_1_49, if_neg c_1_50, if_neg c_1_51, if_neg c_1_52, if_neg c_1_53, if_neg c_1_54, if_neg c_1_55, if_neg c_1_56, if_neg c_1_57, if_neg c_1_58]), rfl⟩

def f_X1_joined (v0 : Int32) (v1 : Int32) (v2 : Int32) : Int32 :=
  if (v0 = (-3)) then (v1 * v2) else if (v0 = (-2)) then (v1 - v2) else if (v0 = (-1)) then (v1 + v2) else if (v2 = 0) then (0 : Int32) else (v1 / v2)
set_option maxRecDepth 100000 in
set_option maxHeartbeats 4000000 in
theorem s_X1_joined {G : ab_G} {d : Nat} {h : ab_H} {v0 : Int32} {v1 : Int32} {v2 : Int32} (hb0 : ¬ (v0 = (-3)) → ¬ (v0 = (-2)) → ¬ (v0 = (-1)) → ¬ (v2 = 0) → ¬ v2 = 0) : ab_C G d 0 0 M_X1_joined 0 (ab_ent [.int v0, .int v1, .int v2]) [] (h) (rt (some (.int (f_X1_joined v0 v1 v2))) (h)) := by
  refine r_weak (L1 := [some (.int v0), some (.int v1), some (.int v2)]) ⟨rfl, rfl, rfl, trivial⟩ ?_
  refine r_iload_n rfl rfl ?_
  by_cases c_1_m3 : (v0 = (-3))
  · refine r_tableIn (tgt := 36) rfl (by rw [c_1_m3]; decide) (by rw [c_1_m3]; decide) (by rw [c_1_m3]; rfl) (by decide) ?_
    refine r_iload_n rfl rfl ?_
    refine r_iload_n rfl rfl ?_
    refine r_imul rfl ?_
    refine r_iret rfl rfl rfl ?_
    exact ⟨by (unfold f_X1_joined; (try dsimp only); rw [if_pos c_1_m3]), rfl⟩
  · by_cases c_1_m2 : (v0 = (-2))
    · refine r_tableIn (tgt := 32) rfl (by rw [c_1_m2]; decide) (by rw [c_1_m2]; decide) (by rw [c_1_m2]; rfl) (by decide) ?_
      refine r_iload_n rfl rfl ?_
      refine r_iload_n rfl rfl ?_
      refine r_isub rfl ?_
      refine r_iret rfl rfl rfl ?_
      exact ⟨by (unfold f_X1_joined; (try dsimp only); rw [if_neg c_1_m3, if_pos c_1_m2]), rfl⟩
    · by_cases c_1_m1 : (v0 = (-1))
      · refine r_tableIn (tgt := 28) rfl (by rw [c_1_m1]; decide) (by rw [c_1_m1]; decide) (by rw [c_1_m1]; rfl) (by decide) ?_
        refine r_iload_n rfl rfl ?_
        refine r_iload_n rfl rfl ?_
        refine r_iadd rfl ?_
        refine r_iret rfl rfl rfl ?_
        exact ⟨by (unfold f_X1_joined; (try dsimp only); rw [if_neg c_1_m3, if_neg c_1_m2, if_pos c_1_m1]), rfl⟩
      · refine r_tableOut (tgt := 40) rfl (by simp only [Int32.lt_iff_toInt_lt, Int32.le_iff_toInt_le, ← Int32.toInt_inj, ti_0, ti_1, ti_2, ti_3, ti_4, ti_5, ti_6, ti_7, ti_8, ti_9, ti_10, ti_11, ti_12, ti_13, ti_14, ti_15, ti_16, ti_17, ti_18, ti_19, ti_20, ti_21, ti_22, ti_23, ti_24, ti_25, ti_26, ti_27, ti_28, ti_29, ti_30, ti_31, ti_32, ti_33, ti_34, ti_35, ti_36, ti_37, ti_38, ti_39, ti_40, ti_41, ti_42, ti_43, ti_44, ti_45, ti_46, ti_47, ti_48, ti_49, ti_50, ti_51, ti_52, ti_53, ti_54, ti_55, ti_56, ti_57, ti_58, ti_59, ti_60, ti_61, ti_62, ti_63, ti_64, ti_79, ti_80, ti_90, ti_96, ti_97, ti_99, ti_100, ti_122, ti_128, ti_132, ti_136, ti_140, ti_141, ti_145, ti_255, ti_256, ti_257, ti_258, ti_259, ti_262, ti_263, ti_264, ti_265, ti_266, ti_267, ti_268, ti_276, ti_277, ti_400, ti_401, ti_408, ti_420, ti_840, ti_999, ti_1980, ti_2000, ti_9999, ti_10000, ti_10240, ti_1000000, ti_m1, ti_m2, ti_m3, ti_m4, ti_m5, ti_m6, ti_m7] at c_1_m3 c_1_m2 c_1_m1; omega) (by decide) ?_
        refine r_iload_n rfl rfl ?_
        refine r_if_ne rfl (fun c_41 => ?_) (fun c_41 => ?_)
        · refine r_iload_n rfl rfl ?_
          refine r_iload_n rfl rfl ?_
          refine r_idiv rfl (hb0 c_1_m3 c_1_m2 c_1_m1 c_41) ?_
          refine r_iret rfl rfl rfl ?_
          exact ⟨by (unfold f_X1_joined; (try dsimp only); rw [if_neg c_1_m3, if_neg c_1_m2, if_neg c_1_m1, if_neg c_41]), rfl⟩
        · refine r_iconst_ (a := 0) rfl (by decide) ?_
          refine r_goto rfl ?_
          refine r_iret rfl rfl rfl ?_
          exact ⟨by (unfold f_X1_joined; (try dsimp only); rw [if_neg c_1_m3, if_neg c_1_m2, if_neg c_1_m1, if_pos c_41]), rfl⟩

def f_X8_index (v0 : Int32) (v1 : Int32) : Int32 :=
  ((v0 * (10 : Int32)) + v1)
set_option maxRecDepth 100000 in
set_option maxHeartbeats 4000000 in
theorem s_X8_index {G : ab_G} {d : Nat} {h : ab_H} {v0 : Int32} {v1 : Int32}  : ab_C G d 0 0 M_X8_index 0 (ab_ent [.int v0, .int v1]) [] (h) (rt (some (.int (f_X8_index v0 v1))) (h)) := by
  refine r_weak (L1 := [some (.int v0), some (.int v1)]) ⟨rfl, rfl, trivial⟩ ?_
  refine r_iload_n rfl rfl ?_
  refine r_bipush_ (a := 10) rfl (by decide) ?_
  refine r_imul rfl ?_
  refine r_iload_n rfl rfl ?_
  refine r_iadd rfl ?_
  refine r_iret rfl rfl rfl ?_
  exact ⟨rfl, rfl⟩

def f_X11_rains (v1 : Int32) (v2 : Int32) (t : Nat) (s : fl_I) (l : fl_L) : Int32 :=
  if ((s t 17) ≤ (f_X11_lot (100 : Int32) v1 ((4 : Int32) * v2))) then (0 : Int32) else (1 : Int32)
set_option maxRecDepth 100000 in
set_option maxHeartbeats 4000000 in
theorem s_X11_rains {G : ab_G} {d : Nat} {D : fl_D} {s : fl_I} {l : fl_L} {t : Nat} (htt : isT t) {v1 : Int32} {v2 : Int32} (hb0 : (¬ ((100 : Int32) ≤ 0) → ¬ (100 : Int32) = 0)) : ab_C G (d + 2) 0 0 M_X11_rains 0 (ab_ent [.ref t, .int v1, .int v2]) [] (hp D s l) (rt (some (.int (f_X11_rains v1 v2 t s l))) (hp D s l)) := by
  refine r_weak (L1 := [some (.ref t), some (.int v1), some (.int v2)]) ⟨rfl, rfl, rfl, trivial⟩ ?_
  refine r_bipush_ (a := 100) rfl (by decide) ?_
  refine r_iload_n rfl rfl ?_
  refine r_iconst_ (a := 4) rfl (by decide) ?_
  refine r_iload_n rfl rfl ?_
  refine r_imul rfl ?_
  refine r_callS0 [_, _, _] _ rfl kY_X11_lot kT_X11_lot rfl rfl (Nat.le_of_ble_eq_true rfl) (Nat.le_of_ble_eq_true rfl) (s_X11_lot  hb0) (fun r h q => ?_)
  obtain ⟨rfl, rfl⟩ := q
  simp only [Option.toList, List.cons_append, List.nil_append]
  refine r_aload_n rfl rfl ?_
  refine q_getfield rfl (cT_0 htt) rfl ?_
  refine r_icmp_ge rfl (fun c_13 => ?_) (fun c_13 => ?_)
  · refine r_iconst_ (a := 0) rfl (by decide) ?_
    refine r_iret rfl rfl rfl ?_
    exact ⟨by (unfold f_X11_rains; (try dsimp only); rw [if_pos c_13]), rfl⟩
  · refine r_iconst_ (a := 1) rfl (by decide) ?_
    refine r_goto rfl ?_
    refine r_iret rfl rfl rfl ?_
    exact ⟨by (unfold f_X11_rains; (try dsimp only); rw [if_neg c_13]), rfl⟩

def f_X11_place  (s : fl_I) (l : fl_L) : Int32 :=
  (s 0 14)
set_option maxRecDepth 100000 in
set_option maxHeartbeats 4000000 in
theorem s_X11_place {G : ab_G} {d : Nat} {D : fl_D} {s : fl_I} {l : fl_L}   : ab_C G d 0 0 M_X11_place 0 (ab_ent [.ref 0]) [] (hp D s l) (rt (some (.int (f_X11_place  s l))) (hp D s l)) := by
  refine r_weak (L1 := [some (.ref 0)]) ⟨rfl, trivial⟩ ?_
  refine r_aload_n rfl rfl ?_
  refine q_getfield rfl (cc_0 _) rfl ?_
  refine r_iret rfl rfl rfl ?_
  exact ⟨rfl, rfl⟩

def f_X12_place  (s : fl_I) (l : fl_L) : Int32 :=
  (s 60 17)
set_option maxRecDepth 100000 in
set_option maxHeartbeats 4000000 in
theorem s_X12_place {G : ab_G} {d : Nat} {D : fl_D} {s : fl_I} {l : fl_L}   : ab_C G d 0 0 M_X12_place 0 (ab_ent [.ref 60]) [] (hp D s l) (rt (some (.int (f_X12_place  s l))) (hp D s l)) := by
  refine r_weak (L1 := [some (.ref 60)]) ⟨rfl, trivial⟩ ?_
  refine r_aload_n rfl rfl ?_
  refine q_getfield rfl (cc_60 _) rfl ?_
  refine r_iret rfl rfl rfl ?_
  exact ⟨rfl, rfl⟩

def f_X8_all  (s : fl_I) (l : fl_L) : Int32 :=
  (((1 : Int32) <<< ((s 51 0) &&& 31)) - (1 : Int32))
set_option maxRecDepth 100000 in
set_option maxHeartbeats 4000000 in
theorem s_X8_all {G : ab_G} {d : Nat} {D : fl_D} {s : fl_I} {l : fl_L}   : ab_C G d 0 0 M_X8_all 0 (ab_ent [.ref 51]) [] (hp D s l) (rt (some (.int (f_X8_all  s l))) (hp D s l)) := by
  refine r_weak (L1 := [some (.ref 51)]) ⟨rfl, trivial⟩ ?_
  refine r_iconst_ (a := 1) rfl (by decide) ?_
  refine r_aload_n rfl rfl ?_
  refine q_getfield rfl (cc_51 _) rfl ?_
  refine r_ishl rfl ?_
  refine r_iconst_ (a := 1) rfl (by decide) ?_
  refine r_isub rfl ?_
  refine r_iret rfl rfl rfl ?_
  exact ⟨rfl, rfl⟩

def f_X12_isPiece (v0 : Int32) (s : fl_I) (l : fl_L) : Int32 :=
  (f_X12_in v0 (0 : Int32) ((s 60 54) - (1 : Int32)))
set_option maxRecDepth 100000 in
set_option maxHeartbeats 4000000 in
theorem s_X12_isPiece {G : ab_G} {d : Nat} {D : fl_D} {s : fl_I} {l : fl_L} {v0 : Int32} (hb0 : narrow .boolean (.int (f_X12_in v0 (0 : Int32) ((s 60 54) - (1 : Int32)))) = .int (f_X12_in v0 (0 : Int32) ((s 60 54) - (1 : Int32)))) : ab_C G (d + 1) 0 0 M_X12_isPiece 0 (ab_ent [.ref 60, .int v0]) [] (hp D s l) (rt (some (.int (f_X12_isPiece v0 s l))) (hp D s l)) := by
  refine r_weak (L1 := [some (.ref 60), some (.int v0)]) ⟨rfl, rfl, trivial⟩ ?_
  refine r_iload_n rfl rfl ?_
  refine r_iconst_ (a := 0) rfl (by decide) ?_
  refine r_aload_n rfl rfl ?_
  refine q_getfield rfl (cc_60 _) rfl ?_
  refine r_iconst_ (a := 1) rfl (by decide) ?_
  refine r_isub rfl ?_
  refine r_callS0 [_, _, _] _ rfl kY_X12_in kT_X12_in rfl rfl (Nat.le_of_ble_eq_true rfl) (Nat.le_of_ble_eq_true rfl) (s_X12_in) (fun r h q => ?_)
  obtain ⟨rfl, rfl⟩ := q
  simp only [Option.toList, List.cons_append, List.nil_append]
  refine r_iret rfl rfl hb0 ?_
  exact ⟨rfl, rfl⟩

def f_X12_forget  (s : fl_I) (l : fl_L) : Int32 × fl_I × fl_L :=
  ((s 60 65), (su s 60 (upd (s 60) 65 (0 : Int32))), l)
set_option maxRecDepth 100000 in
set_option maxHeartbeats 4000000 in
theorem s_X12_forget {G : ab_G} {d : Nat} {D : fl_D} {s : fl_I} {l : fl_L}   : ab_C G d 0 0 M_X12_forget 0 (ab_ent [.ref 60]) [] (hp D s l) (rt (some (.int (f_X12_forget  s l).1)) (hp D (f_X12_forget  s l).2.1 (f_X12_forget  s l).2.2)) := by
  refine r_weak (L1 := [some (.ref 60), none]) ⟨rfl, trivial⟩ ?_
  refine r_aload_n rfl rfl ?_
  refine q_getfield rfl (cc_60 _) rfl ?_
  refine r_istore_n rfl (Nat.le_of_ble_eq_true rfl) rfl ?_
  refine r_aload_n rfl rfl ?_
  refine r_iconst_ (a := 0) rfl (by decide) ?_
  refine w_put rfl (cc_60 _) ff_12_65 ft_12_65 (Nat.le_of_ble_eq_true rfl) rfl ?_
  refine r_iload_n rfl rfl ?_
  refine r_iret rfl rfl rfl ?_
  exact ⟨rfl, rfl⟩

def f_X11_forget  (s : fl_I) (l : fl_L) : Int32 × fl_I × fl_L :=
  ((s 57 0), (su s 57 (upd (s 57) 0 (0 : Int32))), l)
set_option maxRecDepth 100000 in
set_option maxHeartbeats 4000000 in
theorem s_X11_forget {G : ab_G} {d : Nat} {D : fl_D} {s : fl_I} {l : fl_L}   : ab_C G d 0 0 M_X11_forget 0 (ab_ent [.ref 0]) [] (hp D s l) (rt (some (.int (f_X11_forget  s l).1)) (hp D (f_X11_forget  s l).2.1 (f_X11_forget  s l).2.2)) := by
  refine r_weak (L1 := [some (.ref 0), none]) ⟨rfl, trivial⟩ ?_
  refine r_aload_n rfl rfl ?_
  refine q_getfield rfl (cc_0 _) rfl ?_
  refine q_getfield rfl (cc_57 _) rfl ?_
  refine r_istore_n rfl (Nat.le_of_ble_eq_true rfl) rfl ?_
  refine r_aload_n rfl rfl ?_
  refine q_getfield rfl (cc_0 _) rfl ?_
  refine r_iconst_ (a := 0) rfl (by decide) ?_
  refine w_put rfl (cc_57 _) ff_7_0 ft_7_0 (Nat.le_of_ble_eq_true rfl) rfl ?_
  refine r_iload_n rfl rfl ?_
  refine r_iret rfl rfl rfl ?_
  exact ⟨rfl, rfl⟩

def f_X12_wordAt (v0 : Int32) (s : fl_I) (l : fl_L) : Int64 :=
  (l 73 (((8 : Int32) * (s 60 18)) + v0).toNatClampNeg)
set_option maxRecDepth 100000 in
set_option maxHeartbeats 4000000 in
theorem s_X12_wordAt {G : ab_G} {d : Nat} {D : fl_D} {s : fl_I} {l : fl_L} {v0 : Int32} (hb0 : vp_in (((8 : Int32) * (s 60 18)) + v0) 16) : ab_C G d 0 0 M_X12_wordAt 0 (ab_ent [.ref 60, .int v0]) [] (hp D s l) (rt (some (.long (f_X12_wordAt v0 s l))) (hp D s l)) := by
  refine r_weak (L1 := [some (.ref 60), some (.int v0)]) ⟨rfl, rfl, trivial⟩ ?_
  refine r_aload_n rfl rfl ?_
  refine q_getfield rfl (cc_60 _) rfl ?_
  refine r_bipush_ (a := 8) rfl (by decide) ?_
  refine r_aload_n rfl rfl ?_
  refine q_getfield rfl (cc_60 _) rfl ?_
  refine r_imul rfl ?_
  refine r_iload_n rfl rfl ?_
  refine r_iadd rfl ?_
  refine q_lald rfl (cc_73 _) hb0 ?_
  refine r_lret rfl rfl ?_
  exact ⟨rfl, rfl⟩

def f_X5_setCode (v0 : Int32) (v1 : Int32) (t : Nat) (s : fl_I) (l : fl_L) : fl_I × fl_L :=
  if (v0 < 0) then (s, l) else if ((408 : Int32) ≤ v0) then (s, l) else ((su s (t + 9) (upd (s (t + 9)) v0.toNatClampNeg v1)), l)
set_option maxRecDepth 100000 in
set_option maxHeartbeats 4000000 in
theorem s_X5_setCode {G : ab_G} {d : Nat} {D : fl_D} {s : fl_I} {l : fl_L} {t : Nat} (ht : isT t) {v0 : Int32} {v1 : Int32} (hb0 : ¬ (v0 < 0) → ¬ ((408 : Int32) ≤ v0) → vp_in v0 408) : ab_C G d 0 0 M_X5_setCode 0 (ab_ent [.ref t, .int v0, .int v1]) [] (hp D s l) (rt (none) (hp D (f_X5_setCode v0 v1 t s l).1 (f_X5_setCode v0 v1 t s l).2)) := by
  refine r_weak (L1 := [some (.ref t), some (.int v0), some (.int v1)]) ⟨rfl, rfl, rfl, trivial⟩ ?_
  refine r_iload_n rfl rfl ?_
  refine r_if_lt rfl (fun c_1 => ?_) (fun c_1 => ?_)
  · refine r_ret rfl rfl ?_
    exact ⟨rfl, by (unfold f_X5_setCode; (try dsimp only); rw [if_pos c_1])⟩
  · refine r_iload_n rfl rfl ?_
    refine r_sipush_ (a := 408) rfl (by decide) ?_
    refine r_icmp_ge rfl (fun c_8 => ?_) (fun c_8 => ?_)
    · refine r_ret rfl rfl ?_
      exact ⟨rfl, by (unfold f_X5_setCode; (try dsimp only); rw [if_neg c_1, if_pos c_8])⟩
    · refine r_aload_n rfl rfl ?_
      refine q_getfield rfl (cT_0 ht) rfl ?_
      refine r_iload_n rfl rfl ?_
      refine r_iload_n rfl rfl ?_
      refine w_iast rfl (cT_9 ht) (hb0 c_1 c_8) ?_
      refine r_ret rfl rfl ?_
      exact ⟨rfl, by (unfold f_X5_setCode; (try dsimp only); rw [if_neg c_1, if_neg c_8])⟩

def f_X11_isPiece (v0 : Int32) (s : fl_I) (l : fl_L) : Int32 :=
  if (v0 < 0) then (0 : Int32) else if ((s 31 1) ≤ v0) then (0 : Int32) else (1 : Int32)
set_option maxRecDepth 100000 in
set_option maxHeartbeats 4000000 in
theorem s_X11_isPiece {G : ab_G} {d : Nat} {D : fl_D} {s : fl_I} {l : fl_L} {v0 : Int32}  : ab_C G d 0 0 M_X11_isPiece 0 (ab_ent [.ref 0, .int v0]) [] (hp D s l) (rt (some (.int (f_X11_isPiece v0 s l))) (hp D s l)) := by
  refine r_weak (L1 := [some (.ref 0), some (.int v0)]) ⟨rfl, rfl, trivial⟩ ?_
  refine r_iload_n rfl rfl ?_
  refine r_if_lt rfl (fun c_1 => ?_) (fun c_1 => ?_)
  · refine r_iconst_ (a := 0) rfl (by decide) ?_
    refine r_iret rfl rfl rfl ?_
    exact ⟨by (unfold f_X11_isPiece; (try dsimp only); rw [if_pos c_1]), rfl⟩
  · refine r_iload_n rfl rfl ?_
    refine r_aload_n rfl rfl ?_
    refine q_getfield rfl (cc_0 _) rfl ?_
    refine q_getfield rfl (cc_31 _) rfl ?_
    refine r_icmp_ge rfl (fun c_12 => ?_) (fun c_12 => ?_)
    · refine r_iconst_ (a := 0) rfl (by decide) ?_
      refine r_iret rfl rfl rfl ?_
      exact ⟨by (unfold f_X11_isPiece; (try dsimp only); rw [if_neg c_1, if_pos c_12]), rfl⟩
    · refine r_iconst_ (a := 1) rfl (by decide) ?_
      refine r_goto rfl ?_
      refine r_iret rfl rfl rfl ?_
      exact ⟨by (unfold f_X11_isPiece; (try dsimp only); rw [if_neg c_1, if_neg c_12]), rfl⟩

def f_X11_isPicker (v0 : Int32) (s : fl_I) (l : fl_L) : Int32 :=
  if (v0 < 0) then (0 : Int32) else if ((s 31 2) ≤ v0) then (0 : Int32) else (1 : Int32)
set_option maxRecDepth 100000 in
set_option maxHeartbeats 4000000 in
theorem s_X11_isPicker {G : ab_G} {d : Nat} {D : fl_D} {s : fl_I} {l : fl_L} {v0 : Int32}  : ab_C G d 0 0 M_X11_isPicker 0 (ab_ent [.ref 0, .int v0]) [] (hp D s l) (rt (some (.int (f_X11_isPicker v0 s l))) (hp D s l)) := by
  refine r_weak (L1 := [some (.ref 0), some (.int v0)]) ⟨rfl, rfl, trivial⟩ ?_
  refine r_iload_n rfl rfl ?_
  refine r_if_lt rfl (fun c_1 => ?_) (fun c_1 => ?_)
  · refine r_iconst_ (a := 0) rfl (by decide) ?_
    refine r_iret rfl rfl rfl ?_
    exact ⟨by (unfold f_X11_isPicker; (try dsimp only); rw [if_pos c_1]), rfl⟩
  · refine r_iload_n rfl rfl ?_
    refine r_aload_n rfl rfl ?_
    refine q_getfield rfl (cc_0 _) rfl ?_
    refine q_getfield rfl (cc_31 _) rfl ?_
    refine r_icmp_ge rfl (fun c_12 => ?_) (fun c_12 => ?_)
    · refine r_iconst_ (a := 0) rfl (by decide) ?_
      refine r_iret rfl rfl rfl ?_
      exact ⟨by (unfold f_X11_isPicker; (try dsimp only); rw [if_neg c_1, if_pos c_12]), rfl⟩
    · refine r_iconst_ (a := 1) rfl (by decide) ?_
      refine r_goto rfl ?_
      refine r_iret rfl rfl rfl ?_
      exact ⟨by (unfold f_X11_isPicker; (try dsimp only); rw [if_neg c_1, if_neg c_12]), rfl⟩

def f_X12_isPicker (v0 : Int32) (s : fl_I) (l : fl_L) : Int32 :=
  (f_X12_in v0 (0 : Int32) ((s 74 (s 60 18).toNatClampNeg) - (1 : Int32)))
set_option maxRecDepth 100000 in
set_option maxHeartbeats 4000000 in
theorem s_X12_isPicker {G : ab_G} {d : Nat} {D : fl_D} {s : fl_I} {l : fl_L} {v0 : Int32} (hb0 : vp_in (s 60 18) 2) (hb1 : narrow .boolean (.int (f_X12_in v0 (0 : Int32) ((s 74 (s 60 18).toNatClampNeg) - (1 : Int32)))) = .int (f_X12_in v0 (0 : Int32) ((s 74 (s 60 18).toNatClampNeg) - (1 : Int32)))) : ab_C G (d + 1) 0 0 M_X12_isPicker 0 (ab_ent [.ref 60, .int v0]) [] (hp D s l) (rt (some (.int (f_X12_isPicker v0 s l))) (hp D s l)) := by
  refine r_weak (L1 := [some (.ref 60), some (.int v0)]) ⟨rfl, rfl, trivial⟩ ?_
  refine r_iload_n rfl rfl ?_
  refine r_iconst_ (a := 0) rfl (by decide) ?_
  refine r_aload_n rfl rfl ?_
  refine q_getfield rfl (cc_60 _) rfl ?_
  refine r_aload_n rfl rfl ?_
  refine q_getfield rfl (cc_60 _) rfl ?_
  refine q_iald rfl (cc_74 _) hb0 ?_
  refine r_iconst_ (a := 1) rfl (by decide) ?_
  refine r_isub rfl ?_
  refine r_callS0 [_, _, _] _ rfl kY_X12_in kT_X12_in rfl rfl (Nat.le_of_ble_eq_true rfl) (Nat.le_of_ble_eq_true rfl) (s_X12_in) (fun r h q => ?_)
  obtain ⟨rfl, rfl⟩ := q
  simp only [Option.toList, List.cons_append, List.nil_append]
  refine r_iret rfl rfl hb1 ?_
  exact ⟨rfl, rfl⟩

def f_X12_isWord (v0 : Int32) (s : fl_I) (l : fl_L) : Int32 :=
  (f_X12_in v0 (0 : Int32) ((s 72 (s 60 18).toNatClampNeg) - (1 : Int32)))
set_option maxRecDepth 100000 in
set_option maxHeartbeats 4000000 in
theorem s_X12_isWord {G : ab_G} {d : Nat} {D : fl_D} {s : fl_I} {l : fl_L} {v0 : Int32} (hb0 : vp_in (s 60 18) 2) (hb1 : narrow .boolean (.int (f_X12_in v0 (0 : Int32) ((s 72 (s 60 18).toNatClampNeg) - (1 : Int32)))) = .int (f_X12_in v0 (0 : Int32) ((s 72 (s 60 18).toNatClampNeg) - (1 : Int32)))) : ab_C G (d + 1) 0 0 M_X12_isWord 0 (ab_ent [.ref 60, .int v0]) [] (hp D s l) (rt (some (.int (f_X12_isWord v0 s l))) (hp D s l)) := by
  refine r_weak (L1 := [some (.ref 60), some (.int v0)]) ⟨rfl, rfl, trivial⟩ ?_
  refine r_iload_n rfl rfl ?_
  refine r_iconst_ (a := 0) rfl (by decide) ?_
  refine r_aload_n rfl rfl ?_
  refine q_getfield rfl (cc_60 _) rfl ?_
  refine r_aload_n rfl rfl ?_
  refine q_getfield rfl (cc_60 _) rfl ?_
  refine q_iald rfl (cc_72 _) hb0 ?_
  refine r_iconst_ (a := 1) rfl (by decide) ?_
  refine r_isub rfl ?_
  refine r_callS0 [_, _, _] _ rfl kY_X12_in kT_X12_in rfl rfl (Nat.le_of_ble_eq_true rfl) (Nat.le_of_ble_eq_true rfl) (s_X12_in) (fun r h q => ?_)
  obtain ⟨rfl, rfl⟩ := q
  simp only [Option.toList, List.cons_append, List.nil_append]
  refine r_iret rfl rfl hb1 ?_
  exact ⟨rfl, rfl⟩

def f_X12_doesLie (v0 : Int32) (s : fl_I) (l : fl_L) : Int32 :=
  if (0 ≤ (s 95 ((64 : Int32) + v0).toNatClampNeg)) then (0 : Int32) else (1 : Int32)
set_option maxRecDepth 100000 in
set_option maxHeartbeats 4000000 in
theorem s_X12_doesLie {G : ab_G} {d : Nat} {D : fl_D} {s : fl_I} {l : fl_L} {v0 : Int32} (hb0 : vp_in ((64 : Int32) + v0) 141) : ab_C G d 0 0 M_X12_doesLie 0 (ab_ent [.ref 60, .int v0]) [] (hp D s l) (rt (some (.int (f_X12_doesLie v0 s l))) (hp D s l)) := by
  refine r_weak (L1 := [some (.ref 60), some (.int v0)]) ⟨rfl, rfl, trivial⟩ ?_
  refine r_aload_n rfl rfl ?_
  refine q_getfield rfl (cc_60 _) rfl ?_
  refine r_bipush_ (a := 64) rfl (by decide) ?_
  refine r_iload_n rfl rfl ?_
  refine r_iadd rfl ?_
  refine q_iald rfl (cc_95 _) hb0 ?_
  refine r_if_ge rfl (fun c_9 => ?_) (fun c_9 => ?_)
  · refine r_iconst_ (a := 0) rfl (by decide) ?_
    refine r_iret rfl rfl rfl ?_
    exact ⟨by (unfold f_X12_doesLie; (try dsimp only); rw [if_pos c_9]), rfl⟩
  · refine r_iconst_ (a := 1) rfl (by decide) ?_
    refine r_goto rfl ?_
    refine r_iret rfl rfl rfl ?_
    exact ⟨by (unfold f_X12_doesLie; (try dsimp only); rw [if_neg c_9]), rfl⟩

def f_X12_byteAt (v0 : Int32) (s : fl_I) (l : fl_L) : Int32 :=
  if ((s 60 4) ≤ v0) then (0 : Int32) else ((s 62 v0.toNatClampNeg) &&& (255 : Int32))
set_option maxRecDepth 100000 in
set_option maxHeartbeats 4000000 in
theorem s_X12_byteAt {G : ab_G} {d : Nat} {D : fl_D} {s : fl_I} {l : fl_L} {v0 : Int32} (hb0 : ¬ ((s 60 4) ≤ v0) → vp_in v0 2000) : ab_C G d 0 0 M_X12_byteAt 0 (ab_ent [.ref 60, .int v0]) [] (hp D s l) (rt (some (.int (f_X12_byteAt v0 s l))) (hp D s l)) := by
  refine r_weak (L1 := [some (.ref 60), some (.int v0)]) ⟨rfl, rfl, trivial⟩ ?_
  refine r_iload_n rfl rfl ?_
  refine r_aload_n rfl rfl ?_
  refine q_getfield rfl (cc_60 _) rfl ?_
  refine r_icmp_ge rfl (fun c_5 => ?_) (fun c_5 => ?_)
  · refine r_iconst_ (a := 0) rfl (by decide) ?_
    refine r_iret rfl rfl rfl ?_
    exact ⟨by (unfold f_X12_byteAt; (try dsimp only); rw [if_pos c_5]), rfl⟩
  · refine r_aload_n rfl rfl ?_
    refine q_getfield rfl (cc_60 _) rfl ?_
    refine r_iload_n rfl rfl ?_
    refine q_bald rfl (cc_62 _) (hb0 c_5) ?_
    refine r_sipush_ (a := 255) rfl (by decide) ?_
    refine r_iand rfl ?_
    refine r_goto rfl ?_
    refine r_iret rfl rfl rfl ?_
    exact ⟨by (unfold f_X12_byteAt; (try dsimp only); rw [if_neg c_5]), rfl⟩

def f_X11_isHeap (v0 : Int32) (s : fl_I) (l : fl_L) : Int32 :=
  if ((f_X11_isPicker v0 s l) = 0) then if (v0 < (4 : Int32)) then (0 : Int32) else if ((6 : Int32) ≤ v0) then (0 : Int32) else (1 : Int32) else (1 : Int32)
set_option maxRecDepth 100000 in
set_option maxHeartbeats 4000000 in
theorem s_X11_isHeap {G : ab_G} {d : Nat} {D : fl_D} {s : fl_I} {l : fl_L} {v0 : Int32}  : ab_C G (d + 1) 0 0 M_X11_isHeap 0 (ab_ent [.ref 0, .int v0]) [] (hp D s l) (rt (some (.int (f_X11_isHeap v0 s l))) (hp D s l)) := by
  refine r_weak (L1 := [some (.ref 0), some (.int v0)]) ⟨rfl, rfl, trivial⟩ ?_
  refine r_aload_n rfl rfl ?_
  refine r_iload_n rfl rfl ?_
  refine q_callV0 [_] _ rfl kY_X11_isPicker kT_X11_isPicker rfl rfl (Nat.le_of_ble_eq_true rfl) (Nat.le_of_ble_eq_true rfl) (cc_0 _) (s_X11_isPicker) (fun r h q => ?_)
  obtain ⟨rfl, rfl⟩ := q
  simp only [Option.toList, List.cons_append, List.nil_append]
  refine r_if_ne rfl (fun c_5 => ?_) (fun c_5 => ?_)
  · refine r_iconst_ (a := 1) rfl (by decide) ?_
    refine r_goto rfl ?_
    refine r_iret rfl rfl rfl ?_
    exact ⟨by (unfold f_X11_isHeap; (try dsimp only); rw [if_neg c_5]), rfl⟩
  · refine r_iload_n rfl rfl ?_
    refine r_iconst_ (a := 4) rfl (by decide) ?_
    refine r_icmp_lt rfl (fun c_10 => ?_) (fun c_10 => ?_)
    · refine r_iconst_ (a := 0) rfl (by decide) ?_
      refine r_iret rfl rfl rfl ?_
      exact ⟨by (unfold f_X11_isHeap; (try dsimp only); rw [if_pos c_5, if_pos c_10]), rfl⟩
    · refine r_iload_n rfl rfl ?_
      refine r_bipush_ (a := 6) rfl (by decide) ?_
      refine r_icmp_ge rfl (fun c_16 => ?_) (fun c_16 => ?_)
      · refine r_iconst_ (a := 0) rfl (by decide) ?_
        refine r_iret rfl rfl rfl ?_
        exact ⟨by (unfold f_X11_isHeap; (try dsimp only); rw [if_pos c_5, if_neg c_10, if_pos c_16]), rfl⟩
      · refine r_iconst_ (a := 1) rfl (by decide) ?_
        refine r_goto rfl ?_
        refine r_iret rfl rfl rfl ?_
        exact ⟨by (unfold f_X11_isHeap; (try dsimp only); rw [if_pos c_5, if_neg c_10, if_neg c_16]), rfl⟩

def f_X12_is (v0 : Int32) (s : fl_I) (l : fl_L) : Int32 :=
  if ((s 60 13) = 0) then if ((s 63 (s 60 11).toNatClampNeg) = v0) then (1 : Int32) else (0 : Int32) else (0 : Int32)
set_option maxRecDepth 100000 in
set_option maxHeartbeats 4000000 in
theorem s_X12_is {G : ab_G} {d : Nat} {D : fl_D} {s : fl_I} {l : fl_L} {v0 : Int32} (hb0 : ((s 60 13) = 0) → vp_in (s 60 11) 403) : ab_C G d 0 0 M_X12_is 0 (ab_ent [.ref 60, .int v0]) [] (hp D s l) (rt (some (.int (f_X12_is v0 s l))) (hp D s l)) := by
  refine r_weak (L1 := [some (.ref 60), some (.int v0)]) ⟨rfl, rfl, trivial⟩ ?_
  refine r_aload_n rfl rfl ?_
  refine q_getfield rfl (cc_60 _) rfl ?_
  refine r_if_ne rfl (fun c_4 => ?_) (fun c_4 => ?_)
  · refine r_iconst_ (a := 0) rfl (by decide) ?_
    refine r_iret rfl rfl rfl ?_
    exact ⟨by (unfold f_X12_is; (try dsimp only); rw [if_neg c_4]), rfl⟩
  · refine r_aload_n rfl rfl ?_
    refine q_getfield rfl (cc_60 _) rfl ?_
    refine r_aload_n rfl rfl ?_
    refine q_getfield rfl (cc_60 _) rfl ?_
    refine q_iald rfl (cc_63 _) (hb0 c_4) ?_
    refine r_iload_n rfl rfl ?_
    refine r_icmp_ne rfl (fun c_17 => ?_) (fun c_17 => ?_)
    · refine r_iconst_ (a := 0) rfl (by decide) ?_
      refine r_iret rfl rfl rfl ?_
      exact ⟨by (unfold f_X12_is; (try dsimp only); rw [if_pos c_4, if_neg c_17]), rfl⟩
    · refine r_iconst_ (a := 1) rfl (by decide) ?_
      refine r_goto rfl ?_
      refine r_iret rfl rfl rfl ?_
      exact ⟨by (unfold f_X12_is; (try dsimp only); rw [if_pos c_4, if_pos c_17]), rfl⟩

def f_X12_cellOf (v0 : Int32) (s : fl_I) (l : fl_L) : Int32 :=
  (((10 : Int32) * (s 95 ((32 : Int32) + v0).toNatClampNeg)) + (s 95 v0.toNatClampNeg))
set_option maxRecDepth 100000 in
set_option maxHeartbeats 4000000 in
theorem s_X12_cellOf {G : ab_G} {d : Nat} {D : fl_D} {s : fl_I} {l : fl_L} {v0 : Int32} (hb0 : vp_in ((32 : Int32) + v0) 141) (hb1 : vp_in v0 141) : ab_C G d 0 0 M_X12_cellOf 0 (ab_ent [.ref 60, .int v0]) [] (hp D s l) (rt (some (.int (f_X12_cellOf v0 s l))) (hp D s l)) := by
  refine r_weak (L1 := [some (.ref 60), some (.int v0)]) ⟨rfl, rfl, trivial⟩ ?_
  refine r_bipush_ (a := 10) rfl (by decide) ?_
  refine r_aload_n rfl rfl ?_
  refine q_getfield rfl (cc_60 _) rfl ?_
  refine r_bipush_ (a := 32) rfl (by decide) ?_
  refine r_iload_n rfl rfl ?_
  refine r_iadd rfl ?_
  refine q_iald rfl (cc_95 _) hb0 ?_
  refine r_imul rfl ?_
  refine r_aload_n rfl rfl ?_
  refine q_getfield rfl (cc_60 _) rfl ?_
  refine r_iload_n rfl rfl ?_
  refine q_iald rfl (cc_95 _) hb1 ?_
  refine r_iadd rfl ?_
  refine r_iret rfl rfl rfl ?_
  exact ⟨rfl, rfl⟩

def f_X12_isHeap (v0 : Int32) (s : fl_I) (l : fl_L) : Int32 :=
  if ((f_X12_in v0 (0 : Int32) (3 : Int32)) = 0) then (f_X12_in v0 (4 : Int32) (5 : Int32)) else (f_X12_isPicker v0 s l)
set_option maxRecDepth 100000 in
set_option maxHeartbeats 4000000 in
theorem s_X12_isHeap {G : ab_G} {d : Nat} {D : fl_D} {s : fl_I} {l : fl_L} {v0 : Int32} (hb0 : ((f_X12_in v0 (0 : Int32) (3 : Int32)) = 0) → narrow .boolean (.int (f_X12_in v0 (4 : Int32) (5 : Int32))) = .int (f_X12_in v0 (4 : Int32) (5 : Int32))) (hb1 : ¬ ((f_X12_in v0 (0 : Int32) (3 : Int32)) = 0) → (vp_in (s 60 18) 2)) (hb2 : ¬ ((f_X12_in v0 (0 : Int32) (3 : Int32)) = 0) → (narrow .boolean (.int (f_X12_in v0 (0 : Int32) ((s 74 (s 60 18).toNatClampNeg) - (1 : Int32)))) = .int (f_X12_in v0 (0 : Int32) ((s 74 (s 60 18).toNatClampNeg) - (1 : Int32))))) (hb3 : ¬ ((f_X12_in v0 (0 : Int32) (3 : Int32)) = 0) → narrow .boolean (.int (f_X12_isPicker v0 s l)) = .int (f_X12_isPicker v0 s l)) : ab_C G (d + 2) 0 0 M_X12_isHeap 0 (ab_ent [.ref 60, .int v0]) [] (hp D s l) (rt (some (.int (f_X12_isHeap v0 s l))) (hp D s l)) := by
  refine r_weak (L1 := [some (.ref 60), some (.int v0)]) ⟨rfl, rfl, trivial⟩ ?_
  refine r_iload_n rfl rfl ?_
  refine r_iconst_ (a := 0) rfl (by decide) ?_
  refine r_iconst_ (a := 3) rfl (by decide) ?_
  refine r_callS0 [_, _, _] _ rfl kY_X12_in kT_X12_in rfl rfl (Nat.le_of_ble_eq_true rfl) (Nat.le_of_ble_eq_true rfl) (s_X12_in) (fun r h q => ?_)
  obtain ⟨rfl, rfl⟩ := q
  simp only [Option.toList, List.cons_append, List.nil_append]
  refine r_if_eq rfl (fun c_6 => ?_) (fun c_6 => ?_)
  · refine r_iload_n rfl rfl ?_
    refine r_iconst_ (a := 4) rfl (by decide) ?_
    refine r_iconst_ (a := 5) rfl (by decide) ?_
    refine r_callS0 [_, _, _] _ rfl kY_X12_in kT_X12_in rfl rfl (Nat.le_of_ble_eq_true rfl) (Nat.le_of_ble_eq_true rfl) (s_X12_in) (fun r h q => ?_)
    obtain ⟨rfl, rfl⟩ := q
    simp only [Option.toList, List.cons_append, List.nil_append]
    refine r_iret rfl rfl (hb0 c_6) ?_
    exact ⟨by (unfold f_X12_isHeap; (try dsimp only); rw [if_pos c_6]), rfl⟩
  · refine r_aload_n rfl rfl ?_
    refine r_iload_n rfl rfl ?_
    refine q_callV0 [_] _ rfl kY_X12_isPicker kT_X12_isPicker rfl rfl (Nat.le_of_ble_eq_true rfl) (Nat.le_of_ble_eq_true rfl) (cc_60 _) (s_X12_isPicker  (hb1 c_6) (hb2 c_6)) (fun r h q => ?_)
    obtain ⟨rfl, rfl⟩ := q
    simp only [Option.toList, List.cons_append, List.nil_append]
    refine r_goto rfl ?_
    refine r_iret rfl rfl (hb3 c_6) ?_
    exact ⟨by (unfold f_X12_isHeap; (try dsimp only); rw [if_neg c_6]), rfl⟩

def f_X12_fail (v0 : Int32) (s : fl_I) (l : fl_L) : fl_I × fl_L :=
  if ((s 60 13) ≤ 0) then ((su (su s 60 (upd (s 60) 13 v0)) 60 (upd ((su s 60 (upd (s 60) 13 v0)) 60) 14 ((su s 60 (upd (s 60) 13 v0)) 64 ((su s 60 (upd (s 60) 13 v0)) 60 11).toNatClampNeg))), l) else (s, l)
set_option maxRecDepth 100000 in
set_option maxHeartbeats 4000000 in
theorem s_X12_fail {G : ab_G} {d : Nat} {D : fl_D} {s : fl_I} {l : fl_L} {v0 : Int32} (hb0 : ((s 60 13) ≤ 0) → vp_in ((su s 60 (upd (s 60) 13 v0)) 60 11) 403) : ab_C G d 0 0 M_X12_fail 0 (ab_ent [.ref 60, .int v0]) [] (hp D s l) (rt (none) (hp D (f_X12_fail v0 s l).1 (f_X12_fail v0 s l).2)) := by
  refine r_weak (L1 := [some (.ref 60), some (.int v0)]) ⟨rfl, rfl, trivial⟩ ?_
  refine r_aload_n rfl rfl ?_
  refine q_getfield rfl (cc_60 _) rfl ?_
  refine r_if_le rfl (fun c_4 => ?_) (fun c_4 => ?_)
  · refine r_aload_n rfl rfl ?_
    refine r_iload_n rfl rfl ?_
    refine w_put rfl (cc_60 _) ff_12_13 ft_12_13 (Nat.le_of_ble_eq_true rfl) rfl ?_
    refine r_aload_n rfl rfl ?_
    refine r_aload_n rfl rfl ?_
    refine q_getfield rfl (cc_60 _) rfl ?_
    refine r_aload_n rfl rfl ?_
    refine q_getfield rfl (cc_60 _) rfl ?_
    refine q_iald rfl (cc_64 _) (hb0 c_4) ?_
    refine w_put rfl (cc_60 _) ff_12_14 ft_12_14 (Nat.le_of_ble_eq_true rfl) rfl ?_
    refine r_ret rfl rfl ?_
    exact ⟨rfl, by (unfold f_X12_fail; (try dsimp only); rw [if_pos c_4])⟩
  · refine r_ret rfl rfl ?_
    exact ⟨rfl, by (unfold f_X12_fail; (try dsimp only); rw [if_neg c_4])⟩

def f_X12_goesOn  (s : fl_I) (l : fl_L) : fl_I × fl_L :=
  if ((s 60 11) = (400 : Int32)) then ((f_X12_fail (2 : Int32) s l).1, (f_X12_fail (2 : Int32) s l).2) else ((su s 60 (upd (s 60) 11 ((s 60 11) + (1 : Int32)))), l)
set_option maxRecDepth 100000 in
set_option maxHeartbeats 4000000 in
theorem s_X12_goesOn {G : ab_G} {d : Nat} {D : fl_D} {s : fl_I} {l : fl_L}  (hb0 : ((s 60 11) = (400 : Int32)) → (((s 60 13) ≤ 0) → vp_in ((su s 60 (upd (s 60) 13 (2 : Int32))) 60 11) 403)) : ab_C G (d + 1) 0 0 M_X12_goesOn 0 (ab_ent [.ref 60]) [] (hp D s l) (rt (none) (hp D (f_X12_goesOn  s l).1 (f_X12_goesOn  s l).2)) := by
  refine r_weak (L1 := [some (.ref 60)]) ⟨rfl, trivial⟩ ?_
  refine r_aload_n rfl rfl ?_
  refine q_getfield rfl (cc_60 _) rfl ?_
  refine r_sipush_ (a := 400) rfl (by decide) ?_
  refine r_icmp_ne rfl (fun c_7 => ?_) (fun c_7 => ?_)
  · refine r_aload_n rfl rfl ?_
    refine r_dup rfl rfl ?_
    refine q_getfield rfl (cc_60 _) rfl ?_
    refine r_iconst_ (a := 1) rfl (by decide) ?_
    refine r_iadd rfl ?_
    refine w_put rfl (cc_60 _) ff_12_11 ft_12_11 (Nat.le_of_ble_eq_true rfl) rfl ?_
    refine r_ret rfl rfl ?_
    exact ⟨rfl, by (unfold f_X12_goesOn; (try dsimp only); rw [if_neg c_7])⟩
  · refine r_aload_n rfl rfl ?_
    refine r_iconst_ (a := 2) rfl (by decide) ?_
    refine q_callV0 [_] _ rfl kY_X12_fail kT_X12_fail rfl rfl (Nat.le_of_ble_eq_true rfl) (Nat.le_of_ble_eq_true rfl) (cc_60 _) (s_X12_fail  (hb0 c_7)) (fun r h q => ?_)
    obtain ⟨rfl, rfl⟩ := q
    simp only [Option.toList, List.cons_append, List.nil_append]
    refine r_goto rfl ?_
    refine r_ret rfl rfl ?_
    exact ⟨rfl, by (unfold f_X12_goesOn; (try dsimp only); rw [if_pos c_7])⟩

def f_X1_varOf (v0 : Int32) (s : fl_I) (l : fl_L) : Int32 :=
  if (((-7 : Int32) - v0) < 0) then (0 : Int32) else if ((9 : Int32) ≤ ((-7 : Int32) - v0)) then (0 : Int32) else (s 48 ((-7 : Int32) - v0).toNatClampNeg)
set_option maxRecDepth 100000 in
set_option maxHeartbeats 4000000 in
theorem s_X1_varOf {G : ab_G} {d : Nat} {D : fl_D} {s : fl_I} {l : fl_L} {v0 : Int32} (hb0 : ¬ (((-7 : Int32) - v0) < 0) → ¬ ((9 : Int32) ≤ ((-7 : Int32) - v0)) → vp_in ((-7 : Int32) - v0) 9) : ab_C G d 0 0 M_X1_varOf 0 (ab_ent [.ref 47, .int v0]) [] (hp D s l) (rt (some (.int (f_X1_varOf v0 s l))) (hp D s l)) := by
  refine r_weak (L1 := [some (.ref 47), some (.int v0), none]) ⟨rfl, rfl, trivial⟩ ?_
  refine r_bipush_ (a := -7) rfl (by decide) ?_
  refine r_iload_n rfl rfl ?_
  refine r_isub rfl ?_
  refine r_istore_n rfl (Nat.le_of_ble_eq_true rfl) rfl ?_
  refine r_iload_n rfl rfl ?_
  refine r_if_lt rfl (fun c_6 => ?_) (fun c_6 => ?_)
  · refine r_iconst_ (a := 0) rfl (by decide) ?_
    refine r_iret rfl rfl rfl ?_
    exact ⟨by (unfold f_X1_varOf; (try dsimp only); rw [if_pos c_6]), rfl⟩
  · refine r_iload_n rfl rfl ?_
    refine r_bipush_ (a := 9) rfl (by decide) ?_
    refine r_icmp_ge rfl (fun c_12 => ?_) (fun c_12 => ?_)
    · refine r_iconst_ (a := 0) rfl (by decide) ?_
      refine r_iret rfl rfl rfl ?_
      exact ⟨by (unfold f_X1_varOf; (try dsimp only); rw [if_neg c_6, if_pos c_12]), rfl⟩
    · refine r_aload_n rfl rfl ?_
      refine q_getfield rfl (cc_47 _) rfl ?_
      refine r_iload_n rfl rfl ?_
      refine q_iald rfl (cc_48 _) (hb0 c_6 c_12) ?_
      refine r_goto rfl ?_
      refine r_iret rfl rfl rfl ?_
      exact ⟨by (unfold f_X1_varOf; (try dsimp only); rw [if_neg c_6, if_neg c_12]), rfl⟩

def f_X3_kindNow  (s : fl_I) (l : fl_L) : Int32 :=
  if ((s 3 2) < 0) then (1 : Int32) else if ((s 3 2) ≤ (400 : Int32)) then (s 5 (s 3 2).toNatClampNeg) else (1 : Int32)
set_option maxRecDepth 100000 in
set_option maxHeartbeats 4000000 in
theorem s_X3_kindNow {G : ab_G} {d : Nat} {D : fl_D} {s : fl_I} {l : fl_L}  (hb0 : ¬ ((s 3 2) < 0) → ((s 3 2) ≤ (400 : Int32)) → vp_in (s 3 2) 401) : ab_C G d 0 0 M_X3_kindNow 0 (ab_ent [.ref 3]) [] (hp D s l) (rt (some (.int (f_X3_kindNow  s l))) (hp D s l)) := by
  refine r_weak (L1 := [some (.ref 3)]) ⟨rfl, trivial⟩ ?_
  refine r_aload_n rfl rfl ?_
  refine q_getfield rfl (cc_3 _) rfl ?_
  refine r_if_lt rfl (fun c_4 => ?_) (fun c_4 => ?_)
  · refine r_iconst_ (a := 1) rfl (by decide) ?_
    refine r_goto rfl ?_
    refine r_iret rfl rfl rfl ?_
    exact ⟨by (unfold f_X3_kindNow; (try dsimp only); rw [if_pos c_4]), rfl⟩
  · refine r_aload_n rfl rfl ?_
    refine q_getfield rfl (cc_3 _) rfl ?_
    refine r_sipush_ (a := 400) rfl (by decide) ?_
    refine r_icmp_le rfl (fun c_14 => ?_) (fun c_14 => ?_)
    · refine r_aload_n rfl rfl ?_
      refine q_getfield rfl (cc_3 _) rfl ?_
      refine q_getfield rfl (cc_4 _) rfl ?_
      refine r_aload_n rfl rfl ?_
      refine q_getfield rfl (cc_3 _) rfl ?_
      refine q_iald rfl (cc_5 _) (hb0 c_4 c_14) ?_
      refine r_iret rfl rfl rfl ?_
      exact ⟨by (unfold f_X3_kindNow; (try dsimp only); rw [if_neg c_4, if_pos c_14]), rfl⟩
    · refine r_iconst_ (a := 1) rfl (by decide) ?_
      refine r_goto rfl ?_
      refine r_iret rfl rfl rfl ?_
      exact ⟨by (unfold f_X3_kindNow; (try dsimp only); rw [if_neg c_4, if_neg c_14]), rfl⟩

def f_X3_valueNow  (s : fl_I) (l : fl_L) : Int64 :=
  if ((s 3 2) < 0) then (0 : Int64) else if ((s 3 2) ≤ (400 : Int32)) then (l 7 (s 3 2).toNatClampNeg) else (0 : Int64)
set_option maxRecDepth 100000 in
set_option maxHeartbeats 4000000 in
theorem s_X3_valueNow {G : ab_G} {d : Nat} {D : fl_D} {s : fl_I} {l : fl_L}  (hb0 : ¬ ((s 3 2) < 0) → ((s 3 2) ≤ (400 : Int32)) → vp_in (s 3 2) 401) : ab_C G d 0 0 M_X3_valueNow 0 (ab_ent [.ref 3]) [] (hp D s l) (rt (some (.long (f_X3_valueNow  s l))) (hp D s l)) := by
  refine r_weak (L1 := [some (.ref 3)]) ⟨rfl, trivial⟩ ?_
  refine r_aload_n rfl rfl ?_
  refine q_getfield rfl (cc_3 _) rfl ?_
  refine r_if_lt rfl (fun c_4 => ?_) (fun c_4 => ?_)
  · refine r_lconst (a := 0) rfl (by decide) ?_
    refine r_goto rfl ?_
    refine r_lret rfl rfl ?_
    exact ⟨by (unfold f_X3_valueNow; (try dsimp only); rw [if_pos c_4]), rfl⟩
  · refine r_aload_n rfl rfl ?_
    refine q_getfield rfl (cc_3 _) rfl ?_
    refine r_sipush_ (a := 400) rfl (by decide) ?_
    refine r_icmp_le rfl (fun c_14 => ?_) (fun c_14 => ?_)
    · refine r_aload_n rfl rfl ?_
      refine q_getfield rfl (cc_3 _) rfl ?_
      refine q_getfield rfl (cc_4 _) rfl ?_
      refine r_aload_n rfl rfl ?_
      refine q_getfield rfl (cc_3 _) rfl ?_
      refine q_lald rfl (cc_7 _) (hb0 c_4 c_14) ?_
      refine r_lret rfl rfl ?_
      exact ⟨by (unfold f_X3_valueNow; (try dsimp only); rw [if_neg c_4, if_pos c_14]), rfl⟩
    · refine r_lconst (a := 0) rfl (by decide) ?_
      refine r_goto rfl ?_
      refine r_lret rfl rfl ?_
      exact ⟨by (unfold f_X3_valueNow; (try dsimp only); rw [if_neg c_4, if_neg c_14]), rfl⟩

def f_X12_cellOfPicker (v0 : Int32) (s : fl_I) (l : fl_L) : Int32 :=
  (((10 : Int32) * (s 95 ((132 : Int32) + v0).toNatClampNeg)) + (s 95 ((128 : Int32) + v0).toNatClampNeg))
set_option maxRecDepth 100000 in
set_option maxHeartbeats 4000000 in
theorem s_X12_cellOfPicker {G : ab_G} {d : Nat} {D : fl_D} {s : fl_I} {l : fl_L} {v0 : Int32} (hb0 : vp_in ((132 : Int32) + v0) 141) (hb1 : vp_in ((128 : Int32) + v0) 141) : ab_C G d 0 0 M_X12_cellOfPicker 0 (ab_ent [.ref 60, .int v0]) [] (hp D s l) (rt (some (.int (f_X12_cellOfPicker v0 s l))) (hp D s l)) := by
  refine r_weak (L1 := [some (.ref 60), some (.int v0)]) ⟨rfl, rfl, trivial⟩ ?_
  refine r_bipush_ (a := 10) rfl (by decide) ?_
  refine r_aload_n rfl rfl ?_
  refine q_getfield rfl (cc_60 _) rfl ?_
  refine r_sipush_ (a := 132) rfl (by decide) ?_
  refine r_iload_n rfl rfl ?_
  refine r_iadd rfl ?_
  refine q_iald rfl (cc_95 _) hb0 ?_
  refine r_imul rfl ?_
  refine r_aload_n rfl rfl ?_
  refine q_getfield rfl (cc_60 _) rfl ?_
  refine r_sipush_ (a := 128) rfl (by decide) ?_
  refine r_iload_n rfl rfl ?_
  refine r_iadd rfl ?_
  refine q_iald rfl (cc_95 _) hb1 ?_
  refine r_iadd rfl ?_
  refine r_iret rfl rfl rfl ?_
  exact ⟨rfl, rfl⟩

def f_X12_back (v0 : Int32) (s : fl_I) (l : fl_L) : Int32 × fl_I × fl_L :=
  if (v0 < 0) then ((-1 : Int32), s, l) else if (v0 ≤ (s 60 2)) then (((su s 60 (upd (s 60) 2 ((s 60 2) - v0))) 60 2), (su s 60 (upd (s 60) 2 ((s 60 2) - v0))), l) else ((-1 : Int32), s, l)
set_option maxRecDepth 100000 in
set_option maxHeartbeats 4000000 in
theorem s_X12_back {G : ab_G} {d : Nat} {D : fl_D} {s : fl_I} {l : fl_L} {v0 : Int32}  : ab_C G d 0 0 M_X12_back 0 (ab_ent [.ref 60, .int v0]) [] (hp D s l) (rt (some (.int (f_X12_back v0 s l).1)) (hp D (f_X12_back v0 s l).2.1 (f_X12_back v0 s l).2.2)) := by
  refine r_weak (L1 := [some (.ref 60), some (.int v0)]) ⟨rfl, rfl, trivial⟩ ?_
  refine r_iload_n rfl rfl ?_
  refine r_if_lt rfl (fun c_1 => ?_) (fun c_1 => ?_)
  · refine r_iconst_ (a := -1) rfl (by decide) ?_
    refine r_iret rfl rfl rfl ?_
    exact ⟨by (unfold f_X12_back; (try dsimp only); rw [if_pos c_1]), by (unfold f_X12_back; (try dsimp only); rw [if_pos c_1])⟩
  · refine r_iload_n rfl rfl ?_
    refine r_aload_n rfl rfl ?_
    refine q_getfield rfl (cc_60 _) rfl ?_
    refine r_icmp_le rfl (fun c_9 => ?_) (fun c_9 => ?_)
    · refine r_aload_n rfl rfl ?_
      refine r_dup rfl rfl ?_
      refine q_getfield rfl (cc_60 _) rfl ?_
      refine r_iload_n rfl rfl ?_
      refine r_isub rfl ?_
      refine w_put rfl (cc_60 _) ff_12_2 ft_12_2 (Nat.le_of_ble_eq_true rfl) rfl ?_
      refine r_aload_n rfl rfl ?_
      refine q_getfield rfl (cc_60 _) rfl ?_
      refine r_iret rfl rfl rfl ?_
      exact ⟨by (unfold f_X12_back; (try dsimp only); rw [if_neg c_1, if_pos c_9]), by (unfold f_X12_back; (try dsimp only); rw [if_neg c_1, if_pos c_9])⟩
    · refine r_iconst_ (a := -1) rfl (by decide) ?_
      refine r_iret rfl rfl rfl ?_
      exact ⟨by (unfold f_X12_back; (try dsimp only); rw [if_neg c_1, if_neg c_9]), by (unfold f_X12_back; (try dsimp only); rw [if_neg c_1, if_neg c_9])⟩

def f_X4_byteAt (v0 : Int32) (s : fl_I) (l : fl_L) : Int32 :=
  if (v0 < 0) then (-1 : Int32) else if ((s 1 1) ≤ v0) then (-1 : Int32) else if (v0 < (2000 : Int32)) then ((s 2 v0.toNatClampNeg) &&& (255 : Int32)) else (-1 : Int32)
set_option maxRecDepth 100000 in
set_option maxHeartbeats 4000000 in
theorem s_X4_byteAt {G : ab_G} {d : Nat} {D : fl_D} {s : fl_I} {l : fl_L} {v0 : Int32} (hb0 : ¬ (v0 < 0) → ¬ ((s 1 1) ≤ v0) → (v0 < (2000 : Int32)) → vp_in v0 2000) : ab_C G d 0 0 M_X4_byteAt 0 (ab_ent [.ref 1, .int v0]) [] (hp D s l) (rt (some (.int (f_X4_byteAt v0 s l))) (hp D s l)) := by
  refine r_weak (L1 := [some (.ref 1), some (.int v0)]) ⟨rfl, rfl, trivial⟩ ?_
  refine r_iload_n rfl rfl ?_
  refine r_if_lt rfl (fun c_1 => ?_) (fun c_1 => ?_)
  · refine r_iconst_ (a := -1) rfl (by decide) ?_
    refine r_goto rfl ?_
    refine r_iret rfl rfl rfl ?_
    exact ⟨by (unfold f_X4_byteAt; (try dsimp only); rw [if_pos c_1]), rfl⟩
  · refine r_iload_n rfl rfl ?_
    refine r_aload_n rfl rfl ?_
    refine q_getfield rfl (cc_1 _) rfl ?_
    refine r_icmp_ge rfl (fun c_9 => ?_) (fun c_9 => ?_)
    · refine r_iconst_ (a := -1) rfl (by decide) ?_
      refine r_goto rfl ?_
      refine r_iret rfl rfl rfl ?_
      exact ⟨by (unfold f_X4_byteAt; (try dsimp only); rw [if_neg c_1, if_pos c_9]), rfl⟩
    · refine r_iload_n rfl rfl ?_
      refine r_sipush_ (a := 2000) rfl (by decide) ?_
      refine r_icmp_lt rfl (fun c_16 => ?_) (fun c_16 => ?_)
      · refine r_aload_n rfl rfl ?_
        refine q_getfield rfl (cc_1 _) rfl ?_
        refine r_iload_n rfl rfl ?_
        refine q_bald rfl (cc_2 _) (hb0 c_1 c_9 c_16) ?_
        refine r_sipush_ (a := 255) rfl (by decide) ?_
        refine r_iand rfl ?_
        refine r_iret rfl rfl rfl ?_
        exact ⟨by (unfold f_X4_byteAt; (try dsimp only); rw [if_neg c_1, if_neg c_9, if_pos c_16]), rfl⟩
      · refine r_iconst_ (a := -1) rfl (by decide) ?_
        refine r_goto rfl ?_
        refine r_iret rfl rfl rfl ?_
        exact ⟨by (unfold f_X4_byteAt; (try dsimp only); rw [if_neg c_1, if_neg c_9, if_neg c_16]), rfl⟩

def f_X12_emit (v0 : Int32) (v1 : Int32) (s : fl_I) (l : fl_L) : fl_I × fl_L :=
  ((su (su (su s 89 (upd (s 89) (s 60 42).toNatClampNeg v0)) 90 (upd ((su s 89 (upd (s 89) (s 60 42).toNatClampNeg v0)) 90) ((su s 89 (upd (s 89) (s 60 42).toNatClampNeg v0)) 60 42).toNatClampNeg v1)) 60 (upd ((su (su s 89 (upd (s 89) (s 60 42).toNatClampNeg v0)) 90 (upd ((su s 89 (upd (s 89) (s 60 42).toNatClampNeg v0)) 90) ((su s 89 (upd (s 89) (s 60 42).toNatClampNeg v0)) 60 42).toNatClampNeg v1)) 60) 42 (((su (su s 89 (upd (s 89) (s 60 42).toNatClampNeg v0)) 90 (upd ((su s 89 (upd (s 89) (s 60 42).toNatClampNeg v0)) 90) ((su s 89 (upd (s 89) (s 60 42).toNatClampNeg v0)) 60 42).toNatClampNeg v1)) 60 42) + (1 : Int32)))), l)
set_option maxRecDepth 100000 in
set_option maxHeartbeats 4000000 in
theorem s_X12_emit {G : ab_G} {d : Nat} {D : fl_D} {s : fl_I} {l : fl_L} {v0 : Int32} {v1 : Int32} (hb0 : vp_in (s 60 42) 840) (hb1 : vp_in ((su s 89 (upd (s 89) (s 60 42).toNatClampNeg v0)) 60 42) 840) : ab_C G d 0 0 M_X12_emit 0 (ab_ent [.ref 60, .int v0, .int v1]) [] (hp D s l) (rt (none) (hp D (f_X12_emit v0 v1 s l).1 (f_X12_emit v0 v1 s l).2)) := by
  refine r_weak (L1 := [some (.ref 60), some (.int v0), some (.int v1)]) ⟨rfl, rfl, rfl, trivial⟩ ?_
  refine r_aload_n rfl rfl ?_
  refine q_getfield rfl (cc_60 _) rfl ?_
  refine r_aload_n rfl rfl ?_
  refine q_getfield rfl (cc_60 _) rfl ?_
  refine r_iload_n rfl rfl ?_
  refine w_iast rfl (cc_89 _) hb0 ?_
  refine r_aload_n rfl rfl ?_
  refine q_getfield rfl (cc_60 _) rfl ?_
  refine r_aload_n rfl rfl ?_
  refine q_getfield rfl (cc_60 _) rfl ?_
  refine r_iload_n rfl rfl ?_
  refine w_iast rfl (cc_90 _) hb1 ?_
  refine r_aload_n rfl rfl ?_
  refine r_dup rfl rfl ?_
  refine q_getfield rfl (cc_60 _) rfl ?_
  refine r_iconst_ (a := 1) rfl (by decide) ?_
  refine r_iadd rfl ?_
  refine w_put rfl (cc_60 _) ff_12_42 ft_12_42 (Nat.le_of_ble_eq_true rfl) rfl ?_
  refine r_ret rfl rfl ?_
  exact ⟨rfl, rfl⟩

def f_X3_stop (v0 : Int32) (s : fl_I) (l : fl_L) : Int32 × fl_I × fl_L :=
  if ((s 3 2) < 0) then ((0 : Int32), s, l) else if ((400 : Int32) < (s 3 2)) then ((0 : Int32), s, l) else ((0 : Int32), (su (su s 3 (upd (s 3) 3 v0)) 3 (upd ((su s 3 (upd (s 3) 3 v0)) 3) 0 ((su s 3 (upd (s 3) 3 v0)) 6 ((su s 3 (upd (s 3) 3 v0)) 3 2).toNatClampNeg))), l)
set_option maxRecDepth 100000 in
set_option maxHeartbeats 4000000 in
theorem s_X3_stop {G : ab_G} {d : Nat} {D : fl_D} {s : fl_I} {l : fl_L} {v0 : Int32} (hb0 : ¬ ((s 3 2) < 0) → ¬ ((400 : Int32) < (s 3 2)) → vp_in ((su s 3 (upd (s 3) 3 v0)) 3 2) 401) : ab_C G d 0 0 M_X3_stop 0 (ab_ent [.ref 3, .int v0]) [] (hp D s l) (rt (some (.int (f_X3_stop v0 s l).1)) (hp D (f_X3_stop v0 s l).2.1 (f_X3_stop v0 s l).2.2)) := by
  refine r_weak (L1 := [some (.ref 3), some (.int v0)]) ⟨rfl, rfl, trivial⟩ ?_
  refine r_aload_n rfl rfl ?_
  refine q_getfield rfl (cc_3 _) rfl ?_
  refine r_if_lt rfl (fun c_4 => ?_) (fun c_4 => ?_)
  · refine r_iconst_ (a := 0) rfl (by decide) ?_
    refine r_iret rfl rfl rfl ?_
    exact ⟨by (unfold f_X3_stop; (try dsimp only); rw [if_pos c_4]), by (unfold f_X3_stop; (try dsimp only); rw [if_pos c_4])⟩
  · refine r_aload_n rfl rfl ?_
    refine q_getfield rfl (cc_3 _) rfl ?_
    refine r_sipush_ (a := 400) rfl (by decide) ?_
    refine r_icmp_gt rfl (fun c_14 => ?_) (fun c_14 => ?_)
    · refine r_iconst_ (a := 0) rfl (by decide) ?_
      refine r_iret rfl rfl rfl ?_
      exact ⟨by (unfold f_X3_stop; (try dsimp only); rw [if_neg c_4, if_pos c_14]), by (unfold f_X3_stop; (try dsimp only); rw [if_neg c_4, if_pos c_14])⟩
    · refine r_aload_n rfl rfl ?_
      refine r_iload_n rfl rfl ?_
      refine w_put rfl (cc_3 _) ff_3_3 ft_3_3 (Nat.le_of_ble_eq_true rfl) rfl ?_
      refine r_aload_n rfl rfl ?_
      refine r_aload_n rfl rfl ?_
      refine q_getfield rfl (cc_3 _) rfl ?_
      refine q_getfield rfl (cc_4 _) rfl ?_
      refine r_aload_n rfl rfl ?_
      refine q_getfield rfl (cc_3 _) rfl ?_
      refine q_iald rfl (cc_6 _) (hb0 c_4 c_14) ?_
      refine w_put rfl (cc_3 _) ff_3_0 ft_3_0 (Nat.le_of_ble_eq_true rfl) rfl ?_
      refine r_iconst_ (a := 0) rfl (by decide) ?_
      refine r_iret rfl rfl rfl ?_
      exact ⟨by (unfold f_X3_stop; (try dsimp only); rw [if_neg c_4, if_neg c_14]), by (unfold f_X3_stop; (try dsimp only); rw [if_neg c_4, if_neg c_14])⟩

def f_X5_addWord (v0 : Int64) (t : Nat) (s : fl_I) (l : fl_L) : fl_I × fl_L :=
  if ((s t 1) < 0) then (s, l) else if ((8 : Int32) ≤ (s t 1)) then (s, l) else ((su s t (upd (s t) 1 ((s t 1) + (1 : Int32)))), (sl l (t + 2) (vp_updL (l (t + 2)) (s t 1).toNatClampNeg v0)))
set_option maxRecDepth 100000 in
set_option maxHeartbeats 4000000 in
theorem s_X5_addWord {G : ab_G} {d : Nat} {D : fl_D} {s : fl_I} {l : fl_L} {t : Nat} (ht : isT t) {v0 : Int64} (hb0 : ¬ ((s t 1) < 0) → ¬ ((8 : Int32) ≤ (s t 1)) → vp_in (s t 1) 8) : ab_C G d 0 0 M_X5_addWord 0 (ab_ent [.ref t, .long v0]) [] (hp D s l) (rt (none) (hp D (f_X5_addWord v0 t s l).1 (f_X5_addWord v0 t s l).2)) := by
  refine r_weak (L1 := [some (.ref t), some (.long v0), none]) ⟨rfl, rfl, trivial⟩ ?_
  refine r_aload_n rfl rfl ?_
  refine q_getfield rfl (cT_0 ht) rfl ?_
  refine r_if_lt rfl (fun c_4 => ?_) (fun c_4 => ?_)
  · refine r_ret rfl rfl ?_
    exact ⟨rfl, by (unfold f_X5_addWord; (try dsimp only); rw [if_pos c_4])⟩
  · refine r_aload_n rfl rfl ?_
    refine q_getfield rfl (cT_0 ht) rfl ?_
    refine r_bipush_ (a := 8) rfl (by decide) ?_
    refine r_icmp_ge rfl (fun c_13 => ?_) (fun c_13 => ?_)
    · refine r_ret rfl rfl ?_
      exact ⟨rfl, by (unfold f_X5_addWord; (try dsimp only); rw [if_neg c_4, if_pos c_13])⟩
    · refine r_aload_n rfl rfl ?_
      refine q_getfield rfl (cT_0 ht) rfl ?_
      refine r_aload_n rfl rfl ?_
      refine q_getfield rfl (cT_0 ht) rfl ?_
      refine r_lload_n rfl rfl ?_
      refine w_last rfl (cT_2 ht) (hb0 c_4 c_13) ?_
      refine r_aload_n rfl rfl ?_
      refine r_dup rfl rfl ?_
      refine q_getfield rfl (cT_0 ht) rfl ?_
      refine r_iconst_ (a := 1) rfl (by decide) ?_
      refine r_iadd rfl ?_
      refine w_put rfl (cT_0 ht) ff_5_1 ft_5_1 (Nat.le_of_ble_eq_true rfl) rfl ?_
      refine r_ret rfl rfl ?_
      exact ⟨rfl, by (unfold f_X5_addWord; (try dsimp only); rw [if_neg c_4, if_neg c_13])⟩

def f_X5_addCode (v0 : Int32) (t : Nat) (s : fl_I) (l : fl_L) : fl_I × fl_L :=
  if ((s t 14) < 0) then (s, l) else if ((408 : Int32) ≤ (s t 14)) then (s, l) else ((su (su s (t + 9) (upd (s (t + 9)) (s t 14).toNatClampNeg v0)) t (upd ((su s (t + 9) (upd (s (t + 9)) (s t 14).toNatClampNeg v0)) t) 14 (((su s (t + 9) (upd (s (t + 9)) (s t 14).toNatClampNeg v0)) t 14) + (1 : Int32)))), l)
set_option maxRecDepth 100000 in
set_option maxHeartbeats 4000000 in
theorem s_X5_addCode {G : ab_G} {d : Nat} {D : fl_D} {s : fl_I} {l : fl_L} {t : Nat} (ht : isT t) {v0 : Int32} (hb0 : ¬ ((s t 14) < 0) → ¬ ((408 : Int32) ≤ (s t 14)) → vp_in (s t 14) 408) : ab_C G d 0 0 M_X5_addCode 0 (ab_ent [.ref t, .int v0]) [] (hp D s l) (rt (none) (hp D (f_X5_addCode v0 t s l).1 (f_X5_addCode v0 t s l).2)) := by
  refine r_weak (L1 := [some (.ref t), some (.int v0)]) ⟨rfl, rfl, trivial⟩ ?_
  refine r_aload_n rfl rfl ?_
  refine q_getfield rfl (cT_0 ht) rfl ?_
  refine r_if_lt rfl (fun c_4 => ?_) (fun c_4 => ?_)
  · refine r_ret rfl rfl ?_
    exact ⟨rfl, by (unfold f_X5_addCode; (try dsimp only); rw [if_pos c_4])⟩
  · refine r_aload_n rfl rfl ?_
    refine q_getfield rfl (cT_0 ht) rfl ?_
    refine r_sipush_ (a := 408) rfl (by decide) ?_
    refine r_icmp_ge rfl (fun c_14 => ?_) (fun c_14 => ?_)
    · refine r_ret rfl rfl ?_
      exact ⟨rfl, by (unfold f_X5_addCode; (try dsimp only); rw [if_neg c_4, if_pos c_14])⟩
    · refine r_aload_n rfl rfl ?_
      refine q_getfield rfl (cT_0 ht) rfl ?_
      refine r_aload_n rfl rfl ?_
      refine q_getfield rfl (cT_0 ht) rfl ?_
      refine r_iload_n rfl rfl ?_
      refine w_iast rfl (cT_9 ht) (hb0 c_4 c_14) ?_
      refine r_aload_n rfl rfl ?_
      refine r_dup rfl rfl ?_
      refine q_getfield rfl (cT_0 ht) rfl ?_
      refine r_iconst_ (a := 1) rfl (by decide) ?_
      refine r_iadd rfl ?_
      refine w_put rfl (cT_0 ht) ff_5_14 ft_5_14 (Nat.le_of_ble_eq_true rfl) rfl ?_
      refine r_ret rfl rfl ?_
      exact ⟨rfl, by (unfold f_X5_addCode; (try dsimp only); rw [if_neg c_4, if_neg c_14])⟩

def f_X11_back (v0 : Int32) (s : fl_I) (l : fl_L) : Int32 × fl_I × fl_L :=
  if (v0 < 0) then ((-1 : Int32), s, l) else if (v0 ≤ (s 1 1)) then (((su s 1 (upd (s 1) 1 ((s 1 1) - v0))) 1 1), (su s 1 (upd (s 1) 1 ((s 1 1) - v0))), l) else ((-1 : Int32), s, l)
set_option maxRecDepth 100000 in
set_option maxHeartbeats 4000000 in
theorem s_X11_back {G : ab_G} {d : Nat} {D : fl_D} {s : fl_I} {l : fl_L} {v0 : Int32}  : ab_C G d 0 0 M_X11_back 0 (ab_ent [.ref 0, .int v0]) [] (hp D s l) (rt (some (.int (f_X11_back v0 s l).1)) (hp D (f_X11_back v0 s l).2.1 (f_X11_back v0 s l).2.2)) := by
  refine r_weak (L1 := [some (.ref 0), some (.int v0)]) ⟨rfl, rfl, trivial⟩ ?_
  refine r_iload_n rfl rfl ?_
  refine r_if_lt rfl (fun c_1 => ?_) (fun c_1 => ?_)
  · refine r_iconst_ (a := -1) rfl (by decide) ?_
    refine r_iret rfl rfl rfl ?_
    exact ⟨by (unfold f_X11_back; (try dsimp only); rw [if_pos c_1]), by (unfold f_X11_back; (try dsimp only); rw [if_pos c_1])⟩
  · refine r_iload_n rfl rfl ?_
    refine r_aload_n rfl rfl ?_
    refine q_getfield rfl (cc_0 _) rfl ?_
    refine q_getfield rfl (cc_1 _) rfl ?_
    refine r_icmp_le rfl (fun c_12 => ?_) (fun c_12 => ?_)
    · refine r_aload_n rfl rfl ?_
      refine q_getfield rfl (cc_0 _) rfl ?_
      refine r_dup rfl rfl ?_
      refine q_getfield rfl (cc_1 _) rfl ?_
      refine r_iload_n rfl rfl ?_
      refine r_isub rfl ?_
      refine w_put rfl (cc_1 _) ff_4_1 ft_4_1 (Nat.le_of_ble_eq_true rfl) rfl ?_
      refine r_aload_n rfl rfl ?_
      refine q_getfield rfl (cc_0 _) rfl ?_
      refine q_getfield rfl (cc_1 _) rfl ?_
      refine r_iret rfl rfl rfl ?_
      exact ⟨by (unfold f_X11_back; (try dsimp only); rw [if_neg c_1, if_pos c_12]), by (unfold f_X11_back; (try dsimp only); rw [if_neg c_1, if_pos c_12])⟩
    · refine r_iconst_ (a := -1) rfl (by decide) ?_
      refine r_iret rfl rfl rfl ?_
      exact ⟨by (unfold f_X11_back; (try dsimp only); rw [if_neg c_1, if_neg c_12]), by (unfold f_X11_back; (try dsimp only); rw [if_neg c_1, if_neg c_12])⟩

def f_X12_pieceAcross (v0 : Int32) (s : fl_I) (l : fl_L) : Int32 :=
  if ((f_X12_doesLie v0 s l) = 0) then (s 95 ((128 : Int32) + (s 95 ((64 : Int32) + v0).toNatClampNeg)).toNatClampNeg) else (s 95 v0.toNatClampNeg)
set_option maxRecDepth 100000 in
set_option maxHeartbeats 4000000 in
theorem s_X12_pieceAcross {G : ab_G} {d : Nat} {D : fl_D} {s : fl_I} {l : fl_L} {v0 : Int32} (hb0 : (vp_in ((64 : Int32) + v0) 141)) (hb1 : ((f_X12_doesLie v0 s l) = 0) → vp_in ((64 : Int32) + v0) 141) (hb2 : ((f_X12_doesLie v0 s l) = 0) → vp_in ((128 : Int32) + (s 95 ((64 : Int32) + v0).toNatClampNeg)) 141) (hb3 : ¬ ((f_X12_doesLie v0 s l) = 0) → vp_in v0 141) : ab_C G (d + 1) 0 0 M_X12_pieceAcross 0 (ab_ent [.ref 60, .int v0]) [] (hp D s l) (rt (some (.int (f_X12_pieceAcross v0 s l))) (hp D s l)) := by
  refine r_weak (L1 := [some (.ref 60), some (.int v0)]) ⟨rfl, rfl, trivial⟩ ?_
  refine r_aload_n rfl rfl ?_
  refine r_iload_n rfl rfl ?_
  refine q_callV0 [_] _ rfl kY_X12_doesLie kT_X12_doesLie rfl rfl (Nat.le_of_ble_eq_true rfl) (Nat.le_of_ble_eq_true rfl) (cc_60 _) (s_X12_doesLie  hb0) (fun r h q => ?_)
  obtain ⟨rfl, rfl⟩ := q
  simp only [Option.toList, List.cons_append, List.nil_append]
  refine r_if_eq rfl (fun c_5 => ?_) (fun c_5 => ?_)
  · refine r_aload_n rfl rfl ?_
    refine q_getfield rfl (cc_60 _) rfl ?_
    refine r_sipush_ (a := 128) rfl (by decide) ?_
    refine r_aload_n rfl rfl ?_
    refine q_getfield rfl (cc_60 _) rfl ?_
    refine r_bipush_ (a := 64) rfl (by decide) ?_
    refine r_iload_n rfl rfl ?_
    refine r_iadd rfl ?_
    refine q_iald rfl (cc_95 _) (hb1 c_5) ?_
    refine r_iadd rfl ?_
    refine q_iald rfl (cc_95 _) (hb2 c_5) ?_
    refine r_iret rfl rfl rfl ?_
    exact ⟨by (unfold f_X12_pieceAcross; (try dsimp only); rw [if_pos c_5]), rfl⟩
  · refine r_aload_n rfl rfl ?_
    refine q_getfield rfl (cc_60 _) rfl ?_
    refine r_iload_n rfl rfl ?_
    refine q_iald rfl (cc_95 _) (hb3 c_5) ?_
    refine r_goto rfl ?_
    refine r_iret rfl rfl rfl ?_
    exact ⟨by (unfold f_X12_pieceAcross; (try dsimp only); rw [if_neg c_5]), rfl⟩

def f_X12_goalAt (v0 : Int32) (v1 : Int32) (s : fl_I) (l : fl_L) : Int32 :=
  if (v1 = (((10 : Int32) * (s 94 ((132 : Int32) + v0).toNatClampNeg)) + (s 94 ((128 : Int32) + v0).toNatClampNeg))) then (-2 : Int32) else v1
set_option maxRecDepth 100000 in
set_option maxHeartbeats 4000000 in
theorem s_X12_goalAt {G : ab_G} {d : Nat} {D : fl_D} {s : fl_I} {l : fl_L} {v0 : Int32} {v1 : Int32} (hb0 : vp_in ((132 : Int32) + v0) 141) (hb1 : vp_in ((128 : Int32) + v0) 141) : ab_C G d 0 0 M_X12_goalAt 0 (ab_ent [.ref 60, .int v0, .int v1]) [] (hp D s l) (rt (some (.int (f_X12_goalAt v0 v1 s l))) (hp D s l)) := by
  refine r_weak (L1 := [some (.ref 60), some (.int v0), some (.int v1)]) ⟨rfl, rfl, rfl, trivial⟩ ?_
  refine r_iload_n rfl rfl ?_
  refine r_bipush_ (a := 10) rfl (by decide) ?_
  refine r_aload_n rfl rfl ?_
  refine q_getfield rfl (cc_60 _) rfl ?_
  refine r_sipush_ (a := 132) rfl (by decide) ?_
  refine r_iload_n rfl rfl ?_
  refine r_iadd rfl ?_
  refine q_iald rfl (cc_94 _) hb0 ?_
  refine r_imul rfl ?_
  refine r_aload_n rfl rfl ?_
  refine q_getfield rfl (cc_60 _) rfl ?_
  refine r_sipush_ (a := 128) rfl (by decide) ?_
  refine r_iload_n rfl rfl ?_
  refine r_iadd rfl ?_
  refine q_iald rfl (cc_94 _) hb1 ?_
  refine r_iadd rfl ?_
  refine r_icmp_ne rfl (fun c_25 => ?_) (fun c_25 => ?_)
  · refine r_iload_n rfl rfl ?_
    refine r_iret rfl rfl rfl ?_
    exact ⟨by (unfold f_X12_goalAt; (try dsimp only); rw [if_neg c_25]), rfl⟩
  · refine r_bipush_ (a := -2) rfl (by decide) ?_
    refine r_goto rfl ?_
    refine r_iret rfl rfl rfl ?_
    exact ⟨by (unfold f_X12_goalAt; (try dsimp only); rw [if_pos c_25]), rfl⟩

def f_X3_noteLater (v0 : Int32) (s : fl_I) (l : fl_L) : fl_I × fl_L :=
  if ((s 3 4) = 0) then if ((s 3 2) < 0) then (s, l) else if ((400 : Int32) < (s 3 2)) then (s, l) else ((su (su s 3 (upd (s 3) 4 v0)) 3 (upd ((su s 3 (upd (s 3) 4 v0)) 3) 5 ((su s 3 (upd (s 3) 4 v0)) 6 ((su s 3 (upd (s 3) 4 v0)) 3 2).toNatClampNeg))), l) else (s, l)
set_option maxRecDepth 100000 in
set_option maxHeartbeats 4000000 in
theorem s_X3_noteLater {G : ab_G} {d : Nat} {D : fl_D} {s : fl_I} {l : fl_L} {v0 : Int32} (hb0 : ((s 3 4) = 0) → ¬ ((s 3 2) < 0) → ¬ ((400 : Int32) < (s 3 2)) → vp_in ((su s 3 (upd (s 3) 4 v0)) 3 2) 401) : ab_C G d 0 0 M_X3_noteLater 0 (ab_ent [.ref 3, .int v0]) [] (hp D s l) (rt (none) (hp D (f_X3_noteLater v0 s l).1 (f_X3_noteLater v0 s l).2)) := by
  refine r_weak (L1 := [some (.ref 3), some (.int v0)]) ⟨rfl, rfl, trivial⟩ ?_
  refine r_aload_n rfl rfl ?_
  refine q_getfield rfl (cc_3 _) rfl ?_
  refine r_if_ne rfl (fun c_4 => ?_) (fun c_4 => ?_)
  · refine r_ret rfl rfl ?_
    exact ⟨rfl, by (unfold f_X3_noteLater; (try dsimp only); rw [if_neg c_4])⟩
  · refine r_aload_n rfl rfl ?_
    refine q_getfield rfl (cc_3 _) rfl ?_
    refine r_if_lt rfl (fun c_11 => ?_) (fun c_11 => ?_)
    · refine r_ret rfl rfl ?_
      exact ⟨rfl, by (unfold f_X3_noteLater; (try dsimp only); rw [if_pos c_4, if_pos c_11])⟩
    · refine r_aload_n rfl rfl ?_
      refine q_getfield rfl (cc_3 _) rfl ?_
      refine r_sipush_ (a := 400) rfl (by decide) ?_
      refine r_icmp_gt rfl (fun c_21 => ?_) (fun c_21 => ?_)
      · refine r_ret rfl rfl ?_
        exact ⟨rfl, by (unfold f_X3_noteLater; (try dsimp only); rw [if_pos c_4, if_neg c_11, if_pos c_21])⟩
      · refine r_aload_n rfl rfl ?_
        refine r_iload_n rfl rfl ?_
        refine w_put rfl (cc_3 _) ff_3_4 ft_3_4 (Nat.le_of_ble_eq_true rfl) rfl ?_
        refine r_aload_n rfl rfl ?_
        refine r_aload_n rfl rfl ?_
        refine q_getfield rfl (cc_3 _) rfl ?_
        refine q_getfield rfl (cc_4 _) rfl ?_
        refine r_aload_n rfl rfl ?_
        refine q_getfield rfl (cc_3 _) rfl ?_
        refine q_iald rfl (cc_6 _) (hb0 c_4 c_11 c_21) ?_
        refine w_put rfl (cc_3 _) ff_3_5 ft_3_5 (Nat.le_of_ble_eq_true rfl) rfl ?_
        refine r_ret rfl rfl ?_
        exact ⟨rfl, by (unfold f_X3_noteLater; (try dsimp only); rw [if_pos c_4, if_neg c_11, if_neg c_21])⟩

def f_X11_steps (v0 : Int32) (v1 : Int32) (v2 : Int32) (s : fl_I) (l : fl_L) : Int32 :=
  if ((f_X11_isPicker v0 s l) = 0) then (-1 : Int32) else if ((f_X11_isCell v1 v2) = 0) then (-1 : Int32) else (f_X11_apart (s 34 v0.toNatClampNeg) (((10 : Int32) * v2) + v1))
set_option maxRecDepth 100000 in
set_option maxHeartbeats 4000000 in
theorem s_X11_steps {G : ab_G} {d : Nat} {D : fl_D} {s : fl_I} {l : fl_L} {v0 : Int32} {v1 : Int32} {v2 : Int32} (hb0 : ¬ ((f_X11_isPicker v0 s l) = 0) → ¬ ((f_X11_isCell v1 v2) = 0) → vp_in v0 4) : ab_C G (d + 1) 0 0 M_X11_steps 0 (ab_ent [.ref 0, .int v0, .int v1, .int v2]) [] (hp D s l) (rt (some (.int (f_X11_steps v0 v1 v2 s l))) (hp D s l)) := by
  refine r_weak (L1 := [some (.ref 0), some (.int v0), some (.int v1), some (.int v2)]) ⟨rfl, rfl, rfl, rfl, trivial⟩ ?_
  refine r_aload_n rfl rfl ?_
  refine r_iload_n rfl rfl ?_
  refine q_callV0 [_] _ rfl kY_X11_isPicker kT_X11_isPicker rfl rfl (Nat.le_of_ble_eq_true rfl) (Nat.le_of_ble_eq_true rfl) (cc_0 _) (s_X11_isPicker) (fun r h q => ?_)
  obtain ⟨rfl, rfl⟩ := q
  simp only [Option.toList, List.cons_append, List.nil_append]
  refine r_if_eq rfl (fun c_5 => ?_) (fun c_5 => ?_)
  · refine r_iconst_ (a := -1) rfl (by decide) ?_
    refine r_iret rfl rfl rfl ?_
    exact ⟨by (unfold f_X11_steps; (try dsimp only); rw [if_pos c_5]), rfl⟩
  · refine r_iload_n rfl rfl ?_
    refine r_iload_n rfl rfl ?_
    refine r_callS0 [_, _] _ rfl kY_X11_isCell kT_X11_isCell rfl rfl (Nat.le_of_ble_eq_true rfl) (Nat.le_of_ble_eq_true rfl) (s_X11_isCell) (fun r h q => ?_)
    obtain ⟨rfl, rfl⟩ := q
    simp only [Option.toList, List.cons_append, List.nil_append]
    refine r_if_ne rfl (fun c_13 => ?_) (fun c_13 => ?_)
    · refine r_aload_n rfl rfl ?_
      refine q_getfield rfl (cc_0 _) rfl ?_
      refine q_getfield rfl (cc_31 _) rfl ?_
      refine r_iload_n rfl rfl ?_
      refine q_iald rfl (cc_34 _) (hb0 c_5 c_13) ?_
      refine r_bipush_ (a := 10) rfl (by decide) ?_
      refine r_iload_n rfl rfl ?_
      refine r_imul rfl ?_
      refine r_iload_n rfl rfl ?_
      refine r_iadd rfl ?_
      refine r_callS0 [_, _] _ rfl kY_X11_apart kT_X11_apart rfl rfl (Nat.le_of_ble_eq_true rfl) (Nat.le_of_ble_eq_true rfl) (s_X11_apart) (fun r h q => ?_)
      obtain ⟨rfl, rfl⟩ := q
      simp only [Option.toList, List.cons_append, List.nil_append]
      refine r_iret rfl rfl rfl ?_
      exact ⟨by (unfold f_X11_steps; (try dsimp only); rw [if_neg c_5, if_neg c_13]), rfl⟩
    · refine r_iconst_ (a := -1) rfl (by decide) ?_
      refine r_iret rfl rfl rfl ?_
      exact ⟨by (unfold f_X11_steps; (try dsimp only); rw [if_neg c_5, if_pos c_13]), rfl⟩

def f_X12_pieceDown (v0 : Int32) (s : fl_I) (l : fl_L) : Int32 :=
  if ((f_X12_doesLie v0 s l) = 0) then (s 95 ((132 : Int32) + (s 95 ((64 : Int32) + v0).toNatClampNeg)).toNatClampNeg) else (s 95 ((32 : Int32) + v0).toNatClampNeg)
set_option maxRecDepth 100000 in
set_option maxHeartbeats 4000000 in
theorem s_X12_pieceDown {G : ab_G} {d : Nat} {D : fl_D} {s : fl_I} {l : fl_L} {v0 : Int32} (hb0 : (vp_in ((64 : Int32) + v0) 141)) (hb1 : ((f_X12_doesLie v0 s l) = 0) → vp_in ((64 : Int32) + v0) 141) (hb2 : ((f_X12_doesLie v0 s l) = 0) → vp_in ((132 : Int32) + (s 95 ((64 : Int32) + v0).toNatClampNeg)) 141) (hb3 : ¬ ((f_X12_doesLie v0 s l) = 0) → vp_in ((32 : Int32) + v0) 141) : ab_C G (d + 1) 0 0 M_X12_pieceDown 0 (ab_ent [.ref 60, .int v0]) [] (hp D s l) (rt (some (.int (f_X12_pieceDown v0 s l))) (hp D s l)) := by
  refine r_weak (L1 := [some (.ref 60), some (.int v0)]) ⟨rfl, rfl, trivial⟩ ?_
  refine r_aload_n rfl rfl ?_
  refine r_iload_n rfl rfl ?_
  refine q_callV0 [_] _ rfl kY_X12_doesLie kT_X12_doesLie rfl rfl (Nat.le_of_ble_eq_true rfl) (Nat.le_of_ble_eq_true rfl) (cc_60 _) (s_X12_doesLie  hb0) (fun r h q => ?_)
  obtain ⟨rfl, rfl⟩ := q
  simp only [Option.toList, List.cons_append, List.nil_append]
  refine r_if_eq rfl (fun c_5 => ?_) (fun c_5 => ?_)
  · refine r_aload_n rfl rfl ?_
    refine q_getfield rfl (cc_60 _) rfl ?_
    refine r_sipush_ (a := 132) rfl (by decide) ?_
    refine r_aload_n rfl rfl ?_
    refine q_getfield rfl (cc_60 _) rfl ?_
    refine r_bipush_ (a := 64) rfl (by decide) ?_
    refine r_iload_n rfl rfl ?_
    refine r_iadd rfl ?_
    refine q_iald rfl (cc_95 _) (hb1 c_5) ?_
    refine r_iadd rfl ?_
    refine q_iald rfl (cc_95 _) (hb2 c_5) ?_
    refine r_iret rfl rfl rfl ?_
    exact ⟨by (unfold f_X12_pieceDown; (try dsimp only); rw [if_pos c_5]), rfl⟩
  · refine r_aload_n rfl rfl ?_
    refine q_getfield rfl (cc_60 _) rfl ?_
    refine r_bipush_ (a := 32) rfl (by decide) ?_
    refine r_iload_n rfl rfl ?_
    refine r_iadd rfl ?_
    refine q_iald rfl (cc_95 _) (hb3 c_5) ?_
    refine r_goto rfl ?_
    refine r_iret rfl rfl rfl ?_
    exact ⟨by (unfold f_X12_pieceDown; (try dsimp only); rw [if_neg c_5]), rfl⟩

def f_X3_take (v0 : Int32) (s : fl_I) (l : fl_L) : Int32 × fl_I × fl_L :=
  if ((f_X3_kindNow s l) = v0) then if ((s 3 2) < (400 : Int32)) then ((1 : Int32), (su s 3 (upd (s 3) 2 ((s 3 2) + (1 : Int32)))), l) else ((f_X3_stop (2 : Int32) s l).1, (f_X3_stop (2 : Int32) s l).2.1, (f_X3_stop (2 : Int32) s l).2.2) else ((f_X3_stop (1 : Int32) s l).1, (f_X3_stop (1 : Int32) s l).2.1, (f_X3_stop (1 : Int32) s l).2.2)
set_option maxRecDepth 100000 in
set_option maxHeartbeats 4000000 in
theorem s_X3_take {G : ab_G} {d : Nat} {D : fl_D} {s : fl_I} {l : fl_L} {v0 : Int32} (hb0 : (¬ ((s 3 2) < 0) → ((s 3 2) ≤ (400 : Int32)) → vp_in (s 3 2) 401)) (hb1 : ((f_X3_kindNow s l) = v0) → ¬ ((s 3 2) < (400 : Int32)) → (¬ ((s 3 2) < 0) → ¬ ((400 : Int32) < (s 3 2)) → vp_in ((su s 3 (upd (s 3) 3 (2 : Int32))) 3 2) 401)) (hb2 : ((f_X3_kindNow s l) = v0) → ¬ ((s 3 2) < (400 : Int32)) → narrow .boolean (.int (f_X3_stop (2 : Int32) s l).1) = .int (f_X3_stop (2 : Int32) s l).1) (hb3 : ¬ ((f_X3_kindNow s l) = v0) → (¬ ((s 3 2) < 0) → ¬ ((400 : Int32) < (s 3 2)) → vp_in ((su s 3 (upd (s 3) 3 (1 : Int32))) 3 2) 401)) (hb4 : ¬ ((f_X3_kindNow s l) = v0) → narrow .boolean (.int (f_X3_stop (1 : Int32) s l).1) = .int (f_X3_stop (1 : Int32) s l).1) : ab_C G (d + 1) 0 0 M_X3_take 0 (ab_ent [.ref 3, .int v0]) [] (hp D s l) (rt (some (.int (f_X3_take v0 s l).1)) (hp D (f_X3_take v0 s l).2.1 (f_X3_take v0 s l).2.2)) := by
  refine r_weak (L1 := [some (.ref 3), some (.int v0)]) ⟨rfl, rfl, trivial⟩ ?_
  refine r_aload_n rfl rfl ?_
  refine q_callV0 [] _ rfl kY_X3_kindNow kT_X3_kindNow rfl rfl (Nat.le_of_ble_eq_true rfl) (Nat.le_of_ble_eq_true rfl) (cc_3 _) (s_X3_kindNow  hb0) (fun r h q => ?_)
  obtain ⟨rfl, rfl⟩ := q
  simp only [Option.toList, List.cons_append, List.nil_append]
  refine r_iload_n rfl rfl ?_
  refine r_icmp_eq rfl (fun c_5 => ?_) (fun c_5 => ?_)
  · refine r_aload_n rfl rfl ?_
    refine q_getfield rfl (cc_3 _) rfl ?_
    refine r_sipush_ (a := 400) rfl (by decide) ?_
    refine r_icmp_lt rfl (fun c_21 => ?_) (fun c_21 => ?_)
    · refine r_aload_n rfl rfl ?_
      refine r_dup rfl rfl ?_
      refine q_getfield rfl (cc_3 _) rfl ?_
      refine r_iconst_ (a := 1) rfl (by decide) ?_
      refine r_iadd rfl ?_
      refine w_put rfl (cc_3 _) ff_3_2 ft_3_2 (Nat.le_of_ble_eq_true rfl) rfl ?_
      refine r_iconst_ (a := 1) rfl (by decide) ?_
      refine r_iret rfl rfl rfl ?_
      exact ⟨by (unfold f_X3_take; (try dsimp only); rw [if_pos c_5, if_pos c_21]), by (unfold f_X3_take; (try dsimp only); rw [if_pos c_5, if_pos c_21])⟩
    · refine r_aload_n rfl rfl ?_
      refine r_iconst_ (a := 2) rfl (by decide) ?_
      refine q_callV0 [_] _ rfl kY_X3_stop kT_X3_stop rfl rfl (Nat.le_of_ble_eq_true rfl) (Nat.le_of_ble_eq_true rfl) (cc_3 _) (s_X3_stop  (hb1 c_5 c_21)) (fun r h q => ?_)
      obtain ⟨rfl, rfl⟩ := q
      simp only [Option.toList, List.cons_append, List.nil_append]
      refine r_iret rfl rfl (hb2 c_5 c_21) ?_
      exact ⟨by (unfold f_X3_take; (try dsimp only); rw [if_pos c_5, if_neg c_21]), by (unfold f_X3_take; (try dsimp only); rw [if_pos c_5, if_neg c_21])⟩
  · refine r_aload_n rfl rfl ?_
    refine r_iconst_ (a := 1) rfl (by decide) ?_
    refine q_callV0 [_] _ rfl kY_X3_stop kT_X3_stop rfl rfl (Nat.le_of_ble_eq_true rfl) (Nat.le_of_ble_eq_true rfl) (cc_3 _) (s_X3_stop  (hb3 c_5)) (fun r h q => ?_)
    obtain ⟨rfl, rfl⟩ := q
    simp only [Option.toList, List.cons_append, List.nil_append]
    refine r_iret rfl rfl (hb4 c_5) ?_
    exact ⟨by (unfold f_X3_take; (try dsimp only); rw [if_neg c_5]), by (unfold f_X3_take; (try dsimp only); rw [if_neg c_5])⟩

def f_X12_isRain  (s : fl_I) (l : fl_L) : Int32 :=
  if ((s 80 (s 60 18).toNatClampNeg) ≤ ((i_ushr (f_X12_mixed (f_X12_mixed (s 60 52) (145 : Int32)) ((4 : Int32) * (s 95 (140 : Int32).toNatClampNeg))) (1 : Int32)) - (i_ushr (f_X12_mixed (f_X12_mixed (s 60 52) (145 : Int32)) ((4 : Int32) * (s 95 (140 : Int32).toNatClampNeg))) (1 : Int32)) / (100 : Int32) * (100 : Int32))) then (0 : Int32) else (1 : Int32)
set_option maxRecDepth 100000 in
set_option maxHeartbeats 4000000 in
theorem s_X12_isRain {G : ab_G} {d : Nat} {D : fl_D} {s : fl_I} {l : fl_L}  (hb0 : vp_in (s 60 18) 2) : ab_C G (d + 1) 0 0 M_X12_isRain 0 (ab_ent [.ref 60]) [] (hp D s l) (rt (some (.int (f_X12_isRain  s l))) (hp D s l)) := by
  refine r_weak (L1 := [some (.ref 60)]) ⟨rfl, trivial⟩ ?_
  refine r_aload_n rfl rfl ?_
  refine q_getfield rfl (cc_60 _) rfl ?_
  refine r_sipush_ (a := 145) rfl (by decide) ?_
  refine r_callS0 [_, _] _ rfl kY_X12_mixed kT_X12_mixed rfl rfl (Nat.le_of_ble_eq_true rfl) (Nat.le_of_ble_eq_true rfl) (s_X12_mixed) (fun r h q => ?_)
  obtain ⟨rfl, rfl⟩ := q
  simp only [Option.toList, List.cons_append, List.nil_append]
  refine r_iconst_ (a := 4) rfl (by decide) ?_
  refine r_aload_n rfl rfl ?_
  refine q_getfield rfl (cc_60 _) rfl ?_
  refine r_sipush_ (a := 140) rfl (by decide) ?_
  refine q_iald rfl (cc_95 _) (by unfold vp_in; decide) ?_
  refine r_imul rfl ?_
  refine r_callS0 [_, _] _ rfl kY_X12_mixed kT_X12_mixed rfl rfl (Nat.le_of_ble_eq_true rfl) (Nat.le_of_ble_eq_true rfl) (s_X12_mixed) (fun r h q => ?_)
  obtain ⟨rfl, rfl⟩ := q
  simp only [Option.toList, List.cons_append, List.nil_append]
  refine r_iconst_ (a := 1) rfl (by decide) ?_
  refine r_iushr rfl ?_
  refine r_bipush_ (a := 100) rfl (by decide) ?_
  refine r_irem rfl (by decide) ?_
  refine r_aload_n rfl rfl ?_
  refine q_getfield rfl (cc_60 _) rfl ?_
  refine r_aload_n rfl rfl ?_
  refine q_getfield rfl (cc_60 _) rfl ?_
  refine q_iald rfl (cc_80 _) hb0 ?_
  refine r_icmp_ge rfl (fun c_37 => ?_) (fun c_37 => ?_)
  · refine r_iconst_ (a := 0) rfl (by decide) ?_
    refine r_iret rfl rfl rfl ?_
    exact ⟨by (unfold f_X12_isRain; (try dsimp only); rw [if_pos c_37]), rfl⟩
  · refine r_iconst_ (a := 1) rfl (by decide) ?_
    refine r_goto rfl ?_
    refine r_iret rfl rfl rfl ?_
    exact ⟨by (unfold f_X12_isRain; (try dsimp only); rw [if_neg c_37]), rfl⟩

def f_X7_add (v0 : Int32) (v1 : Int32) (s : fl_I) (l : fl_L) : Int32 × fl_I × fl_L :=
  if ((s 57 0) < 0) then ((-1 : Int32), s, l) else if ((s 57 0) < (20 : Int32)) then if (v1 = 0) then ((((su (su s 58 (upd (s 58) (s 57 0).toNatClampNeg (-v0))) 57 (upd ((su s 58 (upd (s 58) (s 57 0).toNatClampNeg (-v0))) 57) 0 (((su s 58 (upd (s 58) (s 57 0).toNatClampNeg (-v0))) 57 0) + (1 : Int32)))) 57 0) - (1 : Int32)), (su (su s 58 (upd (s 58) (s 57 0).toNatClampNeg (-v0))) 57 (upd ((su s 58 (upd (s 58) (s 57 0).toNatClampNeg (-v0))) 57) 0 (((su s 58 (upd (s 58) (s 57 0).toNatClampNeg (-v0))) 57 0) + (1 : Int32)))), l) else ((((su (su s 58 (upd (s 58) (s 57 0).toNatClampNeg v0)) 57 (upd ((su s 58 (upd (s 58) (s 57 0).toNatClampNeg v0)) 57) 0 (((su s 58 (upd (s 58) (s 57 0).toNatClampNeg v0)) 57 0) + (1 : Int32)))) 57 0) - (1 : Int32)), (su (su s 58 (upd (s 58) (s 57 0).toNatClampNeg v0)) 57 (upd ((su s 58 (upd (s 58) (s 57 0).toNatClampNeg v0)) 57) 0 (((su s 58 (upd (s 58) (s 57 0).toNatClampNeg v0)) 57 0) + (1 : Int32)))), l) else ((-1 : Int32), s, l)
set_option maxRecDepth 100000 in
set_option maxHeartbeats 4000000 in
theorem s_X7_add {G : ab_G} {d : Nat} {D : fl_D} {s : fl_I} {l : fl_L} {v0 : Int32} {v1 : Int32} (hb0 : ¬ ((s 57 0) < 0) → ((s 57 0) < (20 : Int32)) → (v1 = 0) → vp_in (s 57 0) 20) (hb1 : ¬ ((s 57 0) < 0) → ((s 57 0) < (20 : Int32)) → ¬ (v1 = 0) → vp_in (s 57 0) 20) : ab_C G d 0 0 M_X7_add 0 (ab_ent [.ref 57, .int v0, .int v1]) [] (hp D s l) (rt (some (.int (f_X7_add v0 v1 s l).1)) (hp D (f_X7_add v0 v1 s l).2.1 (f_X7_add v0 v1 s l).2.2)) := by
  refine r_weak (L1 := [some (.ref 57), some (.int v0), some (.int v1)]) ⟨rfl, rfl, rfl, trivial⟩ ?_
  refine r_aload_n rfl rfl ?_
  refine q_getfield rfl (cc_57 _) rfl ?_
  refine r_if_lt rfl (fun c_4 => ?_) (fun c_4 => ?_)
  · refine r_iconst_ (a := -1) rfl (by decide) ?_
    refine r_iret rfl rfl rfl ?_
    exact ⟨by (unfold f_X7_add; (try dsimp only); rw [if_pos c_4]), by (unfold f_X7_add; (try dsimp only); rw [if_pos c_4])⟩
  · refine r_aload_n rfl rfl ?_
    refine q_getfield rfl (cc_57 _) rfl ?_
    refine r_bipush_ (a := 20) rfl (by decide) ?_
    refine r_icmp_lt rfl (fun c_13 => ?_) (fun c_13 => ?_)
    · refine r_aload_n rfl rfl ?_
      refine q_getfield rfl (cc_57 _) rfl ?_
      refine r_aload_n rfl rfl ?_
      refine q_getfield rfl (cc_57 _) rfl ?_
      refine r_iload_n rfl rfl ?_
      refine r_if_eq rfl (fun c_27 => ?_) (fun c_27 => ?_)
      · refine r_iload_n rfl rfl ?_
        refine r_ineg rfl ?_
        refine w_iast rfl (cc_58 _) (hb0 c_4 c_13 c_27) ?_
        refine r_aload_n rfl rfl ?_
        refine r_dup rfl rfl ?_
        refine q_getfield rfl (cc_57 _) rfl ?_
        refine r_iconst_ (a := 1) rfl (by decide) ?_
        refine r_iadd rfl ?_
        refine w_put rfl (cc_57 _) ff_7_0 ft_7_0 (Nat.le_of_ble_eq_true rfl) rfl ?_
        refine r_aload_n rfl rfl ?_
        refine q_getfield rfl (cc_57 _) rfl ?_
        refine r_iconst_ (a := 1) rfl (by decide) ?_
        refine r_isub rfl ?_
        refine r_iret rfl rfl rfl ?_
        exact ⟨by (unfold f_X7_add; (try dsimp only); rw [if_neg c_4, if_pos c_13, if_pos c_27]), by (unfold f_X7_add; (try dsimp only); rw [if_neg c_4, if_pos c_13, if_pos c_27])⟩
      · refine r_iload_n rfl rfl ?_
        refine r_goto rfl ?_
        refine w_iast rfl (cc_58 _) (hb1 c_4 c_13 c_27) ?_
        refine r_aload_n rfl rfl ?_
        refine r_dup rfl rfl ?_
        refine q_getfield rfl (cc_57 _) rfl ?_
        refine r_iconst_ (a := 1) rfl (by decide) ?_
        refine r_iadd rfl ?_
        refine w_put rfl (cc_57 _) ff_7_0 ft_7_0 (Nat.le_of_ble_eq_true rfl) rfl ?_
        refine r_aload_n rfl rfl ?_
        refine q_getfield rfl (cc_57 _) rfl ?_
        refine r_iconst_ (a := 1) rfl (by decide) ?_
        refine r_isub rfl ?_
        refine r_iret rfl rfl rfl ?_
        exact ⟨by (unfold f_X7_add; (try dsimp only); rw [if_neg c_4, if_pos c_13, if_neg c_27]), by (unfold f_X7_add; (try dsimp only); rw [if_neg c_4, if_pos c_13, if_neg c_27])⟩
    · refine r_iconst_ (a := -1) rfl (by decide) ?_
      refine r_iret rfl rfl rfl ?_
      exact ⟨by (unfold f_X7_add; (try dsimp only); rw [if_neg c_4, if_neg c_13]), by (unfold f_X7_add; (try dsimp only); rw [if_neg c_4, if_neg c_13])⟩

def f_X12_token (v0 : Int32) (v1 : Int32) (v2 : Int32) (v3 : Int64) (s : fl_I) (l : fl_L) : fl_I × fl_L :=
  ((su (su (su (su s 63 (upd (s 63) (s 60 10).toNatClampNeg v0)) 64 (upd ((su s 63 (upd (s 63) (s 60 10).toNatClampNeg v0)) 64) ((su s 63 (upd (s 63) (s 60 10).toNatClampNeg v0)) 60 10).toNatClampNeg v1)) 65 (upd ((su (su s 63 (upd (s 63) (s 60 10).toNatClampNeg v0)) 64 (upd ((su s 63 (upd (s 63) (s 60 10).toNatClampNeg v0)) 64) ((su s 63 (upd (s 63) (s 60 10).toNatClampNeg v0)) 60 10).toNatClampNeg v1)) 65) ((su (su s 63 (upd (s 63) (s 60 10).toNatClampNeg v0)) 64 (upd ((su s 63 (upd (s 63) (s 60 10).toNatClampNeg v0)) 64) ((su s 63 (upd (s 63) (s 60 10).toNatClampNeg v0)) 60 10).toNatClampNeg v1)) 60 10).toNatClampNeg v2)) 60 (upd ((su (su (su s 63 (upd (s 63) (s 60 10).toNatClampNeg v0)) 64 (upd ((su s 63 (upd (s 63) (s 60 10).toNatClampNeg v0)) 64) ((su s 63 (upd (s 63) (s 60 10).toNatClampNeg v0)) 60 10).toNatClampNeg v1)) 65 (upd ((su (su s 63 (upd (s 63) (s 60 10).toNatClampNeg v0)) 64 (upd ((su s 63 (upd (s 63) (s 60 10).toNatClampNeg v0)) 64) ((su s 63 (upd (s 63) (s 60 10).toNatClampNeg v0)) 60 10).toNatClampNeg v1)) 65) ((su (su s 63 (upd (s 63) (s 60 10).toNatClampNeg v0)) 64 (upd ((su s 63 (upd (s 63) (s 60 10).toNatClampNeg v0)) 64) ((su s 63 (upd (s 63) (s 60 10).toNatClampNeg v0)) 60 10).toNatClampNeg v1)) 60 10).toNatClampNeg v2)) 60) 10 (((su (su (su s 63 (upd (s 63) (s 60 10).toNatClampNeg v0)) 64 (upd ((su s 63 (upd (s 63) (s 60 10).toNatClampNeg v0)) 64) ((su s 63 (upd (s 63) (s 60 10).toNatClampNeg v0)) 60 10).toNatClampNeg v1)) 65 (upd ((su (su s 63 (upd (s 63) (s 60 10).toNatClampNeg v0)) 64 (upd ((su s 63 (upd (s 63) (s 60 10).toNatClampNeg v0)) 64) ((su s 63 (upd (s 63) (s 60 10).toNatClampNeg v0)) 60 10).toNatClampNeg v1)) 65) ((su (su s 63 (upd (s 63) (s 60 10).toNatClampNeg v0)) 64 (upd ((su s 63 (upd (s 63) (s 60 10).toNatClampNeg v0)) 64) ((su s 63 (upd (s 63) (s 60 10).toNatClampNeg v0)) 60 10).toNatClampNeg v1)) 60 10).toNatClampNeg v2)) 60 10) + (1 : Int32)))), (sl l 66 (vp_updL (l 66) ((su (su (su s 63 (upd (s 63) (s 60 10).toNatClampNeg v0)) 64 (upd ((su s 63 (upd (s 63) (s 60 10).toNatClampNeg v0)) 64) ((su s 63 (upd (s 63) (s 60 10).toNatClampNeg v0)) 60 10).toNatClampNeg v1)) 65 (upd ((su (su s 63 (upd (s 63) (s 60 10).toNatClampNeg v0)) 64 (upd ((su s 63 (upd (s 63) (s 60 10).toNatClampNeg v0)) 64) ((su s 63 (upd (s 63) (s 60 10).toNatClampNeg v0)) 60 10).toNatClampNeg v1)) 65) ((su (su s 63 (upd (s 63) (s 60 10).toNatClampNeg v0)) 64 (upd ((su s 63 (upd (s 63) (s 60 10).toNatClampNeg v0)) 64) ((su s 63 (upd (s 63) (s 60 10).toNatClampNeg v0)) 60 10).toNatClampNeg v1)) 60 10).toNatClampNeg v2)) 60 10).toNatClampNeg v3)))
set_option maxRecDepth 100000 in
set_option maxHeartbeats 4000000 in
theorem s_X12_token {G : ab_G} {d : Nat} {D : fl_D} {s : fl_I} {l : fl_L} {v0 : Int32} {v1 : Int32} {v2 : Int32} {v3 : Int64} (hb0 : vp_in (s 60 10) 403) (hb1 : vp_in ((su s 63 (upd (s 63) (s 60 10).toNatClampNeg v0)) 60 10) 403) (hb2 : vp_in ((su (su s 63 (upd (s 63) (s 60 10).toNatClampNeg v0)) 64 (upd ((su s 63 (upd (s 63) (s 60 10).toNatClampNeg v0)) 64) ((su s 63 (upd (s 63) (s 60 10).toNatClampNeg v0)) 60 10).toNatClampNeg v1)) 60 10) 403) (hb3 : vp_in ((su (su (su s 63 (upd (s 63) (s 60 10).toNatClampNeg v0)) 64 (upd ((su s 63 (upd (s 63) (s 60 10).toNatClampNeg v0)) 64) ((su s 63 (upd (s 63) (s 60 10).toNatClampNeg v0)) 60 10).toNatClampNeg v1)) 65 (upd ((su (su s 63 (upd (s 63) (s 60 10).toNatClampNeg v0)) 64 (upd ((su s 63 (upd (s 63) (s 60 10).toNatClampNeg v0)) 64) ((su s 63 (upd (s 63) (s 60 10).toNatClampNeg v0)) 60 10).toNatClampNeg v1)) 65) ((su (su s 63 (upd (s 63) (s 60 10).toNatClampNeg v0)) 64 (upd ((su s 63 (upd (s 63) (s 60 10).toNatClampNeg v0)) 64) ((su s 63 (upd (s 63) (s 60 10).toNatClampNeg v0)) 60 10).toNatClampNeg v1)) 60 10).toNatClampNeg v2)) 60 10) 403) : ab_C G d 0 0 M_X12_token 0 (ab_ent [.ref 60, .int v0, .int v1, .int v2, .long v3]) [] (hp D s l) (rt (none) (hp D (f_X12_token v0 v1 v2 v3 s l).1 (f_X12_token v0 v1 v2 v3 s l).2)) := by
  refine r_weak (L1 := [some (.ref 60), some (.int v0), some (.int v1), some (.int v2), some (.long v3), none]) ⟨rfl, rfl, rfl, rfl, rfl, trivial⟩ ?_
  refine r_aload_n rfl rfl ?_
  refine q_getfield rfl (cc_60 _) rfl ?_
  refine r_aload_n rfl rfl ?_
  refine q_getfield rfl (cc_60 _) rfl ?_
  refine r_iload_n rfl rfl ?_
  refine w_iast rfl (cc_63 _) hb0 ?_
  refine r_aload_n rfl rfl ?_
  refine q_getfield rfl (cc_60 _) rfl ?_
  refine r_aload_n rfl rfl ?_
  refine q_getfield rfl (cc_60 _) rfl ?_
  refine r_iload_n rfl rfl ?_
  refine w_iast rfl (cc_64 _) hb1 ?_
  refine r_aload_n rfl rfl ?_
  refine q_getfield rfl (cc_60 _) rfl ?_
  refine r_aload_n rfl rfl ?_
  refine q_getfield rfl (cc_60 _) rfl ?_
  refine r_iload_n rfl rfl ?_
  refine w_iast rfl (cc_65 _) hb2 ?_
  refine r_aload_n rfl rfl ?_
  refine q_getfield rfl (cc_60 _) rfl ?_
  refine r_aload_n rfl rfl ?_
  refine q_getfield rfl (cc_60 _) rfl ?_
  refine r_lload rfl rfl ?_
  refine w_last rfl (cc_66 _) hb3 ?_
  refine r_aload_n rfl rfl ?_
  refine r_dup rfl rfl ?_
  refine q_getfield rfl (cc_60 _) rfl ?_
  refine r_iconst_ (a := 1) rfl (by decide) ?_
  refine r_iadd rfl ?_
  refine w_put rfl (cc_60 _) ff_12_10 ft_12_10 (Nat.le_of_ble_eq_true rfl) rfl ?_
  refine r_ret rfl rfl ?_
  exact ⟨rfl, rfl⟩

def f_X12_wrong (v0 : Int32) (v1 : Int32) (s : fl_I) (l : fl_L) : fl_I × fl_L :=
  if (0 < (s 60 13)) then (s, l) else if ((s 60 15) = 0) then ((su (su s 60 (upd (s 60) 15 v0)) 60 (upd ((su s 60 (upd (s 60) 15 v0)) 60) 16 (s 64 v1.toNatClampNeg))), l) else if ((s 60 16) < (s 64 v1.toNatClampNeg)) then (s, l) else if ((s 64 v1.toNatClampNeg) = (s 60 16)) then if (v0 < (s 60 15)) then ((su (su s 60 (upd (s 60) 15 v0)) 60 (upd ((su s 60 (upd (s 60) 15 v0)) 60) 16 (s 64 v1.toNatClampNeg))), l) else (s, l) else ((su (su s 60 (upd (s 60) 15 v0)) 60 (upd ((su s 60 (upd (s 60) 15 v0)) 60) 16 (s 64 v1.toNatClampNeg))), l)
set_option maxRecDepth 100000 in
set_option maxHeartbeats 4000000 in
theorem s_X12_wrong {G : ab_G} {d : Nat} {D : fl_D} {s : fl_I} {l : fl_L} {v0 : Int32} {v1 : Int32} (hb0 : vp_in v1 403) : ab_C G d 0 0 M_X12_wrong 0 (ab_ent [.ref 60, .int v0, .int v1]) [] (hp D s l) (rt (none) (hp D (f_X12_wrong v0 v1 s l).1 (f_X12_wrong v0 v1 s l).2)) := by
  refine r_weak (L1 := [some (.ref 60), some (.int v0), some (.int v1), none]) ⟨rfl, rfl, rfl, trivial⟩ ?_
  refine r_aload_n rfl rfl ?_
  refine q_getfield rfl (cc_60 _) rfl ?_
  refine r_iload_n rfl rfl ?_
  refine q_iald rfl (cc_64 _) hb0 ?_
  refine r_istore_n rfl (Nat.le_of_ble_eq_true rfl) rfl ?_
  refine r_aload_n rfl rfl ?_
  refine q_getfield rfl (cc_60 _) rfl ?_
  refine r_if_gt rfl (fun c_11 => ?_) (fun c_11 => ?_)
  · refine r_ret rfl rfl ?_
    exact ⟨rfl, by (unfold f_X12_wrong; (try dsimp only); rw [if_pos c_11])⟩
  · refine r_aload_n rfl rfl ?_
    refine q_getfield rfl (cc_60 _) rfl ?_
    refine r_if_eq rfl (fun c_18 => ?_) (fun c_18 => ?_)
    · refine r_aload_n rfl rfl ?_
      refine r_iload_n rfl rfl ?_
      refine w_put rfl (cc_60 _) ff_12_15 ft_12_15 (Nat.le_of_ble_eq_true rfl) rfl ?_
      refine r_aload_n rfl rfl ?_
      refine r_iload_n rfl rfl ?_
      refine w_put rfl (cc_60 _) ff_12_16 ft_12_16 (Nat.le_of_ble_eq_true rfl) rfl ?_
      refine r_ret rfl rfl ?_
      exact ⟨rfl, by (unfold f_X12_wrong; (try dsimp only); rw [if_neg c_11, if_pos c_18])⟩
    · refine r_iload_n rfl rfl ?_
      refine r_aload_n rfl rfl ?_
      refine q_getfield rfl (cc_60 _) rfl ?_
      refine r_icmp_gt rfl (fun c_26 => ?_) (fun c_26 => ?_)
      · refine r_ret rfl rfl ?_
        exact ⟨rfl, by (unfold f_X12_wrong; (try dsimp only); rw [if_neg c_11, if_neg c_18, if_pos c_26])⟩
      · refine r_iload_n rfl rfl ?_
        refine r_aload_n rfl rfl ?_
        refine q_getfield rfl (cc_60 _) rfl ?_
        refine r_icmp_ne rfl (fun c_34 => ?_) (fun c_34 => ?_)
        · refine r_aload_n rfl rfl ?_
          refine r_iload_n rfl rfl ?_
          refine w_put rfl (cc_60 _) ff_12_15 ft_12_15 (Nat.le_of_ble_eq_true rfl) rfl ?_
          refine r_aload_n rfl rfl ?_
          refine r_iload_n rfl rfl ?_
          refine w_put rfl (cc_60 _) ff_12_16 ft_12_16 (Nat.le_of_ble_eq_true rfl) rfl ?_
          refine r_ret rfl rfl ?_
          exact ⟨rfl, by (unfold f_X12_wrong; (try dsimp only); rw [if_neg c_11, if_neg c_18, if_neg c_26, if_neg c_34])⟩
        · refine r_iload_n rfl rfl ?_
          refine r_aload_n rfl rfl ?_
          refine q_getfield rfl (cc_60 _) rfl ?_
          refine r_icmp_lt rfl (fun c_42 => ?_) (fun c_42 => ?_)
          · refine r_aload_n rfl rfl ?_
            refine r_iload_n rfl rfl ?_
            refine w_put rfl (cc_60 _) ff_12_15 ft_12_15 (Nat.le_of_ble_eq_true rfl) rfl ?_
            refine r_aload_n rfl rfl ?_
            refine r_iload_n rfl rfl ?_
            refine w_put rfl (cc_60 _) ff_12_16 ft_12_16 (Nat.le_of_ble_eq_true rfl) rfl ?_
            refine r_ret rfl rfl ?_
            exact ⟨rfl, by (unfold f_X12_wrong; (try dsimp only); rw [if_neg c_11, if_neg c_18, if_neg c_26, if_pos c_34, if_pos c_42])⟩
          · refine r_ret rfl rfl ?_
            exact ⟨rfl, by (unfold f_X12_wrong; (try dsimp only); rw [if_neg c_11, if_neg c_18, if_neg c_26, if_pos c_34, if_neg c_42])⟩

def f_X5_addPicker (v0 : Int64) (v1 : Int32) (v2 : Int32) (t : Nat) (s : fl_I) (l : fl_L) : fl_I × fl_L :=
  if ((s t 2) < 0) then (s, l) else if ((4 : Int32) ≤ (s t 2)) then (s, l) else ((su (su (su s (t + 7) (upd (s (t + 7)) (s t 2).toNatClampNeg v1)) (t + 8) (upd ((su s (t + 7) (upd (s (t + 7)) (s t 2).toNatClampNeg v1)) (t + 8)) ((su s (t + 7) (upd (s (t + 7)) (s t 2).toNatClampNeg v1)) t 2).toNatClampNeg v2)) t (upd ((su (su s (t + 7) (upd (s (t + 7)) (s t 2).toNatClampNeg v1)) (t + 8) (upd ((su s (t + 7) (upd (s (t + 7)) (s t 2).toNatClampNeg v1)) (t + 8)) ((su s (t + 7) (upd (s (t + 7)) (s t 2).toNatClampNeg v1)) t 2).toNatClampNeg v2)) t) 2 (((su (su s (t + 7) (upd (s (t + 7)) (s t 2).toNatClampNeg v1)) (t + 8) (upd ((su s (t + 7) (upd (s (t + 7)) (s t 2).toNatClampNeg v1)) (t + 8)) ((su s (t + 7) (upd (s (t + 7)) (s t 2).toNatClampNeg v1)) t 2).toNatClampNeg v2)) t 2) + (1 : Int32)))), (sl l (t + 3) (vp_updL (l (t + 3)) (s t 2).toNatClampNeg v0)))
set_option maxRecDepth 100000 in
set_option maxHeartbeats 4000000 in
theorem s_X5_addPicker {G : ab_G} {d : Nat} {D : fl_D} {s : fl_I} {l : fl_L} {t : Nat} (ht : isT t) {v0 : Int64} {v1 : Int32} {v2 : Int32} (hb0 : ¬ ((s t 2) < 0) → ¬ ((4 : Int32) ≤ (s t 2)) → vp_in (s t 2) 4) (hb1 : ¬ ((s t 2) < 0) → ¬ ((4 : Int32) ≤ (s t 2)) → vp_in (s t 2) 4) (hb2 : ¬ ((s t 2) < 0) → ¬ ((4 : Int32) ≤ (s t 2)) → vp_in ((su s (t + 7) (upd (s (t + 7)) (s t 2).toNatClampNeg v1)) t 2) 4) : ab_C G d 0 0 M_X5_addPicker 0 (ab_ent [.ref t, .long v0, .int v1, .int v2]) [] (hp D s l) (rt (none) (hp D (f_X5_addPicker v0 v1 v2 t s l).1 (f_X5_addPicker v0 v1 v2 t s l).2)) := by
  refine r_weak (L1 := [some (.ref t), some (.long v0), none, some (.int v1), some (.int v2)]) ⟨rfl, rfl, rfl, rfl, trivial⟩ ?_
  refine r_aload_n rfl rfl ?_
  refine q_getfield rfl (cT_0 ht) rfl ?_
  refine r_if_lt rfl (fun c_4 => ?_) (fun c_4 => ?_)
  · refine r_ret rfl rfl ?_
    exact ⟨rfl, by (unfold f_X5_addPicker; (try dsimp only); rw [if_pos c_4])⟩
  · refine r_aload_n rfl rfl ?_
    refine q_getfield rfl (cT_0 ht) rfl ?_
    refine r_iconst_ (a := 4) rfl (by decide) ?_
    refine r_icmp_ge rfl (fun c_12 => ?_) (fun c_12 => ?_)
    · refine r_ret rfl rfl ?_
      exact ⟨rfl, by (unfold f_X5_addPicker; (try dsimp only); rw [if_neg c_4, if_pos c_12])⟩
    · refine r_aload_n rfl rfl ?_
      refine q_getfield rfl (cT_0 ht) rfl ?_
      refine r_aload_n rfl rfl ?_
      refine q_getfield rfl (cT_0 ht) rfl ?_
      refine r_lload_n rfl rfl ?_
      refine w_last rfl (cT_3 ht) (hb0 c_4 c_12) ?_
      refine r_aload_n rfl rfl ?_
      refine q_getfield rfl (cT_0 ht) rfl ?_
      refine r_aload_n rfl rfl ?_
      refine q_getfield rfl (cT_0 ht) rfl ?_
      refine r_iload_n rfl rfl ?_
      refine w_iast rfl (cT_7 ht) (hb1 c_4 c_12) ?_
      refine r_aload_n rfl rfl ?_
      refine q_getfield rfl (cT_0 ht) rfl ?_
      refine r_aload_n rfl rfl ?_
      refine q_getfield rfl (cT_0 ht) rfl ?_
      refine r_iload rfl rfl ?_
      refine w_iast rfl (cT_8 ht) (hb2 c_4 c_12) ?_
      refine r_aload_n rfl rfl ?_
      refine r_dup rfl rfl ?_
      refine q_getfield rfl (cT_0 ht) rfl ?_
      refine r_iconst_ (a := 1) rfl (by decide) ?_
      refine r_iadd rfl ?_
      refine w_put rfl (cT_0 ht) ff_5_2 ft_5_2 (Nat.le_of_ble_eq_true rfl) rfl ?_
      refine r_ret rfl rfl ?_
      exact ⟨rfl, by (unfold f_X5_addPicker; (try dsimp only); rw [if_neg c_4, if_neg c_12])⟩

def f_X12_bounded (v0 : Int32) (v1 : Int32) (s : fl_I) (l : fl_L) : Int32 × fl_I × fl_L :=
  if (0 < (s 60 13)) then (v0, (f_X12_fail (1 : Int32) s l).1, (f_X12_fail (1 : Int32) s l).2) else if ((f_X12_is (2 : Int32) s l) = 0) then (v0, (f_X12_fail (1 : Int32) s l).1, (f_X12_fail (1 : Int32) s l).2) else if ((s 65 (s 60 11).toNatClampNeg) < v0) then ((s 65 (s 60 11).toNatClampNeg), (f_X12_goesOn (f_X12_wrong (5 : Int32) (s 60 11) s l).1 (f_X12_wrong (5 : Int32) (s 60 11) s l).2).1, (f_X12_goesOn (f_X12_wrong (5 : Int32) (s 60 11) s l).1 (f_X12_wrong (5 : Int32) (s 60 11) s l).2).2) else if ((s 65 (s 60 11).toNatClampNeg) ≤ v1) then ((s 65 (s 60 11).toNatClampNeg), (f_X12_goesOn s l).1, (f_X12_goesOn s l).2) else ((s 65 (s 60 11).toNatClampNeg), (f_X12_goesOn (f_X12_wrong (5 : Int32) (s 60 11) s l).1 (f_X12_wrong (5 : Int32) (s 60 11) s l).2).1, (f_X12_goesOn (f_X12_wrong (5 : Int32) (s 60 11) s l).1 (f_X12_wrong (5 : Int32) (s 60 11) s l).2).2)
set_option maxRecDepth 100000 in
set_option maxHeartbeats 4000000 in
theorem s_X12_bounded {G : ab_G} {d : Nat} {D : fl_D} {s : fl_I} {l : fl_L} {v0 : Int32} {v1 : Int32} (hb0 : (0 < (s 60 13)) → (((s 60 13) ≤ 0) → vp_in ((su s 60 (upd (s 60) 13 (1 : Int32))) 60 11) 403)) (hb1 : ¬ (0 < (s 60 13)) → (((s 60 13) = 0) → vp_in (s 60 11) 403)) (hb2 : ¬ (0 < (s 60 13)) → ¬ ((f_X12_is (2 : Int32) s l) = 0) → vp_in (s 60 11) 403) (hb3 : ¬ (0 < (s 60 13)) → ¬ ((f_X12_is (2 : Int32) s l) = 0) → ((s 65 (s 60 11).toNatClampNeg) < v0) → (vp_in (s 60 11) 403)) (hb4 : ¬ (0 < (s 60 13)) → ¬ ((f_X12_is (2 : Int32) s l) = 0) → ((s 65 (s 60 11).toNatClampNeg) < v0) → ((((f_X12_wrong (5 : Int32) (s 60 11) s l).1 60 11) = (400 : Int32)) → ((((f_X12_wrong (5 : Int32) (s 60 11) s l).1 60 13) ≤ 0) → vp_in ((su (f_X12_wrong (5 : Int32) (s 60 11) s l).1 60 (upd ((f_X12_wrong (5 : Int32) (s 60 11) s l).1 60) 13 (2 : Int32))) 60 11) 403))) (hb5 : ¬ (0 < (s 60 13)) → ¬ ((f_X12_is (2 : Int32) s l) = 0) → ¬ ((s 65 (s 60 11).toNatClampNeg) < v0) → ((s 65 (s 60 11).toNatClampNeg) ≤ v1) → (((s 60 11) = (400 : Int32)) → (((s 60 13) ≤ 0) → vp_in ((su s 60 (upd (s 60) 13 (2 : Int32))) 60 11) 403))) (hb6 : ¬ (0 < (s 60 13)) → ¬ ((f_X12_is (2 : Int32) s l) = 0) → ¬ ((s 65 (s 60 11).toNatClampNeg) < v0) → ¬ ((s 65 (s 60 11).toNatClampNeg) ≤ v1) → (vp_in (s 60 11) 403)) (hb7 : ¬ (0 < (s 60 13)) → ¬ ((f_X12_is (2 : Int32) s l) = 0) → ¬ ((s 65 (s 60 11).toNatClampNeg) < v0) → ¬ ((s 65 (s 60 11).toNatClampNeg) ≤ v1) → ((((f_X12_wrong (5 : Int32) (s 60 11) s l).1 60 11) = (400 : Int32)) → ((((f_X12_wrong (5 : Int32) (s 60 11) s l).1 60 13) ≤ 0) → vp_in ((su (f_X12_wrong (5 : Int32) (s 60 11) s l).1 60 (upd ((f_X12_wrong (5 : Int32) (s 60 11) s l).1 60) 13 (2 : Int32))) 60 11) 403))) (hb8 : ¬ (0 < (s 60 13)) → ((f_X12_is (2 : Int32) s l) = 0) → (((s 60 13) ≤ 0) → vp_in ((su s 60 (upd (s 60) 13 (1 : Int32))) 60 11) 403)) : ab_C G (d + 2) 0 0 M_X12_bounded 0 (ab_ent [.ref 60, .int v0, .int v1]) [] (hp D s l) (rt (some (.int (f_X12_bounded v0 v1 s l).1)) (hp D (f_X12_bounded v0 v1 s l).2.1 (f_X12_bounded v0 v1 s l).2.2)) := by
  refine r_weak (L1 := [some (.ref 60), some (.int v0), some (.int v1), none]) ⟨rfl, rfl, rfl, trivial⟩ ?_
  refine r_aload_n rfl rfl ?_
  refine q_getfield rfl (cc_60 _) rfl ?_
  refine r_if_gt rfl (fun c_4 => ?_) (fun c_4 => ?_)
  · refine r_aload_n rfl rfl ?_
    refine r_iconst_ (a := 1) rfl (by decide) ?_
    refine q_callV0 [_] _ rfl kY_X12_fail kT_X12_fail rfl rfl (Nat.le_of_ble_eq_true rfl) (Nat.le_of_ble_eq_true rfl) (cc_60 _) (s_X12_fail  (hb0 c_4)) (fun r h q => ?_)
    obtain ⟨rfl, rfl⟩ := q
    simp only [Option.toList, List.cons_append, List.nil_append]
    refine r_iload_n rfl rfl ?_
    refine r_iret rfl rfl rfl ?_
    exact ⟨by (unfold f_X12_bounded; (try dsimp only); rw [if_pos c_4]), by (unfold f_X12_bounded; (try dsimp only); rw [if_pos c_4])⟩
  · refine r_aload_n rfl rfl ?_
    refine r_iconst_ (a := 2) rfl (by decide) ?_
    refine q_callV0 [_] _ rfl kY_X12_is kT_X12_is rfl rfl (Nat.le_of_ble_eq_true rfl) (Nat.le_of_ble_eq_true rfl) (cc_60 _) (s_X12_is  (hb1 c_4)) (fun r h q => ?_)
    obtain ⟨rfl, rfl⟩ := q
    simp only [Option.toList, List.cons_append, List.nil_append]
    refine r_if_ne rfl (fun c_12 => ?_) (fun c_12 => ?_)
    · refine r_aload_n rfl rfl ?_
      refine q_getfield rfl (cc_60 _) rfl ?_
      refine r_aload_n rfl rfl ?_
      refine q_getfield rfl (cc_60 _) rfl ?_
      refine q_iald rfl (cc_65 _) (hb2 c_4 c_12) ?_
      refine r_istore_n rfl (Nat.le_of_ble_eq_true rfl) rfl ?_
      refine r_iload_n rfl rfl ?_
      refine r_iload_n rfl rfl ?_
      refine r_icmp_lt rfl (fun c_34 => ?_) (fun c_34 => ?_)
      · refine r_aload_n rfl rfl ?_
        refine r_iconst_ (a := 5) rfl (by decide) ?_
        refine r_aload_n rfl rfl ?_
        refine q_getfield rfl (cc_60 _) rfl ?_
        refine q_callV0 [_, _] _ rfl kY_X12_wrong kT_X12_wrong rfl rfl (Nat.le_of_ble_eq_true rfl) (Nat.le_of_ble_eq_true rfl) (cc_60 _) (s_X12_wrong  (hb3 c_4 c_12 c_34)) (fun r h q => ?_)
        obtain ⟨rfl, rfl⟩ := q
        simp only [Option.toList, List.cons_append, List.nil_append]
        refine r_aload_n rfl rfl ?_
        refine q_callV0 [] _ rfl kY_X12_goesOn kT_X12_goesOn rfl rfl (Nat.le_of_ble_eq_true rfl) (Nat.le_of_ble_eq_true rfl) (cc_60 _) (s_X12_goesOn  (hb4 c_4 c_12 c_34)) (fun r h q => ?_)
        obtain ⟨rfl, rfl⟩ := q
        simp only [Option.toList, List.cons_append, List.nil_append]
        refine r_iload_n rfl rfl ?_
        refine r_iret rfl rfl rfl ?_
        exact ⟨by (unfold f_X12_bounded; (try dsimp only); rw [if_neg c_4, if_neg c_12, if_pos c_34]), by (unfold f_X12_bounded; (try dsimp only); rw [if_neg c_4, if_neg c_12, if_pos c_34])⟩
      · refine r_iload_n rfl rfl ?_
        refine r_iload_n rfl rfl ?_
        refine r_icmp_le rfl (fun c_39 => ?_) (fun c_39 => ?_)
        · refine r_aload_n rfl rfl ?_
          refine q_callV0 [] _ rfl kY_X12_goesOn kT_X12_goesOn rfl rfl (Nat.le_of_ble_eq_true rfl) (Nat.le_of_ble_eq_true rfl) (cc_60 _) (s_X12_goesOn  (hb5 c_4 c_12 c_34 c_39)) (fun r h q => ?_)
          obtain ⟨rfl, rfl⟩ := q
          simp only [Option.toList, List.cons_append, List.nil_append]
          refine r_iload_n rfl rfl ?_
          refine r_iret rfl rfl rfl ?_
          exact ⟨by (unfold f_X12_bounded; (try dsimp only); rw [if_neg c_4, if_neg c_12, if_neg c_34, if_pos c_39]), by (unfold f_X12_bounded; (try dsimp only); rw [if_neg c_4, if_neg c_12, if_neg c_34, if_pos c_39])⟩
        · refine r_aload_n rfl rfl ?_
          refine r_iconst_ (a := 5) rfl (by decide) ?_
          refine r_aload_n rfl rfl ?_
          refine q_getfield rfl (cc_60 _) rfl ?_
          refine q_callV0 [_, _] _ rfl kY_X12_wrong kT_X12_wrong rfl rfl (Nat.le_of_ble_eq_true rfl) (Nat.le_of_ble_eq_true rfl) (cc_60 _) (s_X12_wrong  (hb6 c_4 c_12 c_34 c_39)) (fun r h q => ?_)
          obtain ⟨rfl, rfl⟩ := q
          simp only [Option.toList, List.cons_append, List.nil_append]
          refine r_aload_n rfl rfl ?_
          refine q_callV0 [] _ rfl kY_X12_goesOn kT_X12_goesOn rfl rfl (Nat.le_of_ble_eq_true rfl) (Nat.le_of_ble_eq_true rfl) (cc_60 _) (s_X12_goesOn  (hb7 c_4 c_12 c_34 c_39)) (fun r h q => ?_)
          obtain ⟨rfl, rfl⟩ := q
          simp only [Option.toList, List.cons_append, List.nil_append]
          refine r_iload_n rfl rfl ?_
          refine r_iret rfl rfl rfl ?_
          exact ⟨by (unfold f_X12_bounded; (try dsimp only); rw [if_neg c_4, if_neg c_12, if_neg c_34, if_neg c_39]), by (unfold f_X12_bounded; (try dsimp only); rw [if_neg c_4, if_neg c_12, if_neg c_34, if_neg c_39])⟩
    · refine r_aload_n rfl rfl ?_
      refine r_iconst_ (a := 1) rfl (by decide) ?_
      refine q_callV0 [_] _ rfl kY_X12_fail kT_X12_fail rfl rfl (Nat.le_of_ble_eq_true rfl) (Nat.le_of_ble_eq_true rfl) (cc_60 _) (s_X12_fail  (hb8 c_4 c_12)) (fun r h q => ?_)
      obtain ⟨rfl, rfl⟩ := q
      simp only [Option.toList, List.cons_append, List.nil_append]
      refine r_iload_n rfl rfl ?_
      refine r_iret rfl rfl rfl ?_
      exact ⟨by (unfold f_X12_bounded; (try dsimp only); rw [if_neg c_4, if_pos c_12]), by (unfold f_X12_bounded; (try dsimp only); rw [if_neg c_4, if_pos c_12])⟩

def f_X12_tell (v0 : Int32) (v1 : Int32) (s : fl_I) (l : fl_L) : Int32 × fl_I × fl_L :=
  if ((s 60 65) = (20 : Int32)) then ((-1 : Int32), s, l) else if ((f_X12_in v0 (1 : Int32) (26 : Int32)) = 0) then ((-1 : Int32), s, l) else ((((su (su (su s 103 (upd (s 103) (s 60 65).toNatClampNeg v0)) 104 (upd ((su s 103 (upd (s 103) (s 60 65).toNatClampNeg v0)) 104) ((su s 103 (upd (s 103) (s 60 65).toNatClampNeg v0)) 60 65).toNatClampNeg (vp_nar .boolean v1))) 60 (upd ((su (su s 103 (upd (s 103) (s 60 65).toNatClampNeg v0)) 104 (upd ((su s 103 (upd (s 103) (s 60 65).toNatClampNeg v0)) 104) ((su s 103 (upd (s 103) (s 60 65).toNatClampNeg v0)) 60 65).toNatClampNeg (vp_nar .boolean v1))) 60) 65 (((su (su s 103 (upd (s 103) (s 60 65).toNatClampNeg v0)) 104 (upd ((su s 103 (upd (s 103) (s 60 65).toNatClampNeg v0)) 104) ((su s 103 (upd (s 103) (s 60 65).toNatClampNeg v0)) 60 65).toNatClampNeg (vp_nar .boolean v1))) 60 65) + (1 : Int32)))) 60 65) - (1 : Int32)), (su (su (su s 103 (upd (s 103) (s 60 65).toNatClampNeg v0)) 104 (upd ((su s 103 (upd (s 103) (s 60 65).toNatClampNeg v0)) 104) ((su s 103 (upd (s 103) (s 60 65).toNatClampNeg v0)) 60 65).toNatClampNeg (vp_nar .boolean v1))) 60 (upd ((su (su s 103 (upd (s 103) (s 60 65).toNatClampNeg v0)) 104 (upd ((su s 103 (upd (s 103) (s 60 65).toNatClampNeg v0)) 104) ((su s 103 (upd (s 103) (s 60 65).toNatClampNeg v0)) 60 65).toNatClampNeg (vp_nar .boolean v1))) 60) 65 (((su (su s 103 (upd (s 103) (s 60 65).toNatClampNeg v0)) 104 (upd ((su s 103 (upd (s 103) (s 60 65).toNatClampNeg v0)) 104) ((su s 103 (upd (s 103) (s 60 65).toNatClampNeg v0)) 60 65).toNatClampNeg (vp_nar .boolean v1))) 60 65) + (1 : Int32)))), l)
set_option maxRecDepth 100000 in
set_option maxHeartbeats 4000000 in
theorem s_X12_tell {G : ab_G} {d : Nat} {D : fl_D} {s : fl_I} {l : fl_L} {v0 : Int32} {v1 : Int32} (hb0 : ¬ ((s 60 65) = (20 : Int32)) → ¬ ((f_X12_in v0 (1 : Int32) (26 : Int32)) = 0) → vp_in (s 60 65) 20) (hb1 : ¬ ((s 60 65) = (20 : Int32)) → ¬ ((f_X12_in v0 (1 : Int32) (26 : Int32)) = 0) → vp_in ((su s 103 (upd (s 103) (s 60 65).toNatClampNeg v0)) 60 65) 20) : ab_C G (d + 1) 0 0 M_X12_tell 0 (ab_ent [.ref 60, .int v0, .int v1]) [] (hp D s l) (rt (some (.int (f_X12_tell v0 v1 s l).1)) (hp D (f_X12_tell v0 v1 s l).2.1 (f_X12_tell v0 v1 s l).2.2)) := by
  refine r_weak (L1 := [some (.ref 60), some (.int v0), some (.int v1)]) ⟨rfl, rfl, rfl, trivial⟩ ?_
  refine r_aload_n rfl rfl ?_
  refine q_getfield rfl (cc_60 _) rfl ?_
  refine r_bipush_ (a := 20) rfl (by decide) ?_
  refine r_icmp_eq rfl (fun c_6 => ?_) (fun c_6 => ?_)
  · refine r_iconst_ (a := -1) rfl (by decide) ?_
    refine r_iret rfl rfl rfl ?_
    exact ⟨by (unfold f_X12_tell; (try dsimp only); rw [if_pos c_6]), by (unfold f_X12_tell; (try dsimp only); rw [if_pos c_6])⟩
  · refine r_iload_n rfl rfl ?_
    refine r_iconst_ (a := 1) rfl (by decide) ?_
    refine r_bipush_ (a := 26) rfl (by decide) ?_
    refine r_callS0 [_, _, _] _ rfl kY_X12_in kT_X12_in rfl rfl (Nat.le_of_ble_eq_true rfl) (Nat.le_of_ble_eq_true rfl) (s_X12_in) (fun r h q => ?_)
    obtain ⟨rfl, rfl⟩ := q
    simp only [Option.toList, List.cons_append, List.nil_append]
    refine r_if_ne rfl (fun c_16 => ?_) (fun c_16 => ?_)
    · refine r_aload_n rfl rfl ?_
      refine q_getfield rfl (cc_60 _) rfl ?_
      refine r_aload_n rfl rfl ?_
      refine q_getfield rfl (cc_60 _) rfl ?_
      refine r_iload_n rfl rfl ?_
      refine w_iast rfl (cc_103 _) (hb0 c_6 c_16) ?_
      refine r_aload_n rfl rfl ?_
      refine q_getfield rfl (cc_60 _) rfl ?_
      refine r_aload_n rfl rfl ?_
      refine q_getfield rfl (cc_60 _) rfl ?_
      refine r_iload_n rfl rfl ?_
      refine w_zast rfl (cc_104 _) (hb1 c_6 c_16) ?_
      refine r_aload_n rfl rfl ?_
      refine r_dup rfl rfl ?_
      refine q_getfield rfl (cc_60 _) rfl ?_
      refine r_iconst_ (a := 1) rfl (by decide) ?_
      refine r_iadd rfl ?_
      refine w_put rfl (cc_60 _) ff_12_65 ft_12_65 (Nat.le_of_ble_eq_true rfl) rfl ?_
      refine r_aload_n rfl rfl ?_
      refine q_getfield rfl (cc_60 _) rfl ?_
      refine r_iconst_ (a := 1) rfl (by decide) ?_
      refine r_isub rfl ?_
      refine r_iret rfl rfl rfl ?_
      exact ⟨by (unfold f_X12_tell; (try dsimp only); rw [if_neg c_6, if_neg c_16]), by (unfold f_X12_tell; (try dsimp only); rw [if_neg c_6, if_neg c_16])⟩
    · refine r_iconst_ (a := -1) rfl (by decide) ?_
      refine r_iret rfl rfl rfl ?_
      exact ⟨by (unfold f_X12_tell; (try dsimp only); rw [if_neg c_6, if_pos c_16]), by (unfold f_X12_tell; (try dsimp only); rw [if_neg c_6, if_pos c_16])⟩

def f_X12_unit  (s : fl_I) (l : fl_L) : fl_I × fl_L :=
  if ((f_X12_is (2 : Int32) s l) = 0) then if ((s 60 13) = 0) then if ((s 63 (s 60 11).toNatClampNeg) < (32 : Int32)) then ((f_X12_fail (1 : Int32) s l).1, (f_X12_fail (1 : Int32) s l).2) else if ((40 : Int32) < (s 63 (s 60 11).toNatClampNeg)) then ((f_X12_fail (1 : Int32) s l).1, (f_X12_fail (1 : Int32) s l).2) else ((f_X12_goesOn (f_X12_emit (1 : Int32) ((s 63 (s 60 11).toNatClampNeg) - (32 : Int32)) s l).1 (f_X12_emit (1 : Int32) ((s 63 (s 60 11).toNatClampNeg) - (32 : Int32)) s l).2).1, (f_X12_goesOn (f_X12_emit (1 : Int32) ((s 63 (s 60 11).toNatClampNeg) - (32 : Int32)) s l).1 (f_X12_emit (1 : Int32) ((s 63 (s 60 11).toNatClampNeg) - (32 : Int32)) s l).2).2) else ((f_X12_fail (1 : Int32) s l).1, (f_X12_fail (1 : Int32) s l).2) else ((f_X12_goesOn (f_X12_emit (0 : Int32) (s 65 (s 60 11).toNatClampNeg) s l).1 (f_X12_emit (0 : Int32) (s 65 (s 60 11).toNatClampNeg) s l).2).1, (f_X12_goesOn (f_X12_emit (0 : Int32) (s 65 (s 60 11).toNatClampNeg) s l).1 (f_X12_emit (0 : Int32) (s 65 (s 60 11).toNatClampNeg) s l).2).2)
set_option maxRecDepth 100000 in
set_option maxHeartbeats 4000000 in
theorem s_X12_unit {G : ab_G} {d : Nat} {D : fl_D} {s : fl_I} {l : fl_L}  (hb0 : (((s 60 13) = 0) → vp_in (s 60 11) 403)) (hb1 : ((f_X12_is (2 : Int32) s l) = 0) → ¬ ((s 60 13) = 0) → (((s 60 13) ≤ 0) → vp_in ((su s 60 (upd (s 60) 13 (1 : Int32))) 60 11) 403)) (hb2 : ((f_X12_is (2 : Int32) s l) = 0) → ((s 60 13) = 0) → vp_in (s 60 11) 403) (hb3 : ((f_X12_is (2 : Int32) s l) = 0) → ((s 60 13) = 0) → ((s 63 (s 60 11).toNatClampNeg) < (32 : Int32)) → (((s 60 13) ≤ 0) → vp_in ((su s 60 (upd (s 60) 13 (1 : Int32))) 60 11) 403)) (hb4 : ((f_X12_is (2 : Int32) s l) = 0) → ((s 60 13) = 0) → ¬ ((s 63 (s 60 11).toNatClampNeg) < (32 : Int32)) → vp_in (s 60 11) 403) (hb5 : ((f_X12_is (2 : Int32) s l) = 0) → ((s 60 13) = 0) → ¬ ((s 63 (s 60 11).toNatClampNeg) < (32 : Int32)) → ((40 : Int32) < (s 63 (s 60 11).toNatClampNeg)) → (((s 60 13) ≤ 0) → vp_in ((su s 60 (upd (s 60) 13 (1 : Int32))) 60 11) 403)) (hb6 : ((f_X12_is (2 : Int32) s l) = 0) → ((s 60 13) = 0) → ¬ ((s 63 (s 60 11).toNatClampNeg) < (32 : Int32)) → ¬ ((40 : Int32) < (s 63 (s 60 11).toNatClampNeg)) → vp_in (s 60 11) 403) (hb7 : ((f_X12_is (2 : Int32) s l) = 0) → ((s 60 13) = 0) → ¬ ((s 63 (s 60 11).toNatClampNeg) < (32 : Int32)) → ¬ ((40 : Int32) < (s 63 (s 60 11).toNatClampNeg)) → (vp_in (s 60 42) 840)) (hb8 : ((f_X12_is (2 : Int32) s l) = 0) → ((s 60 13) = 0) → ¬ ((s 63 (s 60 11).toNatClampNeg) < (32 : Int32)) → ¬ ((40 : Int32) < (s 63 (s 60 11).toNatClampNeg)) → (vp_in ((su s 89 (upd (s 89) (s 60 42).toNatClampNeg (1 : Int32))) 60 42) 840)) (hb9 : ((f_X12_is (2 : Int32) s l) = 0) → ((s 60 13) = 0) → ¬ ((s 63 (s 60 11).toNatClampNeg) < (32 : Int32)) → ¬ ((40 : Int32) < (s 63 (s 60 11).toNatClampNeg)) → ((((f_X12_emit (1 : Int32) ((s 63 (s 60 11).toNatClampNeg) - (32 : Int32)) s l).1 60 11) = (400 : Int32)) → ((((f_X12_emit (1 : Int32) ((s 63 (s 60 11).toNatClampNeg) - (32 : Int32)) s l).1 60 13) ≤ 0) → vp_in ((su (f_X12_emit (1 : Int32) ((s 63 (s 60 11).toNatClampNeg) - (32 : Int32)) s l).1 60 (upd ((f_X12_emit (1 : Int32) ((s 63 (s 60 11).toNatClampNeg) - (32 : Int32)) s l).1 60) 13 (2 : Int32))) 60 11) 403))) (hb10 : ¬ ((f_X12_is (2 : Int32) s l) = 0) → vp_in (s 60 11) 403) (hb11 : ¬ ((f_X12_is (2 : Int32) s l) = 0) → (vp_in (s 60 42) 840)) (hb12 : ¬ ((f_X12_is (2 : Int32) s l) = 0) → (vp_in ((su s 89 (upd (s 89) (s 60 42).toNatClampNeg (0 : Int32))) 60 42) 840)) (hb13 : ¬ ((f_X12_is (2 : Int32) s l) = 0) → ((((f_X12_emit (0 : Int32) (s 65 (s 60 11).toNatClampNeg) s l).1 60 11) = (400 : Int32)) → ((((f_X12_emit (0 : Int32) (s 65 (s 60 11).toNatClampNeg) s l).1 60 13) ≤ 0) → vp_in ((su (f_X12_emit (0 : Int32) (s 65 (s 60 11).toNatClampNeg) s l).1 60 (upd ((f_X12_emit (0 : Int32) (s 65 (s 60 11).toNatClampNeg) s l).1 60) 13 (2 : Int32))) 60 11) 403))) : ab_C G (d + 2) 0 0 M_X12_unit 0 (ab_ent [.ref 60]) [] (hp D s l) (rt (none) (hp D (f_X12_unit  s l).1 (f_X12_unit  s l).2)) := by
  refine r_weak (L1 := [some (.ref 60)]) ⟨rfl, trivial⟩ ?_
  refine r_aload_n rfl rfl ?_
  refine r_iconst_ (a := 2) rfl (by decide) ?_
  refine q_callV0 [_] _ rfl kY_X12_is kT_X12_is rfl rfl (Nat.le_of_ble_eq_true rfl) (Nat.le_of_ble_eq_true rfl) (cc_60 _) (s_X12_is  hb0) (fun r h q => ?_)
  obtain ⟨rfl, rfl⟩ := q
  simp only [Option.toList, List.cons_append, List.nil_append]
  refine r_if_eq rfl (fun c_5 => ?_) (fun c_5 => ?_)
  · refine r_aload_n rfl rfl ?_
    refine q_getfield rfl (cc_60 _) rfl ?_
    refine r_if_ne rfl (fun c_33 => ?_) (fun c_33 => ?_)
    · refine r_aload_n rfl rfl ?_
      refine r_iconst_ (a := 1) rfl (by decide) ?_
      refine q_callV0 [_] _ rfl kY_X12_fail kT_X12_fail rfl rfl (Nat.le_of_ble_eq_true rfl) (Nat.le_of_ble_eq_true rfl) (cc_60 _) (s_X12_fail  (hb1 c_5 c_33)) (fun r h q => ?_)
      obtain ⟨rfl, rfl⟩ := q
      simp only [Option.toList, List.cons_append, List.nil_append]
      refine r_ret rfl rfl ?_
      exact ⟨rfl, by (unfold f_X12_unit; (try dsimp only); rw [if_pos c_5, if_neg c_33])⟩
    · refine r_aload_n rfl rfl ?_
      refine q_getfield rfl (cc_60 _) rfl ?_
      refine r_aload_n rfl rfl ?_
      refine q_getfield rfl (cc_60 _) rfl ?_
      refine q_iald rfl (cc_63 _) (hb2 c_5 c_33) ?_
      refine r_bipush_ (a := 32) rfl (by decide) ?_
      refine r_icmp_lt rfl (fun c_47 => ?_) (fun c_47 => ?_)
      · refine r_aload_n rfl rfl ?_
        refine r_iconst_ (a := 1) rfl (by decide) ?_
        refine q_callV0 [_] _ rfl kY_X12_fail kT_X12_fail rfl rfl (Nat.le_of_ble_eq_true rfl) (Nat.le_of_ble_eq_true rfl) (cc_60 _) (s_X12_fail  (hb3 c_5 c_33 c_47)) (fun r h q => ?_)
        obtain ⟨rfl, rfl⟩ := q
        simp only [Option.toList, List.cons_append, List.nil_append]
        refine r_ret rfl rfl ?_
        exact ⟨rfl, by (unfold f_X12_unit; (try dsimp only); rw [if_pos c_5, if_pos c_33, if_pos c_47])⟩
      · refine r_aload_n rfl rfl ?_
        refine q_getfield rfl (cc_60 _) rfl ?_
        refine r_aload_n rfl rfl ?_
        refine q_getfield rfl (cc_60 _) rfl ?_
        refine q_iald rfl (cc_63 _) (hb4 c_5 c_33 c_47) ?_
        refine r_bipush_ (a := 40) rfl (by decide) ?_
        refine r_icmp_gt rfl (fun c_61 => ?_) (fun c_61 => ?_)
        · refine r_aload_n rfl rfl ?_
          refine r_iconst_ (a := 1) rfl (by decide) ?_
          refine q_callV0 [_] _ rfl kY_X12_fail kT_X12_fail rfl rfl (Nat.le_of_ble_eq_true rfl) (Nat.le_of_ble_eq_true rfl) (cc_60 _) (s_X12_fail  (hb5 c_5 c_33 c_47 c_61)) (fun r h q => ?_)
          obtain ⟨rfl, rfl⟩ := q
          simp only [Option.toList, List.cons_append, List.nil_append]
          refine r_ret rfl rfl ?_
          exact ⟨rfl, by (unfold f_X12_unit; (try dsimp only); rw [if_pos c_5, if_pos c_33, if_neg c_47, if_pos c_61])⟩
        · refine r_aload_n rfl rfl ?_
          refine r_iconst_ (a := 1) rfl (by decide) ?_
          refine r_aload_n rfl rfl ?_
          refine q_getfield rfl (cc_60 _) rfl ?_
          refine r_aload_n rfl rfl ?_
          refine q_getfield rfl (cc_60 _) rfl ?_
          refine q_iald rfl (cc_63 _) (hb6 c_5 c_33 c_47 c_61) ?_
          refine r_bipush_ (a := 32) rfl (by decide) ?_
          refine r_isub rfl ?_
          refine q_callV0 [_, _] _ rfl kY_X12_emit kT_X12_emit rfl rfl (Nat.le_of_ble_eq_true rfl) (Nat.le_of_ble_eq_true rfl) (cc_60 _) (s_X12_emit  (hb7 c_5 c_33 c_47 c_61) (hb8 c_5 c_33 c_47 c_61)) (fun r h q => ?_)
          obtain ⟨rfl, rfl⟩ := q
          simp only [Option.toList, List.cons_append, List.nil_append]
          refine r_aload_n rfl rfl ?_
          refine q_callV0 [] _ rfl kY_X12_goesOn kT_X12_goesOn rfl rfl (Nat.le_of_ble_eq_true rfl) (Nat.le_of_ble_eq_true rfl) (cc_60 _) (s_X12_goesOn  (hb9 c_5 c_33 c_47 c_61)) (fun r h q => ?_)
          obtain ⟨rfl, rfl⟩ := q
          simp only [Option.toList, List.cons_append, List.nil_append]
          refine r_goto rfl ?_
          refine r_ret rfl rfl ?_
          exact ⟨rfl, by (unfold f_X12_unit; (try dsimp only); rw [if_pos c_5, if_pos c_33, if_neg c_47, if_neg c_61])⟩
  · refine r_aload_n rfl rfl ?_
    refine r_iconst_ (a := 0) rfl (by decide) ?_
    refine r_aload_n rfl rfl ?_
    refine q_getfield rfl (cc_60 _) rfl ?_
    refine r_aload_n rfl rfl ?_
    refine q_getfield rfl (cc_60 _) rfl ?_
    refine q_iald rfl (cc_65 _) (hb10 c_5) ?_
    refine q_callV0 [_, _] _ rfl kY_X12_emit kT_X12_emit rfl rfl (Nat.le_of_ble_eq_true rfl) (Nat.le_of_ble_eq_true rfl) (cc_60 _) (s_X12_emit  (hb11 c_5) (hb12 c_5)) (fun r h q => ?_)
    obtain ⟨rfl, rfl⟩ := q
    simp only [Option.toList, List.cons_append, List.nil_append]
    refine r_aload_n rfl rfl ?_
    refine q_callV0 [] _ rfl kY_X12_goesOn kT_X12_goesOn rfl rfl (Nat.le_of_ble_eq_true rfl) (Nat.le_of_ble_eq_true rfl) (cc_60 _) (s_X12_goesOn  (hb13 c_5)) (fun r h q => ?_)
    obtain ⟨rfl, rfl⟩ := q
    simp only [Option.toList, List.cons_append, List.nil_append]
    refine r_goto rfl ?_
    refine r_ret rfl rfl ?_
    exact ⟨rfl, by (unfold f_X12_unit; (try dsimp only); rw [if_neg c_5])⟩

def f_X12_pickerGoes (v0 : Int32) (s : fl_I) (l : fl_L) : fl_I × fl_L :=
  if (0 ≤ (s 95 ((136 : Int32) + v0).toNatClampNeg)) then if ((s 95 ((128 : Int32) + v0).toNatClampNeg) = ((s 95 ((136 : Int32) + v0).toNatClampNeg) - (s 95 ((136 : Int32) + v0).toNatClampNeg) / (10 : Int32) * (10 : Int32))) then if ((s 95 ((132 : Int32) + v0).toNatClampNeg) = ((s 95 ((136 : Int32) + v0).toNatClampNeg) / (10 : Int32))) then if ((f_X12_cellOfPicker v0 s l) = (s 95 ((136 : Int32) + v0).toNatClampNeg)) then ((su s 95 (upd (s 95) ((136 : Int32) + v0).toNatClampNeg (-2 : Int32))), l) else (s, l) else if (((s 95 ((136 : Int32) + v0).toNatClampNeg) / (10 : Int32)) ≤ (s 95 ((132 : Int32) + v0).toNatClampNeg)) then if ((f_X12_cellOfPicker v0 (su s 95 (upd (s 95) ((132 : Int32) + v0).toNatClampNeg ((s 95 ((132 : Int32) + v0).toNatClampNeg) + (-1 : Int32)))) l) = (s 95 ((136 : Int32) + v0).toNatClampNeg)) then ((su (su s 95 (upd (s 95) ((132 : Int32) + v0).toNatClampNeg ((s 95 ((132 : Int32) + v0).toNatClampNeg) + (-1 : Int32)))) 95 (upd ((su s 95 (upd (s 95) ((132 : Int32) + v0).toNatClampNeg ((s 95 ((132 : Int32) + v0).toNatClampNeg) + (-1 : Int32)))) 95) ((136 : Int32) + v0).toNatClampNeg (-2 : Int32))), l) else ((su s 95 (upd (s 95) ((132 : Int32) + v0).toNatClampNeg ((s 95 ((132 : Int32) + v0).toNatClampNeg) + (-1 : Int32)))), l) else if ((f_X12_cellOfPicker v0 (su s 95 (upd (s 95) ((132 : Int32) + v0).toNatClampNeg ((s 95 ((132 : Int32) + v0).toNatClampNeg) + (1 : Int32)))) l) = (s 95 ((136 : Int32) + v0).toNatClampNeg)) then ((su (su s 95 (upd (s 95) ((132 : Int32) + v0).toNatClampNeg ((s 95 ((132 : Int32) + v0).toNatClampNeg) + (1 : Int32)))) 95 (upd ((su s 95 (upd (s 95) ((132 : Int32) + v0).toNatClampNeg ((s 95 ((132 : Int32) + v0).toNatClampNeg) + (1 : Int32)))) 95) ((136 : Int32) + v0).toNatClampNeg (-2 : Int32))), l) else ((su s 95 (upd (s 95) ((132 : Int32) + v0).toNatClampNeg ((s 95 ((132 : Int32) + v0).toNatClampNeg) + (1 : Int32)))), l) else if (((s 95 ((136 : Int32) + v0).toNatClampNeg) - (s 95 ((136 : Int32) + v0).toNatClampNeg) / (10 : Int32) * (10 : Int32)) ≤ (s 95 ((128 : Int32) + v0).toNatClampNeg)) then if ((f_X12_cellOfPicker v0 (su s 95 (upd (s 95) ((128 : Int32) + v0).toNatClampNeg ((s 95 ((128 : Int32) + v0).toNatClampNeg) + (-1 : Int32)))) l) = (s 95 ((136 : Int32) + v0).toNatClampNeg)) then ((su (su s 95 (upd (s 95) ((128 : Int32) + v0).toNatClampNeg ((s 95 ((128 : Int32) + v0).toNatClampNeg) + (-1 : Int32)))) 95 (upd ((su s 95 (upd (s 95) ((128 : Int32) + v0).toNatClampNeg ((s 95 ((128 : Int32) + v0).toNatClampNeg) + (-1 : Int32)))) 95) ((136 : Int32) + v0).toNatClampNeg (-2 : Int32))), l) else ((su s 95 (upd (s 95) ((128 : Int32) + v0).toNatClampNeg ((s 95 ((128 : Int32) + v0).toNatClampNeg) + (-1 : Int32)))), l) else if ((f_X12_cellOfPicker v0 (su s 95 (upd (s 95) ((128 : Int32) + v0).toNatClampNeg ((s 95 ((128 : Int32) + v0).toNatClampNeg) + (1 : Int32)))) l) = (s 95 ((136 : Int32) + v0).toNatClampNeg)) then ((su (su s 95 (upd (s 95) ((128 : Int32) + v0).toNatClampNeg ((s 95 ((128 : Int32) + v0).toNatClampNeg) + (1 : Int32)))) 95 (upd ((su s 95 (upd (s 95) ((128 : Int32) + v0).toNatClampNeg ((s 95 ((128 : Int32) + v0).toNatClampNeg) + (1 : Int32)))) 95) ((136 : Int32) + v0).toNatClampNeg (-2 : Int32))), l) else ((su s 95 (upd (s 95) ((128 : Int32) + v0).toNatClampNeg ((s 95 ((128 : Int32) + v0).toNatClampNeg) + (1 : Int32)))), l) else (s, l)
set_option maxRecDepth 100000 in
set_option maxHeartbeats 4000000 in
theorem s_X12_pickerGoes {G : ab_G} {d : Nat} {D : fl_D} {s : fl_I} {l : fl_L} {v0 : Int32} (hb0 : vp_in ((136 : Int32) + v0) 141) (hb1 : (0 ≤ (s 95 ((136 : Int32) + v0).toNatClampNeg)) → vp_in ((128 : Int32) + v0) 141) (hb2 : (0 ≤ (s 95 ((136 : Int32) + v0).toNatClampNeg)) → ((s 95 ((128 : Int32) + v0).toNatClampNeg) = ((s 95 ((136 : Int32) + v0).toNatClampNeg) - (s 95 ((136 : Int32) + v0).toNatClampNeg) / (10 : Int32) * (10 : Int32))) → vp_in ((132 : Int32) + v0) 141) (hb3 : (0 ≤ (s 95 ((136 : Int32) + v0).toNatClampNeg)) → ((s 95 ((128 : Int32) + v0).toNatClampNeg) = ((s 95 ((136 : Int32) + v0).toNatClampNeg) - (s 95 ((136 : Int32) + v0).toNatClampNeg) / (10 : Int32) * (10 : Int32))) → ((s 95 ((132 : Int32) + v0).toNatClampNeg) = ((s 95 ((136 : Int32) + v0).toNatClampNeg) / (10 : Int32))) → (vp_in ((132 : Int32) + v0) 141)) (hb4 : (0 ≤ (s 95 ((136 : Int32) + v0).toNatClampNeg)) → ((s 95 ((128 : Int32) + v0).toNatClampNeg) = ((s 95 ((136 : Int32) + v0).toNatClampNeg) - (s 95 ((136 : Int32) + v0).toNatClampNeg) / (10 : Int32) * (10 : Int32))) → ((s 95 ((132 : Int32) + v0).toNatClampNeg) = ((s 95 ((136 : Int32) + v0).toNatClampNeg) / (10 : Int32))) → (vp_in ((128 : Int32) + v0) 141)) (hb5 : (0 ≤ (s 95 ((136 : Int32) + v0).toNatClampNeg)) → ((s 95 ((128 : Int32) + v0).toNatClampNeg) = ((s 95 ((136 : Int32) + v0).toNatClampNeg) - (s 95 ((136 : Int32) + v0).toNatClampNeg) / (10 : Int32) * (10 : Int32))) → ((s 95 ((132 : Int32) + v0).toNatClampNeg) = ((s 95 ((136 : Int32) + v0).toNatClampNeg) / (10 : Int32))) → ((f_X12_cellOfPicker v0 s l) = (s 95 ((136 : Int32) + v0).toNatClampNeg)) → vp_in ((136 : Int32) + v0) 141) (hb6 : (0 ≤ (s 95 ((136 : Int32) + v0).toNatClampNeg)) → ((s 95 ((128 : Int32) + v0).toNatClampNeg) = ((s 95 ((136 : Int32) + v0).toNatClampNeg) - (s 95 ((136 : Int32) + v0).toNatClampNeg) / (10 : Int32) * (10 : Int32))) → ¬ ((s 95 ((132 : Int32) + v0).toNatClampNeg) = ((s 95 ((136 : Int32) + v0).toNatClampNeg) / (10 : Int32))) → vp_in ((132 : Int32) + v0) 141) (hb7 : (0 ≤ (s 95 ((136 : Int32) + v0).toNatClampNeg)) → ((s 95 ((128 : Int32) + v0).toNatClampNeg) = ((s 95 ((136 : Int32) + v0).toNatClampNeg) - (s 95 ((136 : Int32) + v0).toNatClampNeg) / (10 : Int32) * (10 : Int32))) → ¬ ((s 95 ((132 : Int32) + v0).toNatClampNeg) = ((s 95 ((136 : Int32) + v0).toNatClampNeg) / (10 : Int32))) → vp_in ((132 : Int32) + v0) 141) (hb8 : (0 ≤ (s 95 ((136 : Int32) + v0).toNatClampNeg)) → ((s 95 ((128 : Int32) + v0).toNatClampNeg) = ((s 95 ((136 : Int32) + v0).toNatClampNeg) - (s 95 ((136 : Int32) + v0).toNatClampNeg) / (10 : Int32) * (10 : Int32))) → ¬ ((s 95 ((132 : Int32) + v0).toNatClampNeg) = ((s 95 ((136 : Int32) + v0).toNatClampNeg) / (10 : Int32))) → (((s 95 ((136 : Int32) + v0).toNatClampNeg) / (10 : Int32)) ≤ (s 95 ((132 : Int32) + v0).toNatClampNeg)) → vp_in ((132 : Int32) + v0) 141) (hb9 : (0 ≤ (s 95 ((136 : Int32) + v0).toNatClampNeg)) → ((s 95 ((128 : Int32) + v0).toNatClampNeg) = ((s 95 ((136 : Int32) + v0).toNatClampNeg) - (s 95 ((136 : Int32) + v0).toNatClampNeg) / (10 : Int32) * (10 : Int32))) → ¬ ((s 95 ((132 : Int32) + v0).toNatClampNeg) = ((s 95 ((136 : Int32) + v0).toNatClampNeg) / (10 : Int32))) → (((s 95 ((136 : Int32) + v0).toNatClampNeg) / (10 : Int32)) ≤ (s 95 ((132 : Int32) + v0).toNatClampNeg)) → (vp_in ((132 : Int32) + v0) 141)) (hb10 : (0 ≤ (s 95 ((136 : Int32) + v0).toNatClampNeg)) → ((s 95 ((128 : Int32) + v0).toNatClampNeg) = ((s 95 ((136 : Int32) + v0).toNatClampNeg) - (s 95 ((136 : Int32) + v0).toNatClampNeg) / (10 : Int32) * (10 : Int32))) → ¬ ((s 95 ((132 : Int32) + v0).toNatClampNeg) = ((s 95 ((136 : Int32) + v0).toNatClampNeg) / (10 : Int32))) → (((s 95 ((136 : Int32) + v0).toNatClampNeg) / (10 : Int32)) ≤ (s 95 ((132 : Int32) + v0).toNatClampNeg)) → (vp_in ((128 : Int32) + v0) 141)) (hb11 : (0 ≤ (s 95 ((136 : Int32) + v0).toNatClampNeg)) → ((s 95 ((128 : Int32) + v0).toNatClampNeg) = ((s 95 ((136 : Int32) + v0).toNatClampNeg) - (s 95 ((136 : Int32) + v0).toNatClampNeg) / (10 : Int32) * (10 : Int32))) → ¬ ((s 95 ((132 : Int32) + v0).toNatClampNeg) = ((s 95 ((136 : Int32) + v0).toNatClampNeg) / (10 : Int32))) → (((s 95 ((136 : Int32) + v0).toNatClampNeg) / (10 : Int32)) ≤ (s 95 ((132 : Int32) + v0).toNatClampNeg)) → ((f_X12_cellOfPicker v0 (su s 95 (upd (s 95) ((132 : Int32) + v0).toNatClampNeg ((s 95 ((132 : Int32) + v0).toNatClampNeg) + (-1 : Int32)))) l) = (s 95 ((136 : Int32) + v0).toNatClampNeg)) → vp_in ((136 : Int32) + v0) 141) (hb12 : (0 ≤ (s 95 ((136 : Int32) + v0).toNatClampNeg)) → ((s 95 ((128 : Int32) + v0).toNatClampNeg) = ((s 95 ((136 : Int32) + v0).toNatClampNeg) - (s 95 ((136 : Int32) + v0).toNatClampNeg) / (10 : Int32) * (10 : Int32))) → ¬ ((s 95 ((132 : Int32) + v0).toNatClampNeg) = ((s 95 ((136 : Int32) + v0).toNatClampNeg) / (10 : Int32))) → ¬ (((s 95 ((136 : Int32) + v0).toNatClampNeg) / (10 : Int32)) ≤ (s 95 ((132 : Int32) + v0).toNatClampNeg)) → vp_in ((132 : Int32) + v0) 141) (hb13 : (0 ≤ (s 95 ((136 : Int32) + v0).toNatClampNeg)) → ((s 95 ((128 : Int32) + v0).toNatClampNeg) = ((s 95 ((136 : Int32) + v0).toNatClampNeg) - (s 95 ((136 : Int32) + v0).toNatClampNeg) / (10 : Int32) * (10 : Int32))) → ¬ ((s 95 ((132 : Int32) + v0).toNatClampNeg) = ((s 95 ((136 : Int32) + v0).toNatClampNeg) / (10 : Int32))) → ¬ (((s 95 ((136 : Int32) + v0).toNatClampNeg) / (10 : Int32)) ≤ (s 95 ((132 : Int32) + v0).toNatClampNeg)) → (vp_in ((132 : Int32) + v0) 141)) (hb14 : (0 ≤ (s 95 ((136 : Int32) + v0).toNatClampNeg)) → ((s 95 ((128 : Int32) + v0).toNatClampNeg) = ((s 95 ((136 : Int32) + v0).toNatClampNeg) - (s 95 ((136 : Int32) + v0).toNatClampNeg) / (10 : Int32) * (10 : Int32))) → ¬ ((s 95 ((132 : Int32) + v0).toNatClampNeg) = ((s 95 ((136 : Int32) + v0).toNatClampNeg) / (10 : Int32))) → ¬ (((s 95 ((136 : Int32) + v0).toNatClampNeg) / (10 : Int32)) ≤ (s 95 ((132 : Int32) + v0).toNatClampNeg)) → (vp_in ((128 : Int32) + v0) 141)) (hb15 : (0 ≤ (s 95 ((136 : Int32) + v0).toNatClampNeg)) → ((s 95 ((128 : Int32) + v0).toNatClampNeg) = ((s 95 ((136 : Int32) + v0).toNatClampNeg) - (s 95 ((136 : Int32) + v0).toNatClampNeg) / (10 : Int32) * (10 : Int32))) → ¬ ((s 95 ((132 : Int32) + v0).toNatClampNeg) = ((s 95 ((136 : Int32) + v0).toNatClampNeg) / (10 : Int32))) → ¬ (((s 95 ((136 : Int32) + v0).toNatClampNeg) / (10 : Int32)) ≤ (s 95 ((132 : Int32) + v0).toNatClampNeg)) → ((f_X12_cellOfPicker v0 (su s 95 (upd (s 95) ((132 : Int32) + v0).toNatClampNeg ((s 95 ((132 : Int32) + v0).toNatClampNeg) + (1 : Int32)))) l) = (s 95 ((136 : Int32) + v0).toNatClampNeg)) → vp_in ((136 : Int32) + v0) 141) (hb16 : (0 ≤ (s 95 ((136 : Int32) + v0).toNatClampNeg)) → ¬ ((s 95 ((128 : Int32) + v0).toNatClampNeg) = ((s 95 ((136 : Int32) + v0).toNatClampNeg) - (s 95 ((136 : Int32) + v0).toNatClampNeg) / (10 : Int32) * (10 : Int32))) → vp_in ((128 : Int32) + v0) 141) (hb17 : (0 ≤ (s 95 ((136 : Int32) + v0).toNatClampNeg)) → ¬ ((s 95 ((128 : Int32) + v0).toNatClampNeg) = ((s 95 ((136 : Int32) + v0).toNatClampNeg) - (s 95 ((136 : Int32) + v0).toNatClampNeg) / (10 : Int32) * (10 : Int32))) → vp_in ((128 : Int32) + v0) 141) (hb18 : (0 ≤ (s 95 ((136 : Int32) + v0).toNatClampNeg)) → ¬ ((s 95 ((128 : Int32) + v0).toNatClampNeg) = ((s 95 ((136 : Int32) + v0).toNatClampNeg) - (s 95 ((136 : Int32) + v0).toNatClampNeg) / (10 : Int32) * (10 : Int32))) → (((s 95 ((136 : Int32) + v0).toNatClampNeg) - (s 95 ((136 : Int32) + v0).toNatClampNeg) / (10 : Int32) * (10 : Int32)) ≤ (s 95 ((128 : Int32) + v0).toNatClampNeg)) → vp_in ((128 : Int32) + v0) 141) (hb19 : (0 ≤ (s 95 ((136 : Int32) + v0).toNatClampNeg)) → ¬ ((s 95 ((128 : Int32) + v0).toNatClampNeg) = ((s 95 ((136 : Int32) + v0).toNatClampNeg) - (s 95 ((136 : Int32) + v0).toNatClampNeg) / (10 : Int32) * (10 : Int32))) → (((s 95 ((136 : Int32) + v0).toNatClampNeg) - (s 95 ((136 : Int32) + v0).toNatClampNeg) / (10 : Int32) * (10 : Int32)) ≤ (s 95 ((128 : Int32) + v0).toNatClampNeg)) → (vp_in ((132 : Int32) + v0) 141)) (hb20 : (0 ≤ (s 95 ((136 : Int32) + v0).toNatClampNeg)) → ¬ ((s 95 ((128 : Int32) + v0).toNatClampNeg) = ((s 95 ((136 : Int32) + v0).toNatClampNeg) - (s 95 ((136 : Int32) + v0).toNatClampNeg) / (10 : Int32) * (10 : Int32))) → (((s 95 ((136 : Int32) + v0).toNatClampNeg) - (s 95 ((136 : Int32) + v0).toNatClampNeg) / (10 : Int32) * (10 : Int32)) ≤ (s 95 ((128 : Int32) + v0).toNatClampNeg)) → (vp_in ((128 : Int32) + v0) 141)) (hb21 : (0 ≤ (s 95 ((136 : Int32) + v0).toNatClampNeg)) → ¬ ((s 95 ((128 : Int32) + v0).toNatClampNeg) = ((s 95 ((136 : Int32) + v0).toNatClampNeg) - (s 95 ((136 : Int32) + v0).toNatClampNeg) / (10 : Int32) * (10 : Int32))) → (((s 95 ((136 : Int32) + v0).toNatClampNeg) - (s 95 ((136 : Int32) + v0).toNatClampNeg) / (10 : Int32) * (10 : Int32)) ≤ (s 95 ((128 : Int32) + v0).toNatClampNeg)) → ((f_X12_cellOfPicker v0 (su s 95 (upd (s 95) ((128 : Int32) + v0).toNatClampNeg ((s 95 ((128 : Int32) + v0).toNatClampNeg) + (-1 : Int32)))) l) = (s 95 ((136 : Int32) + v0).toNatClampNeg)) → vp_in ((136 : Int32) + v0) 141) (hb22 : (0 ≤ (s 95 ((136 : Int32) + v0).toNatClampNeg)) → ¬ ((s 95 ((128 : Int32) + v0).toNatClampNeg) = ((s 95 ((136 : Int32) + v0).toNatClampNeg) - (s 95 ((136 : Int32) + v0).toNatClampNeg) / (10 : Int32) * (10 : Int32))) → ¬ (((s 95 ((136 : Int32) + v0).toNatClampNeg) - (s 95 ((136 : Int32) + v0).toNatClampNeg) / (10 : Int32) * (10 : Int32)) ≤ (s 95 ((128 : Int32) + v0).toNatClampNeg)) → vp_in ((128 : Int32) + v0) 141) (hb23 : (0 ≤ (s 95 ((136 : Int32) + v0).toNatClampNeg)) → ¬ ((s 95 ((128 : Int32) + v0).toNatClampNeg) = ((s 95 ((136 : Int32) + v0).toNatClampNeg) - (s 95 ((136 : Int32) + v0).toNatClampNeg) / (10 : Int32) * (10 : Int32))) → ¬ (((s 95 ((136 : Int32) + v0).toNatClampNeg) - (s 95 ((136 : Int32) + v0).toNatClampNeg) / (10 : Int32) * (10 : Int32)) ≤ (s 95 ((128 : Int32) + v0).toNatClampNeg)) → (vp_in ((132 : Int32) + v0) 141)) (hb24 : (0 ≤ (s 95 ((136 : Int32) + v0).toNatClampNeg)) → ¬ ((s 95 ((128 : Int32) + v0).toNatClampNeg) = ((s 95 ((136 : Int32) + v0).toNatClampNeg) - (s 95 ((136 : Int32) + v0).toNatClampNeg) / (10 : Int32) * (10 : Int32))) → ¬ (((s 95 ((136 : Int32) + v0).toNatClampNeg) - (s 95 ((136 : Int32) + v0).toNatClampNeg) / (10 : Int32) * (10 : Int32)) ≤ (s 95 ((128 : Int32) + v0).toNatClampNeg)) → (vp_in ((128 : Int32) + v0) 141)) (hb25 : (0 ≤ (s 95 ((136 : Int32) + v0).toNatClampNeg)) → ¬ ((s 95 ((128 : Int32) + v0).toNatClampNeg) = ((s 95 ((136 : Int32) + v0).toNatClampNeg) - (s 95 ((136 : Int32) + v0).toNatClampNeg) / (10 : Int32) * (10 : Int32))) → ¬ (((s 95 ((136 : Int32) + v0).toNatClampNeg) - (s 95 ((136 : Int32) + v0).toNatClampNeg) / (10 : Int32) * (10 : Int32)) ≤ (s 95 ((128 : Int32) + v0).toNatClampNeg)) → ((f_X12_cellOfPicker v0 (su s 95 (upd (s 95) ((128 : Int32) + v0).toNatClampNeg ((s 95 ((128 : Int32) + v0).toNatClampNeg) + (1 : Int32)))) l) = (s 95 ((136 : Int32) + v0).toNatClampNeg)) → vp_in ((136 : Int32) + v0) 141) : ab_C G (d + 1) 0 0 M_X12_pickerGoes 0 (ab_ent [.ref 60, .int v0]) [] (hp D s l) (rt (none) (hp D (f_X12_pickerGoes v0 s l).1 (f_X12_pickerGoes v0 s l).2)) := by
  refine r_weak (L1 := [some (.ref 60), some (.int v0), none]) ⟨rfl, rfl, trivial⟩ ?_
  refine r_aload_n rfl rfl ?_
  refine q_getfield rfl (cc_60 _) rfl ?_
  refine r_sipush_ (a := 136) rfl (by decide) ?_
  refine r_iload_n rfl rfl ?_
  refine r_iadd rfl ?_
  refine q_iald rfl (cc_95 _) hb0 ?_
  refine r_istore_n rfl (Nat.le_of_ble_eq_true rfl) rfl ?_
  refine r_iload_n rfl rfl ?_
  refine r_if_ge rfl (fun c_12 => ?_) (fun c_12 => ?_)
  · refine r_aload_n rfl rfl ?_
    refine q_getfield rfl (cc_60 _) rfl ?_
    refine r_sipush_ (a := 128) rfl (by decide) ?_
    refine r_iload_n rfl rfl ?_
    refine r_iadd rfl ?_
    refine q_iald rfl (cc_95 _) (hb1 c_12) ?_
    refine r_iload_n rfl rfl ?_
    refine r_bipush_ (a := 10) rfl (by decide) ?_
    refine r_irem rfl (by decide) ?_
    refine r_icmp_eq rfl (fun c_30 => ?_) (fun c_30 => ?_)
    · refine r_aload_n rfl rfl ?_
      refine q_getfield rfl (cc_60 _) rfl ?_
      refine r_sipush_ (a := 132) rfl (by decide) ?_
      refine r_iload_n rfl rfl ?_
      refine r_iadd rfl ?_
      refine q_iald rfl (cc_95 _) (hb2 c_12 c_30) ?_
      refine r_iload_n rfl rfl ?_
      refine r_bipush_ (a := 10) rfl (by decide) ?_
      refine r_idiv rfl (by decide) ?_
      refine r_icmp_eq rfl (fun c_85 => ?_) (fun c_85 => ?_)
      · refine r_aload_n rfl rfl ?_
        refine r_iload_n rfl rfl ?_
        refine q_callV0 [_] _ rfl kY_X12_cellOfPicker kT_X12_cellOfPicker rfl rfl (Nat.le_of_ble_eq_true rfl) (Nat.le_of_ble_eq_true rfl) (cc_60 _) (s_X12_cellOfPicker  (hb3 c_12 c_30 c_85) (hb4 c_12 c_30 c_85)) (fun r h q => ?_)
        obtain ⟨rfl, rfl⟩ := q
        simp only [Option.toList, List.cons_append, List.nil_append]
        refine r_iload_n rfl rfl ?_
        refine r_icmp_ne rfl (fun c_129 => ?_) (fun c_129 => ?_)
        · refine r_ret rfl rfl ?_
          exact ⟨rfl, by (unfold f_X12_pickerGoes; (try dsimp only); rw [if_pos c_12, if_pos c_30, if_pos c_85, if_neg c_129])⟩
        · refine r_aload_n rfl rfl ?_
          refine q_getfield rfl (cc_60 _) rfl ?_
          refine r_sipush_ (a := 136) rfl (by decide) ?_
          refine r_iload_n rfl rfl ?_
          refine r_iadd rfl ?_
          refine r_bipush_ (a := -2) rfl (by decide) ?_
          refine w_iast rfl (cc_95 _) (hb5 c_12 c_30 c_85 c_129) ?_
          refine r_ret rfl rfl ?_
          exact ⟨rfl, by (unfold f_X12_pickerGoes; (try dsimp only); rw [if_pos c_12, if_pos c_30, if_pos c_85, if_pos c_129])⟩
      · refine r_aload_n rfl rfl ?_
        refine q_getfield rfl (cc_60 _) rfl ?_
        refine r_sipush_ (a := 132) rfl (by decide) ?_
        refine r_iload_n rfl rfl ?_
        refine r_iadd rfl ?_
        refine r_dup2 rfl rfl rfl ?_
        refine q_iald rfl (cc_95 _) (hb6 c_12 c_30 c_85) ?_
        refine r_aload_n rfl rfl ?_
        refine q_getfield rfl (cc_60 _) rfl ?_
        refine r_sipush_ (a := 132) rfl (by decide) ?_
        refine r_iload_n rfl rfl ?_
        refine r_iadd rfl ?_
        refine q_iald rfl (cc_95 _) (hb7 c_12 c_30 c_85) ?_
        refine r_iload_n rfl rfl ?_
        refine r_bipush_ (a := 10) rfl (by decide) ?_
        refine r_idiv rfl (by decide) ?_
        refine r_icmp_ge rfl (fun c_113 => ?_) (fun c_113 => ?_)
        · refine r_iconst_ (a := -1) rfl (by decide) ?_
          refine r_iadd rfl ?_
          refine w_iast rfl (cc_95 _) (hb8 c_12 c_30 c_85 c_113) ?_
          refine r_aload_n rfl rfl ?_
          refine r_iload_n rfl rfl ?_
          refine q_callV0 [_] _ rfl kY_X12_cellOfPicker kT_X12_cellOfPicker rfl rfl (Nat.le_of_ble_eq_true rfl) (Nat.le_of_ble_eq_true rfl) (cc_60 _) (s_X12_cellOfPicker  (hb9 c_12 c_30 c_85 c_113) (hb10 c_12 c_30 c_85 c_113)) (fun r h q => ?_)
          obtain ⟨rfl, rfl⟩ := q
          simp only [Option.toList, List.cons_append, List.nil_append]
          refine r_iload_n rfl rfl ?_
          refine r_icmp_ne rfl (fun c_129 => ?_) (fun c_129 => ?_)
          · refine r_ret rfl rfl ?_
            exact ⟨rfl, by (unfold f_X12_pickerGoes; (try dsimp only); rw [if_pos c_12, if_pos c_30, if_neg c_85, if_pos c_113, if_neg c_129])⟩
          · refine r_aload_n rfl rfl ?_
            refine q_getfield rfl (cc_60 _) rfl ?_
            refine r_sipush_ (a := 136) rfl (by decide) ?_
            refine r_iload_n rfl rfl ?_
            refine r_iadd rfl ?_
            refine r_bipush_ (a := -2) rfl (by decide) ?_
            refine w_iast rfl (cc_95 _) (hb11 c_12 c_30 c_85 c_113 c_129) ?_
            refine r_ret rfl rfl ?_
            exact ⟨rfl, by (unfold f_X12_pickerGoes; (try dsimp only); rw [if_pos c_12, if_pos c_30, if_neg c_85, if_pos c_113, if_pos c_129])⟩
        · refine r_iconst_ (a := 1) rfl (by decide) ?_
          refine r_goto rfl ?_
          refine r_iadd rfl ?_
          refine w_iast rfl (cc_95 _) (hb12 c_12 c_30 c_85 c_113) ?_
          refine r_aload_n rfl rfl ?_
          refine r_iload_n rfl rfl ?_
          refine q_callV0 [_] _ rfl kY_X12_cellOfPicker kT_X12_cellOfPicker rfl rfl (Nat.le_of_ble_eq_true rfl) (Nat.le_of_ble_eq_true rfl) (cc_60 _) (s_X12_cellOfPicker  (hb13 c_12 c_30 c_85 c_113) (hb14 c_12 c_30 c_85 c_113)) (fun r h q => ?_)
          obtain ⟨rfl, rfl⟩ := q
          simp only [Option.toList, List.cons_append, List.nil_append]
          refine r_iload_n rfl rfl ?_
          refine r_icmp_ne rfl (fun c_129 => ?_) (fun c_129 => ?_)
          · refine r_ret rfl rfl ?_
            exact ⟨rfl, by (unfold f_X12_pickerGoes; (try dsimp only); rw [if_pos c_12, if_pos c_30, if_neg c_85, if_neg c_113, if_neg c_129])⟩
          · refine r_aload_n rfl rfl ?_
            refine q_getfield rfl (cc_60 _) rfl ?_
            refine r_sipush_ (a := 136) rfl (by decide) ?_
            refine r_iload_n rfl rfl ?_
            refine r_iadd rfl ?_
            refine r_bipush_ (a := -2) rfl (by decide) ?_
            refine w_iast rfl (cc_95 _) (hb15 c_12 c_30 c_85 c_113 c_129) ?_
            refine r_ret rfl rfl ?_
            exact ⟨rfl, by (unfold f_X12_pickerGoes; (try dsimp only); rw [if_pos c_12, if_pos c_30, if_neg c_85, if_neg c_113, if_pos c_129])⟩
    · refine r_aload_n rfl rfl ?_
      refine q_getfield rfl (cc_60 _) rfl ?_
      refine r_sipush_ (a := 128) rfl (by decide) ?_
      refine r_iload_n rfl rfl ?_
      refine r_iadd rfl ?_
      refine r_dup2 rfl rfl rfl ?_
      refine q_iald rfl (cc_95 _) (hb16 c_12 c_30) ?_
      refine r_aload_n rfl rfl ?_
      refine q_getfield rfl (cc_60 _) rfl ?_
      refine r_sipush_ (a := 128) rfl (by decide) ?_
      refine r_iload_n rfl rfl ?_
      refine r_iadd rfl ?_
      refine q_iald rfl (cc_95 _) (hb17 c_12 c_30) ?_
      refine r_iload_n rfl rfl ?_
      refine r_bipush_ (a := 10) rfl (by decide) ?_
      refine r_irem rfl (by decide) ?_
      refine r_icmp_ge rfl (fun c_58 => ?_) (fun c_58 => ?_)
      · refine r_iconst_ (a := -1) rfl (by decide) ?_
        refine r_iadd rfl ?_
        refine w_iast rfl (cc_95 _) (hb18 c_12 c_30 c_58) ?_
        refine r_goto rfl ?_
        refine r_aload_n rfl rfl ?_
        refine r_iload_n rfl rfl ?_
        refine q_callV0 [_] _ rfl kY_X12_cellOfPicker kT_X12_cellOfPicker rfl rfl (Nat.le_of_ble_eq_true rfl) (Nat.le_of_ble_eq_true rfl) (cc_60 _) (s_X12_cellOfPicker  (hb19 c_12 c_30 c_58) (hb20 c_12 c_30 c_58)) (fun r h q => ?_)
        obtain ⟨rfl, rfl⟩ := q
        simp only [Option.toList, List.cons_append, List.nil_append]
        refine r_iload_n rfl rfl ?_
        refine r_icmp_ne rfl (fun c_129 => ?_) (fun c_129 => ?_)
        · refine r_ret rfl rfl ?_
          exact ⟨rfl, by (unfold f_X12_pickerGoes; (try dsimp only); rw [if_pos c_12, if_neg c_30, if_pos c_58, if_neg c_129])⟩
        · refine r_aload_n rfl rfl ?_
          refine q_getfield rfl (cc_60 _) rfl ?_
          refine r_sipush_ (a := 136) rfl (by decide) ?_
          refine r_iload_n rfl rfl ?_
          refine r_iadd rfl ?_
          refine r_bipush_ (a := -2) rfl (by decide) ?_
          refine w_iast rfl (cc_95 _) (hb21 c_12 c_30 c_58 c_129) ?_
          refine r_ret rfl rfl ?_
          exact ⟨rfl, by (unfold f_X12_pickerGoes; (try dsimp only); rw [if_pos c_12, if_neg c_30, if_pos c_58, if_pos c_129])⟩
      · refine r_iconst_ (a := 1) rfl (by decide) ?_
        refine r_goto rfl ?_
        refine r_iadd rfl ?_
        refine w_iast rfl (cc_95 _) (hb22 c_12 c_30 c_58) ?_
        refine r_goto rfl ?_
        refine r_aload_n rfl rfl ?_
        refine r_iload_n rfl rfl ?_
        refine q_callV0 [_] _ rfl kY_X12_cellOfPicker kT_X12_cellOfPicker rfl rfl (Nat.le_of_ble_eq_true rfl) (Nat.le_of_ble_eq_true rfl) (cc_60 _) (s_X12_cellOfPicker  (hb23 c_12 c_30 c_58) (hb24 c_12 c_30 c_58)) (fun r h q => ?_)
        obtain ⟨rfl, rfl⟩ := q
        simp only [Option.toList, List.cons_append, List.nil_append]
        refine r_iload_n rfl rfl ?_
        refine r_icmp_ne rfl (fun c_129 => ?_) (fun c_129 => ?_)
        · refine r_ret rfl rfl ?_
          exact ⟨rfl, by (unfold f_X12_pickerGoes; (try dsimp only); rw [if_pos c_12, if_neg c_30, if_neg c_58, if_neg c_129])⟩
        · refine r_aload_n rfl rfl ?_
          refine q_getfield rfl (cc_60 _) rfl ?_
          refine r_sipush_ (a := 136) rfl (by decide) ?_
          refine r_iload_n rfl rfl ?_
          refine r_iadd rfl ?_
          refine r_bipush_ (a := -2) rfl (by decide) ?_
          refine w_iast rfl (cc_95 _) (hb25 c_12 c_30 c_58 c_129) ?_
          refine r_ret rfl rfl ?_
          exact ⟨rfl, by (unfold f_X12_pickerGoes; (try dsimp only); rw [if_pos c_12, if_neg c_30, if_neg c_58, if_pos c_129])⟩
  · refine r_ret rfl rfl ?_
    exact ⟨rfl, by (unfold f_X12_pickerGoes; (try dsimp only); rw [if_neg c_12])⟩

def f_X12_must (v0 : Int32) (s : fl_I) (l : fl_L) : fl_I × fl_L :=
  if ((f_X12_is v0 s l) = 0) then ((f_X12_fail (1 : Int32) s l).1, (f_X12_fail (1 : Int32) s l).2) else ((f_X12_goesOn s l).1, (f_X12_goesOn s l).2)
set_option maxRecDepth 100000 in
set_option maxHeartbeats 4000000 in
theorem s_X12_must {G : ab_G} {d : Nat} {D : fl_D} {s : fl_I} {l : fl_L} {v0 : Int32} (hb0 : (((s 60 13) = 0) → vp_in (s 60 11) 403)) (hb1 : ((f_X12_is v0 s l) = 0) → (((s 60 13) ≤ 0) → vp_in ((su s 60 (upd (s 60) 13 (1 : Int32))) 60 11) 403)) (hb2 : ¬ ((f_X12_is v0 s l) = 0) → (((s 60 11) = (400 : Int32)) → (((s 60 13) ≤ 0) → vp_in ((su s 60 (upd (s 60) 13 (2 : Int32))) 60 11) 403))) : ab_C G (d + 2) 0 0 M_X12_must 0 (ab_ent [.ref 60, .int v0]) [] (hp D s l) (rt (none) (hp D (f_X12_must v0 s l).1 (f_X12_must v0 s l).2)) := by
  refine r_weak (L1 := [some (.ref 60), some (.int v0)]) ⟨rfl, rfl, trivial⟩ ?_
  refine r_aload_n rfl rfl ?_
  refine r_iload_n rfl rfl ?_
  refine q_callV0 [_] _ rfl kY_X12_is kT_X12_is rfl rfl (Nat.le_of_ble_eq_true rfl) (Nat.le_of_ble_eq_true rfl) (cc_60 _) (s_X12_is  hb0) (fun r h q => ?_)
  obtain ⟨rfl, rfl⟩ := q
  simp only [Option.toList, List.cons_append, List.nil_append]
  refine r_if_eq rfl (fun c_5 => ?_) (fun c_5 => ?_)
  · refine r_aload_n rfl rfl ?_
    refine r_iconst_ (a := 1) rfl (by decide) ?_
    refine q_callV0 [_] _ rfl kY_X12_fail kT_X12_fail rfl rfl (Nat.le_of_ble_eq_true rfl) (Nat.le_of_ble_eq_true rfl) (cc_60 _) (s_X12_fail  (hb1 c_5)) (fun r h q => ?_)
    obtain ⟨rfl, rfl⟩ := q
    simp only [Option.toList, List.cons_append, List.nil_append]
    refine r_ret rfl rfl ?_
    exact ⟨rfl, by (unfold f_X12_must; (try dsimp only); rw [if_pos c_5])⟩
  · refine r_aload_n rfl rfl ?_
    refine q_callV0 [] _ rfl kY_X12_goesOn kT_X12_goesOn rfl rfl (Nat.le_of_ble_eq_true rfl) (Nat.le_of_ble_eq_true rfl) (cc_60 _) (s_X12_goesOn  (hb2 c_5)) (fun r h q => ?_)
    obtain ⟨rfl, rfl⟩ := q
    simp only [Option.toList, List.cons_append, List.nil_append]
    refine r_goto rfl ?_
    refine r_ret rfl rfl ?_
    exact ⟨rfl, by (unfold f_X12_must; (try dsimp only); rw [if_neg c_5])⟩

def f_X12_roomFor (v0 : Int32) (v1 : Int32) (s : fl_I) (l : fl_L) : fl_I × fl_L :=
  if (v0 = v1) then if (((f_X12_fail (2 : Int32) s l).1 60 13) = 0) then ((f_X12_goesOn (f_X12_fail (2 : Int32) s l).1 (f_X12_fail (2 : Int32) s l).2).1, (f_X12_goesOn (f_X12_fail (2 : Int32) s l).1 (f_X12_fail (2 : Int32) s l).2).2) else ((f_X12_fail (2 : Int32) s l).1, (f_X12_fail (2 : Int32) s l).2) else if ((s 60 13) = 0) then ((f_X12_goesOn s l).1, (f_X12_goesOn s l).2) else (s, l)
set_option maxRecDepth 100000 in
set_option maxHeartbeats 4000000 in
theorem s_X12_roomFor {G : ab_G} {d : Nat} {D : fl_D} {s : fl_I} {l : fl_L} {v0 : Int32} {v1 : Int32} (hb0 : ¬ (v0 = v1) → ((s 60 13) = 0) → (((s 60 11) = (400 : Int32)) → (((s 60 13) ≤ 0) → vp_in ((su s 60 (upd (s 60) 13 (2 : Int32))) 60 11) 403))) (hb1 : (v0 = v1) → (((s 60 13) ≤ 0) → vp_in ((su s 60 (upd (s 60) 13 (2 : Int32))) 60 11) 403)) (hb2 : (v0 = v1) → (((f_X12_fail (2 : Int32) s l).1 60 13) = 0) → ((((f_X12_fail (2 : Int32) s l).1 60 11) = (400 : Int32)) → ((((f_X12_fail (2 : Int32) s l).1 60 13) ≤ 0) → vp_in ((su (f_X12_fail (2 : Int32) s l).1 60 (upd ((f_X12_fail (2 : Int32) s l).1 60) 13 (2 : Int32))) 60 11) 403))) : ab_C G (d + 2) 0 0 M_X12_roomFor 0 (ab_ent [.ref 60, .int v0, .int v1]) [] (hp D s l) (rt (none) (hp D (f_X12_roomFor v0 v1 s l).1 (f_X12_roomFor v0 v1 s l).2)) := by
  refine r_weak (L1 := [some (.ref 60), some (.int v0), some (.int v1)]) ⟨rfl, rfl, rfl, trivial⟩ ?_
  refine r_iload_n rfl rfl ?_
  refine r_iload_n rfl rfl ?_
  refine r_icmp_ne rfl (fun c_2 => ?_) (fun c_2 => ?_)
  · refine r_aload_n rfl rfl ?_
    refine q_getfield rfl (cc_60 _) rfl ?_
    refine r_if_ne rfl (fun c_14 => ?_) (fun c_14 => ?_)
    · refine r_ret rfl rfl ?_
      exact ⟨rfl, by (unfold f_X12_roomFor; (try dsimp only); rw [if_neg c_2, if_neg c_14])⟩
    · refine r_aload_n rfl rfl ?_
      refine q_callV0 [] _ rfl kY_X12_goesOn kT_X12_goesOn rfl rfl (Nat.le_of_ble_eq_true rfl) (Nat.le_of_ble_eq_true rfl) (cc_60 _) (s_X12_goesOn  (hb0 c_2 c_14)) (fun r h q => ?_)
      obtain ⟨rfl, rfl⟩ := q
      simp only [Option.toList, List.cons_append, List.nil_append]
      refine r_ret rfl rfl ?_
      exact ⟨rfl, by (unfold f_X12_roomFor; (try dsimp only); rw [if_neg c_2, if_pos c_14])⟩
  · refine r_aload_n rfl rfl ?_
    refine r_iconst_ (a := 2) rfl (by decide) ?_
    refine q_callV0 [_] _ rfl kY_X12_fail kT_X12_fail rfl rfl (Nat.le_of_ble_eq_true rfl) (Nat.le_of_ble_eq_true rfl) (cc_60 _) (s_X12_fail  (hb1 c_2)) (fun r h q => ?_)
    obtain ⟨rfl, rfl⟩ := q
    simp only [Option.toList, List.cons_append, List.nil_append]
    refine r_aload_n rfl rfl ?_
    refine q_getfield rfl (cc_60 _) rfl ?_
    refine r_if_ne rfl (fun c_14 => ?_) (fun c_14 => ?_)
    · refine r_ret rfl rfl ?_
      exact ⟨rfl, by (unfold f_X12_roomFor; (try dsimp only); rw [if_pos c_2, if_neg c_14])⟩
    · refine r_aload_n rfl rfl ?_
      refine q_callV0 [] _ rfl kY_X12_goesOn kT_X12_goesOn rfl rfl (Nat.le_of_ble_eq_true rfl) (Nat.le_of_ble_eq_true rfl) (cc_60 _) (s_X12_goesOn  (hb2 c_2 c_14)) (fun r h q => ?_)
      obtain ⟨rfl, rfl⟩ := q
      simp only [Option.toList, List.cons_append, List.nil_append]
      refine r_ret rfl rfl ?_
      exact ⟨rfl, by (unfold f_X12_roomFor; (try dsimp only); rw [if_pos c_2, if_pos c_14])⟩

def f_X12_toldInt (v0 : Int32) (v1 : Int32) (s : fl_I) (l : fl_L) : Int32 × fl_I × fl_L :=
  ((f_X12_bounded v0 v1 (f_X12_goesOn s l).1 (f_X12_goesOn s l).2).1, (f_X12_must (4 : Int32) (f_X12_bounded v0 v1 (f_X12_goesOn s l).1 (f_X12_goesOn s l).2).2.1 (f_X12_bounded v0 v1 (f_X12_goesOn s l).1 (f_X12_goesOn s l).2).2.2).1, (f_X12_must (4 : Int32) (f_X12_bounded v0 v1 (f_X12_goesOn s l).1 (f_X12_goesOn s l).2).2.1 (f_X12_bounded v0 v1 (f_X12_goesOn s l).1 (f_X12_goesOn s l).2).2.2).2)
set_option maxRecDepth 100000 in
set_option maxHeartbeats 4000000 in
theorem s_X12_toldInt {G : ab_G} {d : Nat} {D : fl_D} {s : fl_I} {l : fl_L} {v0 : Int32} {v1 : Int32} (hb0 : (((s 60 11) = (400 : Int32)) → (((s 60 13) ≤ 0) → vp_in ((su s 60 (upd (s 60) 13 (2 : Int32))) 60 11) 403))) (hb1 : ((0 < ((f_X12_goesOn s l).1 60 13)) → ((((f_X12_goesOn s l).1 60 13) ≤ 0) → vp_in ((su (f_X12_goesOn s l).1 60 (upd ((f_X12_goesOn s l).1 60) 13 (1 : Int32))) 60 11) 403))) (hb2 : (¬ (0 < ((f_X12_goesOn s l).1 60 13)) → ((((f_X12_goesOn s l).1 60 13) = 0) → vp_in ((f_X12_goesOn s l).1 60 11) 403))) (hb3 : (¬ (0 < ((f_X12_goesOn s l).1 60 13)) → ¬ ((f_X12_is (2 : Int32) (f_X12_goesOn s l).1 (f_X12_goesOn s l).2) = 0) → vp_in ((f_X12_goesOn s l).1 60 11) 403)) (hb4 : (¬ (0 < ((f_X12_goesOn s l).1 60 13)) → ¬ ((f_X12_is (2 : Int32) (f_X12_goesOn s l).1 (f_X12_goesOn s l).2) = 0) → (((f_X12_goesOn s l).1 65 ((f_X12_goesOn s l).1 60 11).toNatClampNeg) < v0) → (vp_in ((f_X12_goesOn s l).1 60 11) 403))) (hb5 : (¬ (0 < ((f_X12_goesOn s l).1 60 13)) → ¬ ((f_X12_is (2 : Int32) (f_X12_goesOn s l).1 (f_X12_goesOn s l).2) = 0) → (((f_X12_goesOn s l).1 65 ((f_X12_goesOn s l).1 60 11).toNatClampNeg) < v0) → ((((f_X12_wrong (5 : Int32) ((f_X12_goesOn s l).1 60 11) (f_X12_goesOn s l).1 (f_X12_goesOn s l).2).1 60 11) = (400 : Int32)) → ((((f_X12_wrong (5 : Int32) ((f_X12_goesOn s l).1 60 11) (f_X12_goesOn s l).1 (f_X12_goesOn s l).2).1 60 13) ≤ 0) → vp_in ((su (f_X12_wrong (5 : Int32) ((f_X12_goesOn s l).1 60 11) (f_X12_goesOn s l).1 (f_X12_goesOn s l).2).1 60 (upd ((f_X12_wrong (5 : Int32) ((f_X12_goesOn s l).1 60 11) (f_X12_goesOn s l).1 (f_X12_goesOn s l).2).1 60) 13 (2 : Int32))) 60 11) 403)))) (hb6 : (¬ (0 < ((f_X12_goesOn s l).1 60 13)) → ¬ ((f_X12_is (2 : Int32) (f_X12_goesOn s l).1 (f_X12_goesOn s l).2) = 0) → ¬ (((f_X12_goesOn s l).1 65 ((f_X12_goesOn s l).1 60 11).toNatClampNeg) < v0) → (((f_X12_goesOn s l).1 65 ((f_X12_goesOn s l).1 60 11).toNatClampNeg) ≤ v1) → ((((f_X12_goesOn s l).1 60 11) = (400 : Int32)) → ((((f_X12_goesOn s l).1 60 13) ≤ 0) → vp_in ((su (f_X12_goesOn s l).1 60 (upd ((f_X12_goesOn s l).1 60) 13 (2 : Int32))) 60 11) 403)))) (hb7 : (¬ (0 < ((f_X12_goesOn s l).1 60 13)) → ¬ ((f_X12_is (2 : Int32) (f_X12_goesOn s l).1 (f_X12_goesOn s l).2) = 0) → ¬ (((f_X12_goesOn s l).1 65 ((f_X12_goesOn s l).1 60 11).toNatClampNeg) < v0) → ¬ (((f_X12_goesOn s l).1 65 ((f_X12_goesOn s l).1 60 11).toNatClampNeg) ≤ v1) → (vp_in ((f_X12_goesOn s l).1 60 11) 403))) (hb8 : (¬ (0 < ((f_X12_goesOn s l).1 60 13)) → ¬ ((f_X12_is (2 : Int32) (f_X12_goesOn s l).1 (f_X12_goesOn s l).2) = 0) → ¬ (((f_X12_goesOn s l).1 65 ((f_X12_goesOn s l).1 60 11).toNatClampNeg) < v0) → ¬ (((f_X12_goesOn s l).1 65 ((f_X12_goesOn s l).1 60 11).toNatClampNeg) ≤ v1) → ((((f_X12_wrong (5 : Int32) ((f_X12_goesOn s l).1 60 11) (f_X12_goesOn s l).1 (f_X12_goesOn s l).2).1 60 11) = (400 : Int32)) → ((((f_X12_wrong (5 : Int32) ((f_X12_goesOn s l).1 60 11) (f_X12_goesOn s l).1 (f_X12_goesOn s l).2).1 60 13) ≤ 0) → vp_in ((su (f_X12_wrong (5 : Int32) ((f_X12_goesOn s l).1 60 11) (f_X12_goesOn s l).1 (f_X12_goesOn s l).2).1 60 (upd ((f_X12_wrong (5 : Int32) ((f_X12_goesOn s l).1 60 11) (f_X12_goesOn s l).1 (f_X12_goesOn s l).2).1 60) 13 (2 : Int32))) 60 11) 403)))) (hb9 : (¬ (0 < ((f_X12_goesOn s l).1 60 13)) → ((f_X12_is (2 : Int32) (f_X12_goesOn s l).1 (f_X12_goesOn s l).2) = 0) → ((((f_X12_goesOn s l).1 60 13) ≤ 0) → vp_in ((su (f_X12_goesOn s l).1 60 (upd ((f_X12_goesOn s l).1 60) 13 (1 : Int32))) 60 11) 403))) (hb10 : (((((f_X12_bounded v0 v1 (f_X12_goesOn s l).1 (f_X12_goesOn s l).2).2.1 60 13) = 0) → vp_in ((f_X12_bounded v0 v1 (f_X12_goesOn s l).1 (f_X12_goesOn s l).2).2.1 60 11) 403))) (hb11 : (((f_X12_is (4 : Int32) (f_X12_bounded v0 v1 (f_X12_goesOn s l).1 (f_X12_goesOn s l).2).2.1 (f_X12_bounded v0 v1 (f_X12_goesOn s l).1 (f_X12_goesOn s l).2).2.2) = 0) → ((((f_X12_bounded v0 v1 (f_X12_goesOn s l).1 (f_X12_goesOn s l).2).2.1 60 13) ≤ 0) → vp_in ((su (f_X12_bounded v0 v1 (f_X12_goesOn s l).1 (f_X12_goesOn s l).2).2.1 60 (upd ((f_X12_bounded v0 v1 (f_X12_goesOn s l).1 (f_X12_goesOn s l).2).2.1 60) 13 (1 : Int32))) 60 11) 403))) (hb12 : (¬ ((f_X12_is (4 : Int32) (f_X12_bounded v0 v1 (f_X12_goesOn s l).1 (f_X12_goesOn s l).2).2.1 (f_X12_bounded v0 v1 (f_X12_goesOn s l).1 (f_X12_goesOn s l).2).2.2) = 0) → ((((f_X12_bounded v0 v1 (f_X12_goesOn s l).1 (f_X12_goesOn s l).2).2.1 60 11) = (400 : Int32)) → ((((f_X12_bounded v0 v1 (f_X12_goesOn s l).1 (f_X12_goesOn s l).2).2.1 60 13) ≤ 0) → vp_in ((su (f_X12_bounded v0 v1 (f_X12_goesOn s l).1 (f_X12_goesOn s l).2).2.1 60 (upd ((f_X12_bounded v0 v1 (f_X12_goesOn s l).1 (f_X12_goesOn s l).2).2.1 60) 13 (2 : Int32))) 60 11) 403)))) : ab_C G (d + 3) 0 0 M_X12_toldInt 0 (ab_ent [.ref 60, .int v0, .int v1]) [] (hp D s l) (rt (some (.int (f_X12_toldInt v0 v1 s l).1)) (hp D (f_X12_toldInt v0 v1 s l).2.1 (f_X12_toldInt v0 v1 s l).2.2)) := by
  refine r_weak (L1 := [some (.ref 60), some (.int v0), some (.int v1), none]) ⟨rfl, rfl, rfl, trivial⟩ ?_
  refine r_aload_n rfl rfl ?_
  refine q_callV0 [] _ rfl kY_X12_goesOn kT_X12_goesOn rfl rfl (Nat.le_of_ble_eq_true rfl) (Nat.le_of_ble_eq_true rfl) (cc_60 _) (s_X12_goesOn  hb0) (fun r h q => ?_)
  obtain ⟨rfl, rfl⟩ := q
  simp only [Option.toList, List.cons_append, List.nil_append]
  refine r_aload_n rfl rfl ?_
  refine r_iload_n rfl rfl ?_
  refine r_iload_n rfl rfl ?_
  refine q_callV0 [_, _] _ rfl kY_X12_bounded kT_X12_bounded rfl rfl (Nat.le_of_ble_eq_true rfl) (Nat.le_of_ble_eq_true rfl) (cc_60 _) (s_X12_bounded  hb1 hb2 hb3 hb4 hb5 hb6 hb7 hb8 hb9) (fun r h q => ?_)
  obtain ⟨rfl, rfl⟩ := q
  simp only [Option.toList, List.cons_append, List.nil_append]
  refine r_istore_n rfl (Nat.le_of_ble_eq_true rfl) rfl ?_
  refine r_aload_n rfl rfl ?_
  refine r_iconst_ (a := 4) rfl (by decide) ?_
  refine q_callV0 [_] _ rfl kY_X12_must kT_X12_must rfl rfl (Nat.le_of_ble_eq_true rfl) (Nat.le_of_ble_eq_true rfl) (cc_60 _) (s_X12_must  hb10 hb11 hb12) (fun r h q => ?_)
  obtain ⟨rfl, rfl⟩ := q
  simp only [Option.toList, List.cons_append, List.nil_append]
  refine r_iload_n rfl rfl ?_
  refine r_iret rfl rfl rfl ?_
  exact ⟨rfl, rfl⟩

def f_X11_tell (v0 : Int32) (v1 : Int32) (s : fl_I) (l : fl_L) : Int32 × fl_I × fl_L :=
  if (v0 < (1 : Int32)) then ((-1 : Int32), s, l) else if ((26 : Int32) < v0) then ((-1 : Int32), s, l) else if ((s 57 0) < (20 : Int32)) then ((f_X7_add v0 v1 s l).1, (f_X7_add v0 v1 s l).2.1, (f_X7_add v0 v1 s l).2.2) else ((-1 : Int32), s, l)
set_option maxRecDepth 100000 in
set_option maxHeartbeats 4000000 in
theorem s_X11_tell {G : ab_G} {d : Nat} {D : fl_D} {s : fl_I} {l : fl_L} {v0 : Int32} {v1 : Int32} (hb0 : ¬ (v0 < (1 : Int32)) → ¬ ((26 : Int32) < v0) → ((s 57 0) < (20 : Int32)) → (¬ ((s 57 0) < 0) → ((s 57 0) < (20 : Int32)) → (v1 = 0) → vp_in (s 57 0) 20)) (hb1 : ¬ (v0 < (1 : Int32)) → ¬ ((26 : Int32) < v0) → ((s 57 0) < (20 : Int32)) → (¬ ((s 57 0) < 0) → ((s 57 0) < (20 : Int32)) → ¬ (v1 = 0) → vp_in (s 57 0) 20)) : ab_C G (d + 1) 0 0 M_X11_tell 0 (ab_ent [.ref 0, .int v0, .int v1]) [] (hp D s l) (rt (some (.int (f_X11_tell v0 v1 s l).1)) (hp D (f_X11_tell v0 v1 s l).2.1 (f_X11_tell v0 v1 s l).2.2)) := by
  refine r_weak (L1 := [some (.ref 0), some (.int v0), some (.int v1)]) ⟨rfl, rfl, rfl, trivial⟩ ?_
  refine r_iload_n rfl rfl ?_
  refine r_iconst_ (a := 1) rfl (by decide) ?_
  refine r_icmp_lt rfl (fun c_2 => ?_) (fun c_2 => ?_)
  · refine r_iconst_ (a := -1) rfl (by decide) ?_
    refine r_iret rfl rfl rfl ?_
    exact ⟨by (unfold f_X11_tell; (try dsimp only); rw [if_pos c_2]), by (unfold f_X11_tell; (try dsimp only); rw [if_pos c_2])⟩
  · refine r_iload_n rfl rfl ?_
    refine r_bipush_ (a := 26) rfl (by decide) ?_
    refine r_icmp_gt rfl (fun c_8 => ?_) (fun c_8 => ?_)
    · refine r_iconst_ (a := -1) rfl (by decide) ?_
      refine r_iret rfl rfl rfl ?_
      exact ⟨by (unfold f_X11_tell; (try dsimp only); rw [if_neg c_2, if_pos c_8]), by (unfold f_X11_tell; (try dsimp only); rw [if_neg c_2, if_pos c_8])⟩
    · refine r_aload_n rfl rfl ?_
      refine q_getfield rfl (cc_0 _) rfl ?_
      refine q_getfield rfl (cc_57 _) rfl ?_
      refine r_bipush_ (a := 20) rfl (by decide) ?_
      refine r_icmp_lt rfl (fun c_20 => ?_) (fun c_20 => ?_)
      · refine r_aload_n rfl rfl ?_
        refine q_getfield rfl (cc_0 _) rfl ?_
        refine r_iload_n rfl rfl ?_
        refine r_iload_n rfl rfl ?_
        refine q_callV0 [_, _] _ rfl kY_X7_add kT_X7_add rfl rfl (Nat.le_of_ble_eq_true rfl) (Nat.le_of_ble_eq_true rfl) (cc_57 _) (s_X7_add  (hb0 c_2 c_8 c_20) (hb1 c_2 c_8 c_20)) (fun r h q => ?_)
        obtain ⟨rfl, rfl⟩ := q
        simp only [Option.toList, List.cons_append, List.nil_append]
        refine r_iret rfl rfl rfl ?_
        exact ⟨by (unfold f_X11_tell; (try dsimp only); rw [if_neg c_2, if_neg c_8, if_pos c_20]), by (unfold f_X11_tell; (try dsimp only); rw [if_neg c_2, if_neg c_8, if_pos c_20])⟩
      · refine r_iconst_ (a := -1) rfl (by decide) ?_
        refine r_iret rfl rfl rfl ?_
        exact ⟨by (unfold f_X11_tell; (try dsimp only); rw [if_neg c_2, if_neg c_8, if_neg c_20]), by (unfold f_X11_tell; (try dsimp only); rw [if_neg c_2, if_neg c_8, if_neg c_20])⟩

def f_X3_takeInt (v0 : Int32) (v1 : Int32) (s : fl_I) (l : fl_L) : Int32 × fl_I × fl_L :=
  if (((su s 3 (upd (s 3) 6 (f_X3_valueNow s l).toInt32)) 3 6) < v0) then ((f_X3_take (3 : Int32) (f_X3_noteLater (5 : Int32) (su s 3 (upd (s 3) 6 (f_X3_valueNow s l).toInt32)) l).1 (f_X3_noteLater (5 : Int32) (su s 3 (upd (s 3) 6 (f_X3_valueNow s l).toInt32)) l).2).1, (f_X3_take (3 : Int32) (f_X3_noteLater (5 : Int32) (su s 3 (upd (s 3) 6 (f_X3_valueNow s l).toInt32)) l).1 (f_X3_noteLater (5 : Int32) (su s 3 (upd (s 3) 6 (f_X3_valueNow s l).toInt32)) l).2).2.1, (f_X3_take (3 : Int32) (f_X3_noteLater (5 : Int32) (su s 3 (upd (s 3) 6 (f_X3_valueNow s l).toInt32)) l).1 (f_X3_noteLater (5 : Int32) (su s 3 (upd (s 3) 6 (f_X3_valueNow s l).toInt32)) l).2).2.2) else if (((su s 3 (upd (s 3) 6 (f_X3_valueNow s l).toInt32)) 3 6) ≤ v1) then ((f_X3_take (3 : Int32) (su s 3 (upd (s 3) 6 (f_X3_valueNow s l).toInt32)) l).1, (f_X3_take (3 : Int32) (su s 3 (upd (s 3) 6 (f_X3_valueNow s l).toInt32)) l).2.1, (f_X3_take (3 : Int32) (su s 3 (upd (s 3) 6 (f_X3_valueNow s l).toInt32)) l).2.2) else ((f_X3_take (3 : Int32) (f_X3_noteLater (5 : Int32) (su s 3 (upd (s 3) 6 (f_X3_valueNow s l).toInt32)) l).1 (f_X3_noteLater (5 : Int32) (su s 3 (upd (s 3) 6 (f_X3_valueNow s l).toInt32)) l).2).1, (f_X3_take (3 : Int32) (f_X3_noteLater (5 : Int32) (su s 3 (upd (s 3) 6 (f_X3_valueNow s l).toInt32)) l).1 (f_X3_noteLater (5 : Int32) (su s 3 (upd (s 3) 6 (f_X3_valueNow s l).toInt32)) l).2).2.1, (f_X3_take (3 : Int32) (f_X3_noteLater (5 : Int32) (su s 3 (upd (s 3) 6 (f_X3_valueNow s l).toInt32)) l).1 (f_X3_noteLater (5 : Int32) (su s 3 (upd (s 3) 6 (f_X3_valueNow s l).toInt32)) l).2).2.2)
set_option maxRecDepth 100000 in
set_option maxHeartbeats 4000000 in
theorem s_X3_takeInt {G : ab_G} {d : Nat} {D : fl_D} {s : fl_I} {l : fl_L} {v0 : Int32} {v1 : Int32} (hb0 : (¬ ((s 3 2) < 0) → ((s 3 2) ≤ (400 : Int32)) → vp_in (s 3 2) 401)) (hb1 : (((su s 3 (upd (s 3) 6 (f_X3_valueNow s l).toInt32)) 3 6) < v0) → ((((su s 3 (upd (s 3) 6 (f_X3_valueNow s l).toInt32)) 3 4) = 0) → ¬ (((su s 3 (upd (s 3) 6 (f_X3_valueNow s l).toInt32)) 3 2) < 0) → ¬ ((400 : Int32) < ((su s 3 (upd (s 3) 6 (f_X3_valueNow s l).toInt32)) 3 2)) → vp_in ((su (su s 3 (upd (s 3) 6 (f_X3_valueNow s l).toInt32)) 3 (upd ((su s 3 (upd (s 3) 6 (f_X3_valueNow s l).toInt32)) 3) 4 (5 : Int32))) 3 2) 401)) (hb2 : (((su s 3 (upd (s 3) 6 (f_X3_valueNow s l).toInt32)) 3 6) < v0) → ((¬ (((f_X3_noteLater (5 : Int32) (su s 3 (upd (s 3) 6 (f_X3_valueNow s l).toInt32)) l).1 3 2) < 0) → (((f_X3_noteLater (5 : Int32) (su s 3 (upd (s 3) 6 (f_X3_valueNow s l).toInt32)) l).1 3 2) ≤ (400 : Int32)) → vp_in ((f_X3_noteLater (5 : Int32) (su s 3 (upd (s 3) 6 (f_X3_valueNow s l).toInt32)) l).1 3 2) 401))) (hb3 : (((su s 3 (upd (s 3) 6 (f_X3_valueNow s l).toInt32)) 3 6) < v0) → (((f_X3_kindNow (f_X3_noteLater (5 : Int32) (su s 3 (upd (s 3) 6 (f_X3_valueNow s l).toInt32)) l).1 (f_X3_noteLater (5 : Int32) (su s 3 (upd (s 3) 6 (f_X3_valueNow s l).toInt32)) l).2) = (3 : Int32)) → ¬ (((f_X3_noteLater (5 : Int32) (su s 3 (upd (s 3) 6 (f_X3_valueNow s l).toInt32)) l).1 3 2) < (400 : Int32)) → (¬ (((f_X3_noteLater (5 : Int32) (su s 3 (upd (s 3) 6 (f_X3_valueNow s l).toInt32)) l).1 3 2) < 0) → ¬ ((400 : Int32) < ((f_X3_noteLater (5 : Int32) (su s 3 (upd (s 3) 6 (f_X3_valueNow s l).toInt32)) l).1 3 2)) → vp_in ((su (f_X3_noteLater (5 : Int32) (su s 3 (upd (s 3) 6 (f_X3_valueNow s l).toInt32)) l).1 3 (upd ((f_X3_noteLater (5 : Int32) (su s 3 (upd (s 3) 6 (f_X3_valueNow s l).toInt32)) l).1 3) 3 (2 : Int32))) 3 2) 401))) (hb4 : (((su s 3 (upd (s 3) 6 (f_X3_valueNow s l).toInt32)) 3 6) < v0) → (((f_X3_kindNow (f_X3_noteLater (5 : Int32) (su s 3 (upd (s 3) 6 (f_X3_valueNow s l).toInt32)) l).1 (f_X3_noteLater (5 : Int32) (su s 3 (upd (s 3) 6 (f_X3_valueNow s l).toInt32)) l).2) = (3 : Int32)) → ¬ (((f_X3_noteLater (5 : Int32) (su s 3 (upd (s 3) 6 (f_X3_valueNow s l).toInt32)) l).1 3 2) < (400 : Int32)) → narrow .boolean (.int (f_X3_stop (2 : Int32) (f_X3_noteLater (5 : Int32) (su s 3 (upd (s 3) 6 (f_X3_valueNow s l).toInt32)) l).1 (f_X3_noteLater (5 : Int32) (su s 3 (upd (s 3) 6 (f_X3_valueNow s l).toInt32)) l).2).1) = .int (f_X3_stop (2 : Int32) (f_X3_noteLater (5 : Int32) (su s 3 (upd (s 3) 6 (f_X3_valueNow s l).toInt32)) l).1 (f_X3_noteLater (5 : Int32) (su s 3 (upd (s 3) 6 (f_X3_valueNow s l).toInt32)) l).2).1)) (hb5 : (((su s 3 (upd (s 3) 6 (f_X3_valueNow s l).toInt32)) 3 6) < v0) → (¬ ((f_X3_kindNow (f_X3_noteLater (5 : Int32) (su s 3 (upd (s 3) 6 (f_X3_valueNow s l).toInt32)) l).1 (f_X3_noteLater (5 : Int32) (su s 3 (upd (s 3) 6 (f_X3_valueNow s l).toInt32)) l).2) = (3 : Int32)) → (¬ (((f_X3_noteLater (5 : Int32) (su s 3 (upd (s 3) 6 (f_X3_valueNow s l).toInt32)) l).1 3 2) < 0) → ¬ ((400 : Int32) < ((f_X3_noteLater (5 : Int32) (su s 3 (upd (s 3) 6 (f_X3_valueNow s l).toInt32)) l).1 3 2)) → vp_in ((su (f_X3_noteLater (5 : Int32) (su s 3 (upd (s 3) 6 (f_X3_valueNow s l).toInt32)) l).1 3 (upd ((f_X3_noteLater (5 : Int32) (su s 3 (upd (s 3) 6 (f_X3_valueNow s l).toInt32)) l).1 3) 3 (1 : Int32))) 3 2) 401))) (hb6 : (((su s 3 (upd (s 3) 6 (f_X3_valueNow s l).toInt32)) 3 6) < v0) → (¬ ((f_X3_kindNow (f_X3_noteLater (5 : Int32) (su s 3 (upd (s 3) 6 (f_X3_valueNow s l).toInt32)) l).1 (f_X3_noteLater (5 : Int32) (su s 3 (upd (s 3) 6 (f_X3_valueNow s l).toInt32)) l).2) = (3 : Int32)) → narrow .boolean (.int (f_X3_stop (1 : Int32) (f_X3_noteLater (5 : Int32) (su s 3 (upd (s 3) 6 (f_X3_valueNow s l).toInt32)) l).1 (f_X3_noteLater (5 : Int32) (su s 3 (upd (s 3) 6 (f_X3_valueNow s l).toInt32)) l).2).1) = .int (f_X3_stop (1 : Int32) (f_X3_noteLater (5 : Int32) (su s 3 (upd (s 3) 6 (f_X3_valueNow s l).toInt32)) l).1 (f_X3_noteLater (5 : Int32) (su s 3 (upd (s 3) 6 (f_X3_valueNow s l).toInt32)) l).2).1)) (hb7 : (((su s 3 (upd (s 3) 6 (f_X3_valueNow s l).toInt32)) 3 6) < v0) → narrow .boolean (.int (f_X3_take (3 : Int32) (f_X3_noteLater (5 : Int32) (su s 3 (upd (s 3) 6 (f_X3_valueNow s l).toInt32)) l).1 (f_X3_noteLater (5 : Int32) (su s 3 (upd (s 3) 6 (f_X3_valueNow s l).toInt32)) l).2).1) = .int (f_X3_take (3 : Int32) (f_X3_noteLater (5 : Int32) (su s 3 (upd (s 3) 6 (f_X3_valueNow s l).toInt32)) l).1 (f_X3_noteLater (5 : Int32) (su s 3 (upd (s 3) 6 (f_X3_valueNow s l).toInt32)) l).2).1) (hb8 : ¬ (((su s 3 (upd (s 3) 6 (f_X3_valueNow s l).toInt32)) 3 6) < v0) → (((su s 3 (upd (s 3) 6 (f_X3_valueNow s l).toInt32)) 3 6) ≤ v1) → ((¬ (((su s 3 (upd (s 3) 6 (f_X3_valueNow s l).toInt32)) 3 2) < 0) → (((su s 3 (upd (s 3) 6 (f_X3_valueNow s l).toInt32)) 3 2) ≤ (400 : Int32)) → vp_in ((su s 3 (upd (s 3) 6 (f_X3_valueNow s l).toInt32)) 3 2) 401))) (hb9 : ¬ (((su s 3 (upd (s 3) 6 (f_X3_valueNow s l).toInt32)) 3 6) < v0) → (((su s 3 (upd (s 3) 6 (f_X3_valueNow s l).toInt32)) 3 6) ≤ v1) → (((f_X3_kindNow (su s 3 (upd (s 3) 6 (f_X3_valueNow s l).toInt32)) l) = (3 : Int32)) → ¬ (((su s 3 (upd (s 3) 6 (f_X3_valueNow s l).toInt32)) 3 2) < (400 : Int32)) → (¬ (((su s 3 (upd (s 3) 6 (f_X3_valueNow s l).toInt32)) 3 2) < 0) → ¬ ((400 : Int32) < ((su s 3 (upd (s 3) 6 (f_X3_valueNow s l).toInt32)) 3 2)) → vp_in ((su (su s 3 (upd (s 3) 6 (f_X3_valueNow s l).toInt32)) 3 (upd ((su s 3 (upd (s 3) 6 (f_X3_valueNow s l).toInt32)) 3) 3 (2 : Int32))) 3 2) 401))) (hb10 : ¬ (((su s 3 (upd (s 3) 6 (f_X3_valueNow s l).toInt32)) 3 6) < v0) → (((su s 3 (upd (s 3) 6 (f_X3_valueNow s l).toInt32)) 3 6) ≤ v1) → (((f_X3_kindNow (su s 3 (upd (s 3) 6 (f_X3_valueNow s l).toInt32)) l) = (3 : Int32)) → ¬ (((su s 3 (upd (s 3) 6 (f_X3_valueNow s l).toInt32)) 3 2) < (400 : Int32)) → narrow .boolean (.int (f_X3_stop (2 : Int32) (su s 3 (upd (s 3) 6 (f_X3_valueNow s l).toInt32)) l).1) = .int (f_X3_stop (2 : Int32) (su s 3 (upd (s 3) 6 (f_X3_valueNow s l).toInt32)) l).1)) (hb11 : ¬ (((su s 3 (upd (s 3) 6 (f_X3_valueNow s l).toInt32)) 3 6) < v0) → (((su s 3 (upd (s 3) 6 (f_X3_valueNow s l).toInt32)) 3 6) ≤ v1) → (¬ ((f_X3_kindNow (su s 3 (upd (s 3) 6 (f_X3_valueNow s l).toInt32)) l) = (3 : Int32)) → (¬ (((su s 3 (upd (s 3) 6 (f_X3_valueNow s l).toInt32)) 3 2) < 0) → ¬ ((400 : Int32) < ((su s 3 (upd (s 3) 6 (f_X3_valueNow s l).toInt32)) 3 2)) → vp_in ((su (su s 3 (upd (s 3) 6 (f_X3_valueNow s l).toInt32)) 3 (upd ((su s 3 (upd (s 3) 6 (f_X3_valueNow s l).toInt32)) 3) 3 (1 : Int32))) 3 2) 401))) (hb12 : ¬ (((su s 3 (upd (s 3) 6 (f_X3_valueNow s l).toInt32)) 3 6) < v0) → (((su s 3 (upd (s 3) 6 (f_X3_valueNow s l).toInt32)) 3 6) ≤ v1) → (¬ ((f_X3_kindNow (su s 3 (upd (s 3) 6 (f_X3_valueNow s l).toInt32)) l) = (3 : Int32)) → narrow .boolean (.int (f_X3_stop (1 : Int32) (su s 3 (upd (s 3) 6 (f_X3_valueNow s l).toInt32)) l).1) = .int (f_X3_stop (1 : Int32) (su s 3 (upd (s 3) 6 (f_X3_valueNow s l).toInt32)) l).1)) (hb13 : ¬ (((su s 3 (upd (s 3) 6 (f_X3_valueNow s l).toInt32)) 3 6) < v0) → (((su s 3 (upd (s 3) 6 (f_X3_valueNow s l).toInt32)) 3 6) ≤ v1) → narrow .boolean (.int (f_X3_take (3 : Int32) (su s 3 (upd (s 3) 6 (f_X3_valueNow s l).toInt32)) l).1) = .int (f_X3_take (3 : Int32) (su s 3 (upd (s 3) 6 (f_X3_valueNow s l).toInt32)) l).1) (hb14 : ¬ (((su s 3 (upd (s 3) 6 (f_X3_valueNow s l).toInt32)) 3 6) < v0) → ¬ (((su s 3 (upd (s 3) 6 (f_X3_valueNow s l).toInt32)) 3 6) ≤ v1) → ((((su s 3 (upd (s 3) 6 (f_X3_valueNow s l).toInt32)) 3 4) = 0) → ¬ (((su s 3 (upd (s 3) 6 (f_X3_valueNow s l).toInt32)) 3 2) < 0) → ¬ ((400 : Int32) < ((su s 3 (upd (s 3) 6 (f_X3_valueNow s l).toInt32)) 3 2)) → vp_in ((su (su s 3 (upd (s 3) 6 (f_X3_valueNow s l).toInt32)) 3 (upd ((su s 3 (upd (s 3) 6 (f_X3_valueNow s l).toInt32)) 3) 4 (5 : Int32))) 3 2) 401)) (hb15 : ¬ (((su s 3 (upd (s 3) 6 (f_X3_valueNow s l).toInt32)) 3 6) < v0) → ¬ (((su s 3 (upd (s 3) 6 (f_X3_valueNow s l).toInt32)) 3 6) ≤ v1) → ((¬ (((f_X3_noteLater (5 : Int32) (su s 3 (upd (s 3) 6 (f_X3_valueNow s l).toInt32)) l).1 3 2) < 0) → (((f_X3_noteLater (5 : Int32) (su s 3 (upd (s 3) 6 (f_X3_valueNow s l).toInt32)) l).1 3 2) ≤ (400 : Int32)) → vp_in ((f_X3_noteLater (5 : Int32) (su s 3 (upd (s 3) 6 (f_X3_valueNow s l).toInt32)) l).1 3 2) 401))) (hb16 : ¬ (((su s 3 (upd (s 3) 6 (f_X3_valueNow s l).toInt32)) 3 6) < v0) → ¬ (((su s 3 (upd (s 3) 6 (f_X3_valueNow s l).toInt32)) 3 6) ≤ v1) → (((f_X3_kindNow (f_X3_noteLater (5 : Int32) (su s 3 (upd (s 3) 6 (f_X3_valueNow s l).toInt32)) l).1 (f_X3_noteLater (5 : Int32) (su s 3 (upd (s 3) 6 (f_X3_valueNow s l).toInt32)) l).2) = (3 : Int32)) → ¬ (((f_X3_noteLater (5 : Int32) (su s 3 (upd (s 3) 6 (f_X3_valueNow s l).toInt32)) l).1 3 2) < (400 : Int32)) → (¬ (((f_X3_noteLater (5 : Int32) (su s 3 (upd (s 3) 6 (f_X3_valueNow s l).toInt32)) l).1 3 2) < 0) → ¬ ((400 : Int32) < ((f_X3_noteLater (5 : Int32) (su s 3 (upd (s 3) 6 (f_X3_valueNow s l).toInt32)) l).1 3 2)) → vp_in ((su (f_X3_noteLater (5 : Int32) (su s 3 (upd (s 3) 6 (f_X3_valueNow s l).toInt32)) l).1 3 (upd ((f_X3_noteLater (5 : Int32) (su s 3 (upd (s 3) 6 (f_X3_valueNow s l).toInt32)) l).1 3) 3 (2 : Int32))) 3 2) 401))) (hb17 : ¬ (((su s 3 (upd (s 3) 6 (f_X3_valueNow s l).toInt32)) 3 6) < v0) → ¬ (((su s 3 (upd (s 3) 6 (f_X3_valueNow s l).toInt32)) 3 6) ≤ v1) → (((f_X3_kindNow (f_X3_noteLater (5 : Int32) (su s 3 (upd (s 3) 6 (f_X3_valueNow s l).toInt32)) l).1 (f_X3_noteLater (5 : Int32) (su s 3 (upd (s 3) 6 (f_X3_valueNow s l).toInt32)) l).2) = (3 : Int32)) → ¬ (((f_X3_noteLater (5 : Int32) (su s 3 (upd (s 3) 6 (f_X3_valueNow s l).toInt32)) l).1 3 2) < (400 : Int32)) → narrow .boolean (.int (f_X3_stop (2 : Int32) (f_X3_noteLater (5 : Int32) (su s 3 (upd (s 3) 6 (f_X3_valueNow s l).toInt32)) l).1 (f_X3_noteLater (5 : Int32) (su s 3 (upd (s 3) 6 (f_X3_valueNow s l).toInt32)) l).2).1) = .int (f_X3_stop (2 : Int32) (f_X3_noteLater (5 : Int32) (su s 3 (upd (s 3) 6 (f_X3_valueNow s l).toInt32)) l).1 (f_X3_noteLater (5 : Int32) (su s 3 (upd (s 3) 6 (f_X3_valueNow s l).toInt32)) l).2).1)) (hb18 : ¬ (((su s 3 (upd (s 3) 6 (f_X3_valueNow s l).toInt32)) 3 6) < v0) → ¬ (((su s 3 (upd (s 3) 6 (f_X3_valueNow s l).toInt32)) 3 6) ≤ v1) → (¬ ((f_X3_kindNow (f_X3_noteLater (5 : Int32) (su s 3 (upd (s 3) 6 (f_X3_valueNow s l).toInt32)) l).1 (f_X3_noteLater (5 : Int32) (su s 3 (upd (s 3) 6 (f_X3_valueNow s l).toInt32)) l).2) = (3 : Int32)) → (¬ (((f_X3_noteLater (5 : Int32) (su s 3 (upd (s 3) 6 (f_X3_valueNow s l).toInt32)) l).1 3 2) < 0) → ¬ ((400 : Int32) < ((f_X3_noteLater (5 : Int32) (su s 3 (upd (s 3) 6 (f_X3_valueNow s l).toInt32)) l).1 3 2)) → vp_in ((su (f_X3_noteLater (5 : Int32) (su s 3 (upd (s 3) 6 (f_X3_valueNow s l).toInt32)) l).1 3 (upd ((f_X3_noteLater (5 : Int32) (su s 3 (upd (s 3) 6 (f_X3_valueNow s l).toInt32)) l).1 3) 3 (1 : Int32))) 3 2) 401))) (hb19 : ¬ (((su s 3 (upd (s 3) 6 (f_X3_valueNow s l).toInt32)) 3 6) < v0) → ¬ (((su s 3 (upd (s 3) 6 (f_X3_valueNow s l).toInt32)) 3 6) ≤ v1) → (¬ ((f_X3_kindNow (f_X3_noteLater (5 : Int32) (su s 3 (upd (s 3) 6 (f_X3_valueNow s l).toInt32)) l).1 (f_X3_noteLater (5 : Int32) (su s 3 (upd (s 3) 6 (f_X3_valueNow s l).toInt32)) l).2) = (3 : Int32)) → narrow .boolean (.int (f_X3_stop (1 : Int32) (f_X3_noteLater (5 : Int32) (su s 3 (upd (s 3) 6 (f_X3_valueNow s l).toInt32)) l).1 (f_X3_noteLater (5 : Int32) (su s 3 (upd (s 3) 6 (f_X3_valueNow s l).toInt32)) l).2).1) = .int (f_X3_stop (1 : Int32) (f_X3_noteLater (5 : Int32) (su s 3 (upd (s 3) 6 (f_X3_valueNow s l).toInt32)) l).1 (f_X3_noteLater (5 : Int32) (su s 3 (upd (s 3) 6 (f_X3_valueNow s l).toInt32)) l).2).1)) (hb20 : ¬ (((su s 3 (upd (s 3) 6 (f_X3_valueNow s l).toInt32)) 3 6) < v0) → ¬ (((su s 3 (upd (s 3) 6 (f_X3_valueNow s l).toInt32)) 3 6) ≤ v1) → narrow .boolean (.int (f_X3_take (3 : Int32) (f_X3_noteLater (5 : Int32) (su s 3 (upd (s 3) 6 (f_X3_valueNow s l).toInt32)) l).1 (f_X3_noteLater (5 : Int32) (su s 3 (upd (s 3) 6 (f_X3_valueNow s l).toInt32)) l).2).1) = .int (f_X3_take (3 : Int32) (f_X3_noteLater (5 : Int32) (su s 3 (upd (s 3) 6 (f_X3_valueNow s l).toInt32)) l).1 (f_X3_noteLater (5 : Int32) (su s 3 (upd (s 3) 6 (f_X3_valueNow s l).toInt32)) l).2).1) : ab_C G (d + 2) 0 0 M_X3_takeInt 0 (ab_ent [.ref 3, .int v0, .int v1]) [] (hp D s l) (rt (some (.int (f_X3_takeInt v0 v1 s l).1)) (hp D (f_X3_takeInt v0 v1 s l).2.1 (f_X3_takeInt v0 v1 s l).2.2)) := by
  refine r_weak (L1 := [some (.ref 3), some (.int v0), some (.int v1)]) ⟨rfl, rfl, rfl, trivial⟩ ?_
  refine r_aload_n rfl rfl ?_
  refine r_aload_n rfl rfl ?_
  refine q_callV0 [] _ rfl kY_X3_valueNow kT_X3_valueNow rfl rfl (Nat.le_of_ble_eq_true rfl) (Nat.le_of_ble_eq_true rfl) (cc_3 _) (s_X3_valueNow  hb0) (fun r h q => ?_)
  obtain ⟨rfl, rfl⟩ := q
  simp only [Option.toList, List.cons_append, List.nil_append]
  refine r_l2i rfl ?_
  refine w_put rfl (cc_3 _) ff_3_6 ft_3_6 (Nat.le_of_ble_eq_true rfl) rfl ?_
  refine r_aload_n rfl rfl ?_
  refine q_getfield rfl (cc_3 _) rfl ?_
  refine r_iload_n rfl rfl ?_
  refine r_icmp_lt rfl (fun c_14 => ?_) (fun c_14 => ?_)
  · refine r_aload_n rfl rfl ?_
    refine r_iconst_ (a := 5) rfl (by decide) ?_
    refine q_callV0 [_] _ rfl kY_X3_noteLater kT_X3_noteLater rfl rfl (Nat.le_of_ble_eq_true rfl) (Nat.le_of_ble_eq_true rfl) (cc_3 _) (s_X3_noteLater  (hb1 c_14)) (fun r h q => ?_)
    obtain ⟨rfl, rfl⟩ := q
    simp only [Option.toList, List.cons_append, List.nil_append]
    refine r_aload_n rfl rfl ?_
    refine r_iconst_ (a := 3) rfl (by decide) ?_
    refine q_callV0 [_] _ rfl kY_X3_take kT_X3_take rfl rfl (Nat.le_of_ble_eq_true rfl) (Nat.le_of_ble_eq_true rfl) (cc_3 _) (s_X3_take  (hb2 c_14) (hb3 c_14) (hb4 c_14) (hb5 c_14) (hb6 c_14)) (fun r h q => ?_)
    obtain ⟨rfl, rfl⟩ := q
    simp only [Option.toList, List.cons_append, List.nil_append]
    refine r_iret rfl rfl (hb7 c_14) ?_
    exact ⟨by (unfold f_X3_takeInt; (try dsimp only); rw [if_pos c_14]), by (unfold f_X3_takeInt; (try dsimp only); rw [if_pos c_14])⟩
  · refine r_aload_n rfl rfl ?_
    refine q_getfield rfl (cc_3 _) rfl ?_
    refine r_iload_n rfl rfl ?_
    refine r_icmp_le rfl (fun c_22 => ?_) (fun c_22 => ?_)
    · refine r_aload_n rfl rfl ?_
      refine r_iconst_ (a := 3) rfl (by decide) ?_
      refine q_callV0 [_] _ rfl kY_X3_take kT_X3_take rfl rfl (Nat.le_of_ble_eq_true rfl) (Nat.le_of_ble_eq_true rfl) (cc_3 _) (s_X3_take  (hb8 c_14 c_22) (hb9 c_14 c_22) (hb10 c_14 c_22) (hb11 c_14 c_22) (hb12 c_14 c_22)) (fun r h q => ?_)
      obtain ⟨rfl, rfl⟩ := q
      simp only [Option.toList, List.cons_append, List.nil_append]
      refine r_iret rfl rfl (hb13 c_14 c_22) ?_
      exact ⟨by (unfold f_X3_takeInt; (try dsimp only); rw [if_neg c_14, if_pos c_22]), by (unfold f_X3_takeInt; (try dsimp only); rw [if_neg c_14, if_pos c_22])⟩
    · refine r_aload_n rfl rfl ?_
      refine r_iconst_ (a := 5) rfl (by decide) ?_
      refine q_callV0 [_] _ rfl kY_X3_noteLater kT_X3_noteLater rfl rfl (Nat.le_of_ble_eq_true rfl) (Nat.le_of_ble_eq_true rfl) (cc_3 _) (s_X3_noteLater  (hb14 c_14 c_22)) (fun r h q => ?_)
      obtain ⟨rfl, rfl⟩ := q
      simp only [Option.toList, List.cons_append, List.nil_append]
      refine r_aload_n rfl rfl ?_
      refine r_iconst_ (a := 3) rfl (by decide) ?_
      refine q_callV0 [_] _ rfl kY_X3_take kT_X3_take rfl rfl (Nat.le_of_ble_eq_true rfl) (Nat.le_of_ble_eq_true rfl) (cc_3 _) (s_X3_take  (hb15 c_14 c_22) (hb16 c_14 c_22) (hb17 c_14 c_22) (hb18 c_14 c_22) (hb19 c_14 c_22)) (fun r h q => ?_)
      obtain ⟨rfl, rfl⟩ := q
      simp only [Option.toList, List.cons_append, List.nil_append]
      refine r_iret rfl rfl (hb20 c_14 c_22) ?_
      exact ⟨by (unfold f_X3_takeInt; (try dsimp only); rw [if_neg c_14, if_neg c_22]), by (unfold f_X3_takeInt; (try dsimp only); rw [if_neg c_14, if_neg c_22])⟩

def f_X3_rainTold  (t : Nat) (s : fl_I) (l : fl_L) : Int32 × fl_I × fl_L :=
  if ((f_X3_take (263 : Int32) s l).1 = 0) then ((0 : Int32), (f_X3_take (263 : Int32) s l).2.1, (f_X3_take (263 : Int32) s l).2.2) else if ((f_X3_takeInt (0 : Int32) (100 : Int32) (f_X3_take (263 : Int32) s l).2.1 (f_X3_take (263 : Int32) s l).2.2).1 = 0) then ((0 : Int32), (f_X3_takeInt (0 : Int32) (100 : Int32) (f_X3_take (263 : Int32) s l).2.1 (f_X3_take (263 : Int32) s l).2.2).2.1, (f_X3_takeInt (0 : Int32) (100 : Int32) (f_X3_take (263 : Int32) s l).2.1 (f_X3_take (263 : Int32) s l).2.2).2.2) else if ((f_X3_take (59 : Int32) (f_X3_takeInt (0 : Int32) (100 : Int32) (f_X3_take (263 : Int32) s l).2.1 (f_X3_take (263 : Int32) s l).2.2).2.1 (f_X3_takeInt (0 : Int32) (100 : Int32) (f_X3_take (263 : Int32) s l).2.1 (f_X3_take (263 : Int32) s l).2.2).2.2).1 = 0) then ((0 : Int32), (f_X3_take (59 : Int32) (f_X3_takeInt (0 : Int32) (100 : Int32) (f_X3_take (263 : Int32) s l).2.1 (f_X3_take (263 : Int32) s l).2.2).2.1 (f_X3_takeInt (0 : Int32) (100 : Int32) (f_X3_take (263 : Int32) s l).2.1 (f_X3_take (263 : Int32) s l).2.2).2.2).2.1, (f_X3_take (59 : Int32) (f_X3_takeInt (0 : Int32) (100 : Int32) (f_X3_take (263 : Int32) s l).2.1 (f_X3_take (263 : Int32) s l).2.2).2.1 (f_X3_takeInt (0 : Int32) (100 : Int32) (f_X3_take (263 : Int32) s l).2.1 (f_X3_take (263 : Int32) s l).2.2).2.2).2.2) else ((1 : Int32), (su (f_X3_take (59 : Int32) (f_X3_takeInt (0 : Int32) (100 : Int32) (f_X3_take (263 : Int32) s l).2.1 (f_X3_take (263 : Int32) s l).2.2).2.1 (f_X3_takeInt (0 : Int32) (100 : Int32) (f_X3_take (263 : Int32) s l).2.1 (f_X3_take (263 : Int32) s l).2.2).2.2).2.1 t (upd ((f_X3_take (59 : Int32) (f_X3_takeInt (0 : Int32) (100 : Int32) (f_X3_take (263 : Int32) s l).2.1 (f_X3_take (263 : Int32) s l).2.2).2.1 (f_X3_takeInt (0 : Int32) (100 : Int32) (f_X3_take (263 : Int32) s l).2.1 (f_X3_take (263 : Int32) s l).2.2).2.2).2.1 t) 17 ((f_X3_take (59 : Int32) (f_X3_takeInt (0 : Int32) (100 : Int32) (f_X3_take (263 : Int32) s l).2.1 (f_X3_take (263 : Int32) s l).2.2).2.1 (f_X3_takeInt (0 : Int32) (100 : Int32) (f_X3_take (263 : Int32) s l).2.1 (f_X3_take (263 : Int32) s l).2.2).2.2).2.1 3 6))), (f_X3_take (59 : Int32) (f_X3_takeInt (0 : Int32) (100 : Int32) (f_X3_take (263 : Int32) s l).2.1 (f_X3_take (263 : Int32) s l).2.2).2.1 (f_X3_takeInt (0 : Int32) (100 : Int32) (f_X3_take (263 : Int32) s l).2.1 (f_X3_take (263 : Int32) s l).2.2).2.2).2.2)
set_option maxRecDepth 100000 in
set_option maxHeartbeats 4000000 in
theorem s_X3_rainTold {G : ab_G} {d : Nat} {D : fl_D} {s : fl_I} {l : fl_L} {t : Nat} (htt : isT t)  (hb0 : ((¬ ((s 3 2) < 0) → ((s 3 2) ≤ (400 : Int32)) → vp_in (s 3 2) 401))) (hb1 : (((f_X3_kindNow s l) = (263 : Int32)) → ¬ ((s 3 2) < (400 : Int32)) → (¬ ((s 3 2) < 0) → ¬ ((400 : Int32) < (s 3 2)) → vp_in ((su s 3 (upd (s 3) 3 (2 : Int32))) 3 2) 401))) (hb2 : (((f_X3_kindNow s l) = (263 : Int32)) → ¬ ((s 3 2) < (400 : Int32)) → narrow .boolean (.int (f_X3_stop (2 : Int32) s l).1) = .int (f_X3_stop (2 : Int32) s l).1)) (hb3 : (¬ ((f_X3_kindNow s l) = (263 : Int32)) → (¬ ((s 3 2) < 0) → ¬ ((400 : Int32) < (s 3 2)) → vp_in ((su s 3 (upd (s 3) 3 (1 : Int32))) 3 2) 401))) (hb4 : (¬ ((f_X3_kindNow s l) = (263 : Int32)) → narrow .boolean (.int (f_X3_stop (1 : Int32) s l).1) = .int (f_X3_stop (1 : Int32) s l).1)) (hb5 : ¬ ((f_X3_take (263 : Int32) s l).1 = 0) → ((¬ (((f_X3_take (263 : Int32) s l).2.1 3 2) < 0) → (((f_X3_take (263 : Int32) s l).2.1 3 2) ≤ (400 : Int32)) → vp_in ((f_X3_take (263 : Int32) s l).2.1 3 2) 401))) (hb6 : ¬ ((f_X3_take (263 : Int32) s l).1 = 0) → ((((su (f_X3_take (263 : Int32) s l).2.1 3 (upd ((f_X3_take (263 : Int32) s l).2.1 3) 6 (f_X3_valueNow (f_X3_take (263 : Int32) s l).2.1 (f_X3_take (263 : Int32) s l).2.2).toInt32)) 3 6) < (0 : Int32)) → ((((su (f_X3_take (263 : Int32) s l).2.1 3 (upd ((f_X3_take (263 : Int32) s l).2.1 3) 6 (f_X3_valueNow (f_X3_take (263 : Int32) s l).2.1 (f_X3_take (263 : Int32) s l).2.2).toInt32)) 3 4) = 0) → ¬ (((su (f_X3_take (263 : Int32) s l).2.1 3 (upd ((f_X3_take (263 : Int32) s l).2.1 3) 6 (f_X3_valueNow (f_X3_take (263 : Int32) s l).2.1 (f_X3_take (263 : Int32) s l).2.2).toInt32)) 3 2) < 0) → ¬ ((400 : Int32) < ((su (f_X3_take (263 : Int32) s l).2.1 3 (upd ((f_X3_take (263 : Int32) s l).2.1 3) 6 (f_X3_valueNow (f_X3_take (263 : Int32) s l).2.1 (f_X3_take (263 : Int32) s l).2.2).toInt32)) 3 2)) → vp_in ((su (su (f_X3_take (263 : Int32) s l).2.1 3 (upd ((f_X3_take (263 : Int32) s l).2.1 3) 6 (f_X3_valueNow (f_X3_take (263 : Int32) s l).2.1 (f_X3_take (263 : Int32) s l).2.2).toInt32)) 3 (upd ((su (f_X3_take (263 : Int32) s l).2.1 3 (upd ((f_X3_take (263 : Int32) s l).2.1 3) 6 (f_X3_valueNow (f_X3_take (263 : Int32) s l).2.1 (f_X3_take (263 : Int32) s l).2.2).toInt32)) 3) 4 (5 : Int32))) 3 2) 401))) (hb7 : ¬ ((f_X3_take (263 : Int32) s l).1 = 0) → ((((su (f_X3_take (263 : Int32) s l).2.1 3 (upd ((f_X3_take (263 : Int32) s l).2.1 3) 6 (f_X3_valueNow (f_X3_take (263 : Int32) s l).2.1 (f_X3_take (263 : Int32) s l).2.2).toInt32)) 3 6) < (0 : Int32)) → ((¬ (((f_X3_noteLater (5 : Int32) (su (f_X3_take (263 : Int32) s l).2.1 3 (upd ((f_X3_take (263 : Int32) s l).2.1 3) 6 (f_X3_valueNow (f_X3_take (263 : Int32) s l).2.1 (f_X3_take (263 : Int32) s l).2.2).toInt32)) (f_X3_take (263 : Int32) s l).2.2).1 3 2) < 0) → (((f_X3_noteLater (5 : Int32) (su (f_X3_take (263 : Int32) s l).2.1 3 (upd ((f_X3_take (263 : Int32) s l).2.1 3) 6 (f_X3_valueNow (f_X3_take (263 : Int32) s l).2.1 (f_X3_take (263 : Int32) s l).2.2).toInt32)) (f_X3_take (263 : Int32) s l).2.2).1 3 2) ≤ (400 : Int32)) → vp_in ((f_X3_noteLater (5 : Int32) (su (f_X3_take (263 : Int32) s l).2.1 3 (upd ((f_X3_take (263 : Int32) s l).2.1 3) 6 (f_X3_valueNow (f_X3_take (263 : Int32) s l).2.1 (f_X3_take (263 : Int32) s l).2.2).toInt32)) (f_X3_take (263 : Int32) s l).2.2).1 3 2) 401)))) (hb8 : ¬ ((f_X3_take (263 : Int32) s l).1 = 0) → ((((su (f_X3_take (263 : Int32) s l).2.1 3 (upd ((f_X3_take (263 : Int32) s l).2.1 3) 6 (f_X3_valueNow (f_X3_take (263 : Int32) s l).2.1 (f_X3_take (263 : Int32) s l).2.2).toInt32)) 3 6) < (0 : Int32)) → (((f_X3_kindNow (f_X3_noteLater (5 : Int32) (su (f_X3_take (263 : Int32) s l).2.1 3 (upd ((f_X3_take (263 : Int32) s l).2.1 3) 6 (f_X3_valueNow (f_X3_take (263 : Int32) s l).2.1 (f_X3_take (263 : Int32) s l).2.2).toInt32)) (f_X3_take (263 : Int32) s l).2.2).1 (f_X3_noteLater (5 : Int32) (su (f_X3_take (263 : Int32) s l).2.1 3 (upd ((f_X3_take (263 : Int32) s l).2.1 3) 6 (f_X3_valueNow (f_X3_take (263 : Int32) s l).2.1 (f_X3_take (263 : Int32) s l).2.2).toInt32)) (f_X3_take (263 : Int32) s l).2.2).2) = (3 : Int32)) → ¬ (((f_X3_noteLater (5 : Int32) (su (f_X3_take (263 : Int32) s l).2.1 3 (upd ((f_X3_take (263 : Int32) s l).2.1 3) 6 (f_X3_valueNow (f_X3_take (263 : Int32) s l).2.1 (f_X3_take (263 : Int32) s l).2.2).toInt32)) (f_X3_take (263 : Int32) s l).2.2).1 3 2) < (400 : Int32)) → (¬ (((f_X3_noteLater (5 : Int32) (su (f_X3_take (263 : Int32) s l).2.1 3 (upd ((f_X3_take (263 : Int32) s l).2.1 3) 6 (f_X3_valueNow (f_X3_take (263 : Int32) s l).2.1 (f_X3_take (263 : Int32) s l).2.2).toInt32)) (f_X3_take (263 : Int32) s l).2.2).1 3 2) < 0) → ¬ ((400 : Int32) < ((f_X3_noteLater (5 : Int32) (su (f_X3_take (263 : Int32) s l).2.1 3 (upd ((f_X3_take (263 : Int32) s l).2.1 3) 6 (f_X3_valueNow (f_X3_take (263 : Int32) s l).2.1 (f_X3_take (263 : Int32) s l).2.2).toInt32)) (f_X3_take (263 : Int32) s l).2.2).1 3 2)) → vp_in ((su (f_X3_noteLater (5 : Int32) (su (f_X3_take (263 : Int32) s l).2.1 3 (upd ((f_X3_take (263 : Int32) s l).2.1 3) 6 (f_X3_valueNow (f_X3_take (263 : Int32) s l).2.1 (f_X3_take (263 : Int32) s l).2.2).toInt32)) (f_X3_take (263 : Int32) s l).2.2).1 3 (upd ((f_X3_noteLater (5 : Int32) (su (f_X3_take (263 : Int32) s l).2.1 3 (upd ((f_X3_take (263 : Int32) s l).2.1 3) 6 (f_X3_valueNow (f_X3_take (263 : Int32) s l).2.1 (f_X3_take (263 : Int32) s l).2.2).toInt32)) (f_X3_take (263 : Int32) s l).2.2).1 3) 3 (2 : Int32))) 3 2) 401)))) (hb9 : ¬ ((f_X3_take (263 : Int32) s l).1 = 0) → ((((su (f_X3_take (263 : Int32) s l).2.1 3 (upd ((f_X3_take (263 : Int32) s l).2.1 3) 6 (f_X3_valueNow (f_X3_take (263 : Int32) s l).2.1 (f_X3_take (263 : Int32) s l).2.2).toInt32)) 3 6) < (0 : Int32)) → (((f_X3_kindNow (f_X3_noteLater (5 : Int32) (su (f_X3_take (263 : Int32) s l).2.1 3 (upd ((f_X3_take (263 : Int32) s l).2.1 3) 6 (f_X3_valueNow (f_X3_take (263 : Int32) s l).2.1 (f_X3_take (263 : Int32) s l).2.2).toInt32)) (f_X3_take (263 : Int32) s l).2.2).1 (f_X3_noteLater (5 : Int32) (su (f_X3_take (263 : Int32) s l).2.1 3 (upd ((f_X3_take (263 : Int32) s l).2.1 3) 6 (f_X3_valueNow (f_X3_take (263 : Int32) s l).2.1 (f_X3_take (263 : Int32) s l).2.2).toInt32)) (f_X3_take (263 : Int32) s l).2.2).2) = (3 : Int32)) → ¬ (((f_X3_noteLater (5 : Int32) (su (f_X3_take (263 : Int32) s l).2.1 3 (upd ((f_X3_take (263 : Int32) s l).2.1 3) 6 (f_X3_valueNow (f_X3_take (263 : Int32) s l).2.1 (f_X3_take (263 : Int32) s l).2.2).toInt32)) (f_X3_take (263 : Int32) s l).2.2).1 3 2) < (400 : Int32)) → narrow .boolean (.int (f_X3_stop (2 : Int32) (f_X3_noteLater (5 : Int32) (su (f_X3_take (263 : Int32) s l).2.1 3 (upd ((f_X3_take (263 : Int32) s l).2.1 3) 6 (f_X3_valueNow (f_X3_take (263 : Int32) s l).2.1 (f_X3_take (263 : Int32) s l).2.2).toInt32)) (f_X3_take (263 : Int32) s l).2.2).1 (f_X3_noteLater (5 : Int32) (su (f_X3_take (263 : Int32) s l).2.1 3 (upd ((f_X3_take (263 : Int32) s l).2.1 3) 6 (f_X3_valueNow (f_X3_take (263 : Int32) s l).2.1 (f_X3_take (263 : Int32) s l).2.2).toInt32)) (f_X3_take (263 : Int32) s l).2.2).2).1) = .int (f_X3_stop (2 : Int32) (f_X3_noteLater (5 : Int32) (su (f_X3_take (263 : Int32) s l).2.1 3 (upd ((f_X3_take (263 : Int32) s l).2.1 3) 6 (f_X3_valueNow (f_X3_take (263 : Int32) s l).2.1 (f_X3_take (263 : Int32) s l).2.2).toInt32)) (f_X3_take (263 : Int32) s l).2.2).1 (f_X3_noteLater (5 : Int32) (su (f_X3_take (263 : Int32) s l).2.1 3 (upd ((f_X3_take (263 : Int32) s l).2.1 3) 6 (f_X3_valueNow (f_X3_take (263 : Int32) s l).2.1 (f_X3_take (263 : Int32) s l).2.2).toInt32)) (f_X3_take (263 : Int32) s l).2.2).2).1))) (hb10 : ¬ ((f_X3_take (263 : Int32) s l).1 = 0) → ((((su (f_X3_take (263 : Int32) s l).2.1 3 (upd ((f_X3_take (263 : Int32) s l).2.1 3) 6 (f_X3_valueNow (f_X3_take (263 : Int32) s l).2.1 (f_X3_take (263 : Int32) s l).2.2).toInt32)) 3 6) < (0 : Int32)) → (¬ ((f_X3_kindNow (f_X3_noteLater (5 : Int32) (su (f_X3_take (263 : Int32) s l).2.1 3 (upd ((f_X3_take (263 : Int32) s l).2.1 3) 6 (f_X3_valueNow (f_X3_take (263 : Int32) s l).2.1 (f_X3_take (263 : Int32) s l).2.2).toInt32)) (f_X3_take (263 : Int32) s l).2.2).1 (f_X3_noteLater (5 : Int32) (su (f_X3_take (263 : Int32) s l).2.1 3 (upd ((f_X3_take (263 : Int32) s l).2.1 3) 6 (f_X3_valueNow (f_X3_take (263 : Int32) s l).2.1 (f_X3_take (263 : Int32) s l).2.2).toInt32)) (f_X3_take (263 : Int32) s l).2.2).2) = (3 : Int32)) → (¬ (((f_X3_noteLater (5 : Int32) (su (f_X3_take (263 : Int32) s l).2.1 3 (upd ((f_X3_take (263 : Int32) s l).2.1 3) 6 (f_X3_valueNow (f_X3_take (263 : Int32) s l).2.1 (f_X3_take (263 : Int32) s l).2.2).toInt32)) (f_X3_take (263 : Int32) s l).2.2).1 3 2) < 0) → ¬ ((400 : Int32) < ((f_X3_noteLater (5 : Int32) (su (f_X3_take (263 : Int32) s l).2.1 3 (upd ((f_X3_take (263 : Int32) s l).2.1 3) 6 (f_X3_valueNow (f_X3_take (263 : Int32) s l).2.1 (f_X3_take (263 : Int32) s l).2.2).toInt32)) (f_X3_take (263 : Int32) s l).2.2).1 3 2)) → vp_in ((su (f_X3_noteLater (5 : Int32) (su (f_X3_take (263 : Int32) s l).2.1 3 (upd ((f_X3_take (263 : Int32) s l).2.1 3) 6 (f_X3_valueNow (f_X3_take (263 : Int32) s l).2.1 (f_X3_take (263 : Int32) s l).2.2).toInt32)) (f_X3_take (263 : Int32) s l).2.2).1 3 (upd ((f_X3_noteLater (5 : Int32) (su (f_X3_take (263 : Int32) s l).2.1 3 (upd ((f_X3_take (263 : Int32) s l).2.1 3) 6 (f_X3_valueNow (f_X3_take (263 : Int32) s l).2.1 (f_X3_take (263 : Int32) s l).2.2).toInt32)) (f_X3_take (263 : Int32) s l).2.2).1 3) 3 (1 : Int32))) 3 2) 401)))) (hb11 : ¬ ((f_X3_take (263 : Int32) s l).1 = 0) → ((((su (f_X3_take (263 : Int32) s l).2.1 3 (upd ((f_X3_take (263 : Int32) s l).2.1 3) 6 (f_X3_valueNow (f_X3_take (263 : Int32) s l).2.1 (f_X3_take (263 : Int32) s l).2.2).toInt32)) 3 6) < (0 : Int32)) → (¬ ((f_X3_kindNow (f_X3_noteLater (5 : Int32) (su (f_X3_take (263 : Int32) s l).2.1 3 (upd ((f_X3_take (263 : Int32) s l).2.1 3) 6 (f_X3_valueNow (f_X3_take (263 : Int32) s l).2.1 (f_X3_take (263 : Int32) s l).2.2).toInt32)) (f_X3_take (263 : Int32) s l).2.2).1 (f_X3_noteLater (5 : Int32) (su (f_X3_take (263 : Int32) s l).2.1 3 (upd ((f_X3_take (263 : Int32) s l).2.1 3) 6 (f_X3_valueNow (f_X3_take (263 : Int32) s l).2.1 (f_X3_take (263 : Int32) s l).2.2).toInt32)) (f_X3_take (263 : Int32) s l).2.2).2) = (3 : Int32)) → narrow .boolean (.int (f_X3_stop (1 : Int32) (f_X3_noteLater (5 : Int32) (su (f_X3_take (263 : Int32) s l).2.1 3 (upd ((f_X3_take (263 : Int32) s l).2.1 3) 6 (f_X3_valueNow (f_X3_take (263 : Int32) s l).2.1 (f_X3_take (263 : Int32) s l).2.2).toInt32)) (f_X3_take (263 : Int32) s l).2.2).1 (f_X3_noteLater (5 : Int32) (su (f_X3_take (263 : Int32) s l).2.1 3 (upd ((f_X3_take (263 : Int32) s l).2.1 3) 6 (f_X3_valueNow (f_X3_take (263 : Int32) s l).2.1 (f_X3_take (263 : Int32) s l).2.2).toInt32)) (f_X3_take (263 : Int32) s l).2.2).2).1) = .int (f_X3_stop (1 : Int32) (f_X3_noteLater (5 : Int32) (su (f_X3_take (263 : Int32) s l).2.1 3 (upd ((f_X3_take (263 : Int32) s l).2.1 3) 6 (f_X3_valueNow (f_X3_take (263 : Int32) s l).2.1 (f_X3_take (263 : Int32) s l).2.2).toInt32)) (f_X3_take (263 : Int32) s l).2.2).1 (f_X3_noteLater (5 : Int32) (su (f_X3_take (263 : Int32) s l).2.1 3 (upd ((f_X3_take (263 : Int32) s l).2.1 3) 6 (f_X3_valueNow (f_X3_take (263 : Int32) s l).2.1 (f_X3_take (263 : Int32) s l).2.2).toInt32)) (f_X3_take (263 : Int32) s l).2.2).2).1))) (hb12 : ¬ ((f_X3_take (263 : Int32) s l).1 = 0) → ((((su (f_X3_take (263 : Int32) s l).2.1 3 (upd ((f_X3_take (263 : Int32) s l).2.1 3) 6 (f_X3_valueNow (f_X3_take (263 : Int32) s l).2.1 (f_X3_take (263 : Int32) s l).2.2).toInt32)) 3 6) < (0 : Int32)) → narrow .boolean (.int (f_X3_take (3 : Int32) (f_X3_noteLater (5 : Int32) (su (f_X3_take (263 : Int32) s l).2.1 3 (upd ((f_X3_take (263 : Int32) s l).2.1 3) 6 (f_X3_valueNow (f_X3_take (263 : Int32) s l).2.1 (f_X3_take (263 : Int32) s l).2.2).toInt32)) (f_X3_take (263 : Int32) s l).2.2).1 (f_X3_noteLater (5 : Int32) (su (f_X3_take (263 : Int32) s l).2.1 3 (upd ((f_X3_take (263 : Int32) s l).2.1 3) 6 (f_X3_valueNow (f_X3_take (263 : Int32) s l).2.1 (f_X3_take (263 : Int32) s l).2.2).toInt32)) (f_X3_take (263 : Int32) s l).2.2).2).1) = .int (f_X3_take (3 : Int32) (f_X3_noteLater (5 : Int32) (su (f_X3_take (263 : Int32) s l).2.1 3 (upd ((f_X3_take (263 : Int32) s l).2.1 3) 6 (f_X3_valueNow (f_X3_take (263 : Int32) s l).2.1 (f_X3_take (263 : Int32) s l).2.2).toInt32)) (f_X3_take (263 : Int32) s l).2.2).1 (f_X3_noteLater (5 : Int32) (su (f_X3_take (263 : Int32) s l).2.1 3 (upd ((f_X3_take (263 : Int32) s l).2.1 3) 6 (f_X3_valueNow (f_X3_take (263 : Int32) s l).2.1 (f_X3_take (263 : Int32) s l).2.2).toInt32)) (f_X3_take (263 : Int32) s l).2.2).2).1)) (hb13 : ¬ ((f_X3_take (263 : Int32) s l).1 = 0) → (¬ (((su (f_X3_take (263 : Int32) s l).2.1 3 (upd ((f_X3_take (263 : Int32) s l).2.1 3) 6 (f_X3_valueNow (f_X3_take (263 : Int32) s l).2.1 (f_X3_take (263 : Int32) s l).2.2).toInt32)) 3 6) < (0 : Int32)) → (((su (f_X3_take (263 : Int32) s l).2.1 3 (upd ((f_X3_take (263 : Int32) s l).2.1 3) 6 (f_X3_valueNow (f_X3_take (263 : Int32) s l).2.1 (f_X3_take (263 : Int32) s l).2.2).toInt32)) 3 6) ≤ (100 : Int32)) → ((¬ (((su (f_X3_take (263 : Int32) s l).2.1 3 (upd ((f_X3_take (263 : Int32) s l).2.1 3) 6 (f_X3_valueNow (f_X3_take (263 : Int32) s l).2.1 (f_X3_take (263 : Int32) s l).2.2).toInt32)) 3 2) < 0) → (((su (f_X3_take (263 : Int32) s l).2.1 3 (upd ((f_X3_take (263 : Int32) s l).2.1 3) 6 (f_X3_valueNow (f_X3_take (263 : Int32) s l).2.1 (f_X3_take (263 : Int32) s l).2.2).toInt32)) 3 2) ≤ (400 : Int32)) → vp_in ((su (f_X3_take (263 : Int32) s l).2.1 3 (upd ((f_X3_take (263 : Int32) s l).2.1 3) 6 (f_X3_valueNow (f_X3_take (263 : Int32) s l).2.1 (f_X3_take (263 : Int32) s l).2.2).toInt32)) 3 2) 401)))) (hb14 : ¬ ((f_X3_take (263 : Int32) s l).1 = 0) → (¬ (((su (f_X3_take (263 : Int32) s l).2.1 3 (upd ((f_X3_take (263 : Int32) s l).2.1 3) 6 (f_X3_valueNow (f_X3_take (263 : Int32) s l).2.1 (f_X3_take (263 : Int32) s l).2.2).toInt32)) 3 6) < (0 : Int32)) → (((su (f_X3_take (263 : Int32) s l).2.1 3 (upd ((f_X3_take (263 : Int32) s l).2.1 3) 6 (f_X3_valueNow (f_X3_take (263 : Int32) s l).2.1 (f_X3_take (263 : Int32) s l).2.2).toInt32)) 3 6) ≤ (100 : Int32)) → (((f_X3_kindNow (su (f_X3_take (263 : Int32) s l).2.1 3 (upd ((f_X3_take (263 : Int32) s l).2.1 3) 6 (f_X3_valueNow (f_X3_take (263 : Int32) s l).2.1 (f_X3_take (263 : Int32) s l).2.2).toInt32)) (f_X3_take (263 : Int32) s l).2.2) = (3 : Int32)) → ¬ (((su (f_X3_take (263 : Int32) s l).2.1 3 (upd ((f_X3_take (263 : Int32) s l).2.1 3) 6 (f_X3_valueNow (f_X3_take (263 : Int32) s l).2.1 (f_X3_take (263 : Int32) s l).2.2).toInt32)) 3 2) < (400 : Int32)) → (¬ (((su (f_X3_take (263 : Int32) s l).2.1 3 (upd ((f_X3_take (263 : Int32) s l).2.1 3) 6 (f_X3_valueNow (f_X3_take (263 : Int32) s l).2.1 (f_X3_take (263 : Int32) s l).2.2).toInt32)) 3 2) < 0) → ¬ ((400 : Int32) < ((su (f_X3_take (263 : Int32) s l).2.1 3 (upd ((f_X3_take (263 : Int32) s l).2.1 3) 6 (f_X3_valueNow (f_X3_take (263 : Int32) s l).2.1 (f_X3_take (263 : Int32) s l).2.2).toInt32)) 3 2)) → vp_in ((su (su (f_X3_take (263 : Int32) s l).2.1 3 (upd ((f_X3_take (263 : Int32) s l).2.1 3) 6 (f_X3_valueNow (f_X3_take (263 : Int32) s l).2.1 (f_X3_take (263 : Int32) s l).2.2).toInt32)) 3 (upd ((su (f_X3_take (263 : Int32) s l).2.1 3 (upd ((f_X3_take (263 : Int32) s l).2.1 3) 6 (f_X3_valueNow (f_X3_take (263 : Int32) s l).2.1 (f_X3_take (263 : Int32) s l).2.2).toInt32)) 3) 3 (2 : Int32))) 3 2) 401)))) (hb15 : ¬ ((f_X3_take (263 : Int32) s l).1 = 0) → (¬ (((su (f_X3_take (263 : Int32) s l).2.1 3 (upd ((f_X3_take (263 : Int32) s l).2.1 3) 6 (f_X3_valueNow (f_X3_take (263 : Int32) s l).2.1 (f_X3_take (263 : Int32) s l).2.2).toInt32)) 3 6) < (0 : Int32)) → (((su (f_X3_take (263 : Int32) s l).2.1 3 (upd ((f_X3_take (263 : Int32) s l).2.1 3) 6 (f_X3_valueNow (f_X3_take (263 : Int32) s l).2.1 (f_X3_take (263 : Int32) s l).2.2).toInt32)) 3 6) ≤ (100 : Int32)) → (((f_X3_kindNow (su (f_X3_take (263 : Int32) s l).2.1 3 (upd ((f_X3_take (263 : Int32) s l).2.1 3) 6 (f_X3_valueNow (f_X3_take (263 : Int32) s l).2.1 (f_X3_take (263 : Int32) s l).2.2).toInt32)) (f_X3_take (263 : Int32) s l).2.2) = (3 : Int32)) → ¬ (((su (f_X3_take (263 : Int32) s l).2.1 3 (upd ((f_X3_take (263 : Int32) s l).2.1 3) 6 (f_X3_valueNow (f_X3_take (263 : Int32) s l).2.1 (f_X3_take (263 : Int32) s l).2.2).toInt32)) 3 2) < (400 : Int32)) → narrow .boolean (.int (f_X3_stop (2 : Int32) (su (f_X3_take (263 : Int32) s l).2.1 3 (upd ((f_X3_take (263 : Int32) s l).2.1 3) 6 (f_X3_valueNow (f_X3_take (263 : Int32) s l).2.1 (f_X3_take (263 : Int32) s l).2.2).toInt32)) (f_X3_take (263 : Int32) s l).2.2).1) = .int (f_X3_stop (2 : Int32) (su (f_X3_take (263 : Int32) s l).2.1 3 (upd ((f_X3_take (263 : Int32) s l).2.1 3) 6 (f_X3_valueNow (f_X3_take (263 : Int32) s l).2.1 (f_X3_take (263 : Int32) s l).2.2).toInt32)) (f_X3_take (263 : Int32) s l).2.2).1))) (hb16 : ¬ ((f_X3_take (263 : Int32) s l).1 = 0) → (¬ (((su (f_X3_take (263 : Int32) s l).2.1 3 (upd ((f_X3_take (263 : Int32) s l).2.1 3) 6 (f_X3_valueNow (f_X3_take (263 : Int32) s l).2.1 (f_X3_take (263 : Int32) s l).2.2).toInt32)) 3 6) < (0 : Int32)) → (((su (f_X3_take (263 : Int32) s l).2.1 3 (upd ((f_X3_take (263 : Int32) s l).2.1 3) 6 (f_X3_valueNow (f_X3_take (263 : Int32) s l).2.1 (f_X3_take (263 : Int32) s l).2.2).toInt32)) 3 6) ≤ (100 : Int32)) → (¬ ((f_X3_kindNow (su (f_X3_take (263 : Int32) s l).2.1 3 (upd ((f_X3_take (263 : Int32) s l).2.1 3) 6 (f_X3_valueNow (f_X3_take (263 : Int32) s l).2.1 (f_X3_take (263 : Int32) s l).2.2).toInt32)) (f_X3_take (263 : Int32) s l).2.2) = (3 : Int32)) → (¬ (((su (f_X3_take (263 : Int32) s l).2.1 3 (upd ((f_X3_take (263 : Int32) s l).2.1 3) 6 (f_X3_valueNow (f_X3_take (263 : Int32) s l).2.1 (f_X3_take (263 : Int32) s l).2.2).toInt32)) 3 2) < 0) → ¬ ((400 : Int32) < ((su (f_X3_take (263 : Int32) s l).2.1 3 (upd ((f_X3_take (263 : Int32) s l).2.1 3) 6 (f_X3_valueNow (f_X3_take (263 : Int32) s l).2.1 (f_X3_take (263 : Int32) s l).2.2).toInt32)) 3 2)) → vp_in ((su (su (f_X3_take (263 : Int32) s l).2.1 3 (upd ((f_X3_take (263 : Int32) s l).2.1 3) 6 (f_X3_valueNow (f_X3_take (263 : Int32) s l).2.1 (f_X3_take (263 : Int32) s l).2.2).toInt32)) 3 (upd ((su (f_X3_take (263 : Int32) s l).2.1 3 (upd ((f_X3_take (263 : Int32) s l).2.1 3) 6 (f_X3_valueNow (f_X3_take (263 : Int32) s l).2.1 (f_X3_take (263 : Int32) s l).2.2).toInt32)) 3) 3 (1 : Int32))) 3 2) 401)))) (hb17 : ¬ ((f_X3_take (263 : Int32) s l).1 = 0) → (¬ (((su (f_X3_take (263 : Int32) s l).2.1 3 (upd ((f_X3_take (263 : Int32) s l).2.1 3) 6 (f_X3_valueNow (f_X3_take (263 : Int32) s l).2.1 (f_X3_take (263 : Int32) s l).2.2).toInt32)) 3 6) < (0 : Int32)) → (((su (f_X3_take (263 : Int32) s l).2.1 3 (upd ((f_X3_take (263 : Int32) s l).2.1 3) 6 (f_X3_valueNow (f_X3_take (263 : Int32) s l).2.1 (f_X3_take (263 : Int32) s l).2.2).toInt32)) 3 6) ≤ (100 : Int32)) → (¬ ((f_X3_kindNow (su (f_X3_take (263 : Int32) s l).2.1 3 (upd ((f_X3_take (263 : Int32) s l).2.1 3) 6 (f_X3_valueNow (f_X3_take (263 : Int32) s l).2.1 (f_X3_take (263 : Int32) s l).2.2).toInt32)) (f_X3_take (263 : Int32) s l).2.2) = (3 : Int32)) → narrow .boolean (.int (f_X3_stop (1 : Int32) (su (f_X3_take (263 : Int32) s l).2.1 3 (upd ((f_X3_take (263 : Int32) s l).2.1 3) 6 (f_X3_valueNow (f_X3_take (263 : Int32) s l).2.1 (f_X3_take (263 : Int32) s l).2.2).toInt32)) (f_X3_take (263 : Int32) s l).2.2).1) = .int (f_X3_stop (1 : Int32) (su (f_X3_take (263 : Int32) s l).2.1 3 (upd ((f_X3_take (263 : Int32) s l).2.1 3) 6 (f_X3_valueNow (f_X3_take (263 : Int32) s l).2.1 (f_X3_take (263 : Int32) s l).2.2).toInt32)) (f_X3_take (263 : Int32) s l).2.2).1))) (hb18 : ¬ ((f_X3_take (263 : Int32) s l).1 = 0) → (¬ (((su (f_X3_take (263 : Int32) s l).2.1 3 (upd ((f_X3_take (263 : Int32) s l).2.1 3) 6 (f_X3_valueNow (f_X3_take (263 : Int32) s l).2.1 (f_X3_take (263 : Int32) s l).2.2).toInt32)) 3 6) < (0 : Int32)) → (((su (f_X3_take (263 : Int32) s l).2.1 3 (upd ((f_X3_take (263 : Int32) s l).2.1 3) 6 (f_X3_valueNow (f_X3_take (263 : Int32) s l).2.1 (f_X3_take (263 : Int32) s l).2.2).toInt32)) 3 6) ≤ (100 : Int32)) → narrow .boolean (.int (f_X3_take (3 : Int32) (su (f_X3_take (263 : Int32) s l).2.1 3 (upd ((f_X3_take (263 : Int32) s l).2.1 3) 6 (f_X3_valueNow (f_X3_take (263 : Int32) s l).2.1 (f_X3_take (263 : Int32) s l).2.2).toInt32)) (f_X3_take (263 : Int32) s l).2.2).1) = .int (f_X3_take (3 : Int32) (su (f_X3_take (263 : Int32) s l).2.1 3 (upd ((f_X3_take (263 : Int32) s l).2.1 3) 6 (f_X3_valueNow (f_X3_take (263 : Int32) s l).2.1 (f_X3_take (263 : Int32) s l).2.2).toInt32)) (f_X3_take (263 : Int32) s l).2.2).1)) (hb19 : ¬ ((f_X3_take (263 : Int32) s l).1 = 0) → (¬ (((su (f_X3_take (263 : Int32) s l).2.1 3 (upd ((f_X3_take (263 : Int32) s l).2.1 3) 6 (f_X3_valueNow (f_X3_take (263 : Int32) s l).2.1 (f_X3_take (263 : Int32) s l).2.2).toInt32)) 3 6) < (0 : Int32)) → ¬ (((su (f_X3_take (263 : Int32) s l).2.1 3 (upd ((f_X3_take (263 : Int32) s l).2.1 3) 6 (f_X3_valueNow (f_X3_take (263 : Int32) s l).2.1 (f_X3_take (263 : Int32) s l).2.2).toInt32)) 3 6) ≤ (100 : Int32)) → ((((su (f_X3_take (263 : Int32) s l).2.1 3 (upd ((f_X3_take (263 : Int32) s l).2.1 3) 6 (f_X3_valueNow (f_X3_take (263 : Int32) s l).2.1 (f_X3_take (263 : Int32) s l).2.2).toInt32)) 3 4) = 0) → ¬ (((su (f_X3_take (263 : Int32) s l).2.1 3 (upd ((f_X3_take (263 : Int32) s l).2.1 3) 6 (f_X3_valueNow (f_X3_take (263 : Int32) s l).2.1 (f_X3_take (263 : Int32) s l).2.2).toInt32)) 3 2) < 0) → ¬ ((400 : Int32) < ((su (f_X3_take (263 : Int32) s l).2.1 3 (upd ((f_X3_take (263 : Int32) s l).2.1 3) 6 (f_X3_valueNow (f_X3_take (263 : Int32) s l).2.1 (f_X3_take (263 : Int32) s l).2.2).toInt32)) 3 2)) → vp_in ((su (su (f_X3_take (263 : Int32) s l).2.1 3 (upd ((f_X3_take (263 : Int32) s l).2.1 3) 6 (f_X3_valueNow (f_X3_take (263 : Int32) s l).2.1 (f_X3_take (263 : Int32) s l).2.2).toInt32)) 3 (upd ((su (f_X3_take (263 : Int32) s l).2.1 3 (upd ((f_X3_take (263 : Int32) s l).2.1 3) 6 (f_X3_valueNow (f_X3_take (263 : Int32) s l).2.1 (f_X3_take (263 : Int32) s l).2.2).toInt32)) 3) 4 (5 : Int32))) 3 2) 401))) (hb20 : ¬ ((f_X3_take (263 : Int32) s l).1 = 0) → (¬ (((su (f_X3_take (263 : Int32) s l).2.1 3 (upd ((f_X3_take (263 : Int32) s l).2.1 3) 6 (f_X3_valueNow (f_X3_take (263 : Int32) s l).2.1 (f_X3_take (263 : Int32) s l).2.2).toInt32)) 3 6) < (0 : Int32)) → ¬ (((su (f_X3_take (263 : Int32) s l).2.1 3 (upd ((f_X3_take (263 : Int32) s l).2.1 3) 6 (f_X3_valueNow (f_X3_take (263 : Int32) s l).2.1 (f_X3_take (263 : Int32) s l).2.2).toInt32)) 3 6) ≤ (100 : Int32)) → ((¬ (((f_X3_noteLater (5 : Int32) (su (f_X3_take (263 : Int32) s l).2.1 3 (upd ((f_X3_take (263 : Int32) s l).2.1 3) 6 (f_X3_valueNow (f_X3_take (263 : Int32) s l).2.1 (f_X3_take (263 : Int32) s l).2.2).toInt32)) (f_X3_take (263 : Int32) s l).2.2).1 3 2) < 0) → (((f_X3_noteLater (5 : Int32) (su (f_X3_take (263 : Int32) s l).2.1 3 (upd ((f_X3_take (263 : Int32) s l).2.1 3) 6 (f_X3_valueNow (f_X3_take (263 : Int32) s l).2.1 (f_X3_take (263 : Int32) s l).2.2).toInt32)) (f_X3_take (263 : Int32) s l).2.2).1 3 2) ≤ (400 : Int32)) → vp_in ((f_X3_noteLater (5 : Int32) (su (f_X3_take (263 : Int32) s l).2.1 3 (upd ((f_X3_take (263 : Int32) s l).2.1 3) 6 (f_X3_valueNow (f_X3_take (263 : Int32) s l).2.1 (f_X3_take (263 : Int32) s l).2.2).toInt32)) (f_X3_take (263 : Int32) s l).2.2).1 3 2) 401)))) (hb21 : ¬ ((f_X3_take (263 : Int32) s l).1 = 0) → (¬ (((su (f_X3_take (263 : Int32) s l).2.1 3 (upd ((f_X3_take (263 : Int32) s l).2.1 3) 6 (f_X3_valueNow (f_X3_take (263 : Int32) s l).2.1 (f_X3_take (263 : Int32) s l).2.2).toInt32)) 3 6) < (0 : Int32)) → ¬ (((su (f_X3_take (263 : Int32) s l).2.1 3 (upd ((f_X3_take (263 : Int32) s l).2.1 3) 6 (f_X3_valueNow (f_X3_take (263 : Int32) s l).2.1 (f_X3_take (263 : Int32) s l).2.2).toInt32)) 3 6) ≤ (100 : Int32)) → (((f_X3_kindNow (f_X3_noteLater (5 : Int32) (su (f_X3_take (263 : Int32) s l).2.1 3 (upd ((f_X3_take (263 : Int32) s l).2.1 3) 6 (f_X3_valueNow (f_X3_take (263 : Int32) s l).2.1 (f_X3_take (263 : Int32) s l).2.2).toInt32)) (f_X3_take (263 : Int32) s l).2.2).1 (f_X3_noteLater (5 : Int32) (su (f_X3_take (263 : Int32) s l).2.1 3 (upd ((f_X3_take (263 : Int32) s l).2.1 3) 6 (f_X3_valueNow (f_X3_take (263 : Int32) s l).2.1 (f_X3_take (263 : Int32) s l).2.2).toInt32)) (f_X3_take (263 : Int32) s l).2.2).2) = (3 : Int32)) → ¬ (((f_X3_noteLater (5 : Int32) (su (f_X3_take (263 : Int32) s l).2.1 3 (upd ((f_X3_take (263 : Int32) s l).2.1 3) 6 (f_X3_valueNow (f_X3_take (263 : Int32) s l).2.1 (f_X3_take (263 : Int32) s l).2.2).toInt32)) (f_X3_take (263 : Int32) s l).2.2).1 3 2) < (400 : Int32)) → (¬ (((f_X3_noteLater (5 : Int32) (su (f_X3_take (263 : Int32) s l).2.1 3 (upd ((f_X3_take (263 : Int32) s l).2.1 3) 6 (f_X3_valueNow (f_X3_take (263 : Int32) s l).2.1 (f_X3_take (263 : Int32) s l).2.2).toInt32)) (f_X3_take (263 : Int32) s l).2.2).1 3 2) < 0) → ¬ ((400 : Int32) < ((f_X3_noteLater (5 : Int32) (su (f_X3_take (263 : Int32) s l).2.1 3 (upd ((f_X3_take (263 : Int32) s l).2.1 3) 6 (f_X3_valueNow (f_X3_take (263 : Int32) s l).2.1 (f_X3_take (263 : Int32) s l).2.2).toInt32)) (f_X3_take (263 : Int32) s l).2.2).1 3 2)) → vp_in ((su (f_X3_noteLater (5 : Int32) (su (f_X3_take (263 : Int32) s l).2.1 3 (upd ((f_X3_take (263 : Int32) s l).2.1 3) 6 (f_X3_valueNow (f_X3_take (263 : Int32) s l).2.1 (f_X3_take (263 : Int32) s l).2.2).toInt32)) (f_X3_take (263 : Int32) s l).2.2).1 3 (upd ((f_X3_noteLater (5 : Int32) (su (f_X3_take (263 : Int32) s l).2.1 3 (upd ((f_X3_take (263 : Int32) s l).2.1 3) 6 (f_X3_valueNow (f_X3_take (263 : Int32) s l).2.1 (f_X3_take (263 : Int32) s l).2.2).toInt32)) (f_X3_take (263 : Int32) s l).2.2).1 3) 3 (2 : Int32))) 3 2) 401)))) (hb22 : ¬ ((f_X3_take (263 : Int32) s l).1 = 0) → (¬ (((su (f_X3_take (263 : Int32) s l).2.1 3 (upd ((f_X3_take (263 : Int32) s l).2.1 3) 6 (f_X3_valueNow (f_X3_take (263 : Int32) s l).2.1 (f_X3_take (263 : Int32) s l).2.2).toInt32)) 3 6) < (0 : Int32)) → ¬ (((su (f_X3_take (263 : Int32) s l).2.1 3 (upd ((f_X3_take (263 : Int32) s l).2.1 3) 6 (f_X3_valueNow (f_X3_take (263 : Int32) s l).2.1 (f_X3_take (263 : Int32) s l).2.2).toInt32)) 3 6) ≤ (100 : Int32)) → (((f_X3_kindNow (f_X3_noteLater (5 : Int32) (su (f_X3_take (263 : Int32) s l).2.1 3 (upd ((f_X3_take (263 : Int32) s l).2.1 3) 6 (f_X3_valueNow (f_X3_take (263 : Int32) s l).2.1 (f_X3_take (263 : Int32) s l).2.2).toInt32)) (f_X3_take (263 : Int32) s l).2.2).1 (f_X3_noteLater (5 : Int32) (su (f_X3_take (263 : Int32) s l).2.1 3 (upd ((f_X3_take (263 : Int32) s l).2.1 3) 6 (f_X3_valueNow (f_X3_take (263 : Int32) s l).2.1 (f_X3_take (263 : Int32) s l).2.2).toInt32)) (f_X3_take (263 : Int32) s l).2.2).2) = (3 : Int32)) → ¬ (((f_X3_noteLater (5 : Int32) (su (f_X3_take (263 : Int32) s l).2.1 3 (upd ((f_X3_take (263 : Int32) s l).2.1 3) 6 (f_X3_valueNow (f_X3_take (263 : Int32) s l).2.1 (f_X3_take (263 : Int32) s l).2.2).toInt32)) (f_X3_take (263 : Int32) s l).2.2).1 3 2) < (400 : Int32)) → narrow .boolean (.int (f_X3_stop (2 : Int32) (f_X3_noteLater (5 : Int32) (su (f_X3_take (263 : Int32) s l).2.1 3 (upd ((f_X3_take (263 : Int32) s l).2.1 3) 6 (f_X3_valueNow (f_X3_take (263 : Int32) s l).2.1 (f_X3_take (263 : Int32) s l).2.2).toInt32)) (f_X3_take (263 : Int32) s l).2.2).1 (f_X3_noteLater (5 : Int32) (su (f_X3_take (263 : Int32) s l).2.1 3 (upd ((f_X3_take (263 : Int32) s l).2.1 3) 6 (f_X3_valueNow (f_X3_take (263 : Int32) s l).2.1 (f_X3_take (263 : Int32) s l).2.2).toInt32)) (f_X3_take (263 : Int32) s l).2.2).2).1) = .int (f_X3_stop (2 : Int32) (f_X3_noteLater (5 : Int32) (su (f_X3_take (263 : Int32) s l).2.1 3 (upd ((f_X3_take (263 : Int32) s l).2.1 3) 6 (f_X3_valueNow (f_X3_take (263 : Int32) s l).2.1 (f_X3_take (263 : Int32) s l).2.2).toInt32)) (f_X3_take (263 : Int32) s l).2.2).1 (f_X3_noteLater (5 : Int32) (su (f_X3_take (263 : Int32) s l).2.1 3 (upd ((f_X3_take (263 : Int32) s l).2.1 3) 6 (f_X3_valueNow (f_X3_take (263 : Int32) s l).2.1 (f_X3_take (263 : Int32) s l).2.2).toInt32)) (f_X3_take (263 : Int32) s l).2.2).2).1))) (hb23 : ¬ ((f_X3_take (263 : Int32) s l).1 = 0) → (¬ (((su (f_X3_take (263 : Int32) s l).2.1 3 (upd ((f_X3_take (263 : Int32) s l).2.1 3) 6 (f_X3_valueNow (f_X3_take (263 : Int32) s l).2.1 (f_X3_take (263 : Int32) s l).2.2).toInt32)) 3 6) < (0 : Int32)) → ¬ (((su (f_X3_take (263 : Int32) s l).2.1 3 (upd ((f_X3_take (263 : Int32) s l).2.1 3) 6 (f_X3_valueNow (f_X3_take (263 : Int32) s l).2.1 (f_X3_take (263 : Int32) s l).2.2).toInt32)) 3 6) ≤ (100 : Int32)) → (¬ ((f_X3_kindNow (f_X3_noteLater (5 : Int32) (su (f_X3_take (263 : Int32) s l).2.1 3 (upd ((f_X3_take (263 : Int32) s l).2.1 3) 6 (f_X3_valueNow (f_X3_take (263 : Int32) s l).2.1 (f_X3_take (263 : Int32) s l).2.2).toInt32)) (f_X3_take (263 : Int32) s l).2.2).1 (f_X3_noteLater (5 : Int32) (su (f_X3_take (263 : Int32) s l).2.1 3 (upd ((f_X3_take (263 : Int32) s l).2.1 3) 6 (f_X3_valueNow (f_X3_take (263 : Int32) s l).2.1 (f_X3_take (263 : Int32) s l).2.2).toInt32)) (f_X3_take (263 : Int32) s l).2.2).2) = (3 : Int32)) → (¬ (((f_X3_noteLater (5 : Int32) (su (f_X3_take (263 : Int32) s l).2.1 3 (upd ((f_X3_take (263 : Int32) s l).2.1 3) 6 (f_X3_valueNow (f_X3_take (263 : Int32) s l).2.1 (f_X3_take (263 : Int32) s l).2.2).toInt32)) (f_X3_take (263 : Int32) s l).2.2).1 3 2) < 0) → ¬ ((400 : Int32) < ((f_X3_noteLater (5 : Int32) (su (f_X3_take (263 : Int32) s l).2.1 3 (upd ((f_X3_take (263 : Int32) s l).2.1 3) 6 (f_X3_valueNow (f_X3_take (263 : Int32) s l).2.1 (f_X3_take (263 : Int32) s l).2.2).toInt32)) (f_X3_take (263 : Int32) s l).2.2).1 3 2)) → vp_in ((su (f_X3_noteLater (5 : Int32) (su (f_X3_take (263 : Int32) s l).2.1 3 (upd ((f_X3_take (263 : Int32) s l).2.1 3) 6 (f_X3_valueNow (f_X3_take (263 : Int32) s l).2.1 (f_X3_take (263 : Int32) s l).2.2).toInt32)) (f_X3_take (263 : Int32) s l).2.2).1 3 (upd ((f_X3_noteLater (5 : Int32) (su (f_X3_take (263 : Int32) s l).2.1 3 (upd ((f_X3_take (263 : Int32) s l).2.1 3) 6 (f_X3_valueNow (f_X3_take (263 : Int32) s l).2.1 (f_X3_take (263 : Int32) s l).2.2).toInt32)) (f_X3_take (263 : Int32) s l).2.2).1 3) 3 (1 : Int32))) 3 2) 401)))) (hb24 : ¬ ((f_X3_take (263 : Int32) s l).1 = 0) → (¬ (((su (f_X3_take (263 : Int32) s l).2.1 3 (upd ((f_X3_take (263 : Int32) s l).2.1 3) 6 (f_X3_valueNow (f_X3_take (263 : Int32) s l).2.1 (f_X3_take (263 : Int32) s l).2.2).toInt32)) 3 6) < (0 : Int32)) → ¬ (((su (f_X3_take (263 : Int32) s l).2.1 3 (upd ((f_X3_take (263 : Int32) s l).2.1 3) 6 (f_X3_valueNow (f_X3_take (263 : Int32) s l).2.1 (f_X3_take (263 : Int32) s l).2.2).toInt32)) 3 6) ≤ (100 : Int32)) → (¬ ((f_X3_kindNow (f_X3_noteLater (5 : Int32) (su (f_X3_take (263 : Int32) s l).2.1 3 (upd ((f_X3_take (263 : Int32) s l).2.1 3) 6 (f_X3_valueNow (f_X3_take (263 : Int32) s l).2.1 (f_X3_take (263 : Int32) s l).2.2).toInt32)) (f_X3_take (263 : Int32) s l).2.2).1 (f_X3_noteLater (5 : Int32) (su (f_X3_take (263 : Int32) s l).2.1 3 (upd ((f_X3_take (263 : Int32) s l).2.1 3) 6 (f_X3_valueNow (f_X3_take (263 : Int32) s l).2.1 (f_X3_take (263 : Int32) s l).2.2).toInt32)) (f_X3_take (263 : Int32) s l).2.2).2) = (3 : Int32)) → narrow .boolean (.int (f_X3_stop (1 : Int32) (f_X3_noteLater (5 : Int32) (su (f_X3_take (263 : Int32) s l).2.1 3 (upd ((f_X3_take (263 : Int32) s l).2.1 3) 6 (f_X3_valueNow (f_X3_take (263 : Int32) s l).2.1 (f_X3_take (263 : Int32) s l).2.2).toInt32)) (f_X3_take (263 : Int32) s l).2.2).1 (f_X3_noteLater (5 : Int32) (su (f_X3_take (263 : Int32) s l).2.1 3 (upd ((f_X3_take (263 : Int32) s l).2.1 3) 6 (f_X3_valueNow (f_X3_take (263 : Int32) s l).2.1 (f_X3_take (263 : Int32) s l).2.2).toInt32)) (f_X3_take (263 : Int32) s l).2.2).2).1) = .int (f_X3_stop (1 : Int32) (f_X3_noteLater (5 : Int32) (su (f_X3_take (263 : Int32) s l).2.1 3 (upd ((f_X3_take (263 : Int32) s l).2.1 3) 6 (f_X3_valueNow (f_X3_take (263 : Int32) s l).2.1 (f_X3_take (263 : Int32) s l).2.2).toInt32)) (f_X3_take (263 : Int32) s l).2.2).1 (f_X3_noteLater (5 : Int32) (su (f_X3_take (263 : Int32) s l).2.1 3 (upd ((f_X3_take (263 : Int32) s l).2.1 3) 6 (f_X3_valueNow (f_X3_take (263 : Int32) s l).2.1 (f_X3_take (263 : Int32) s l).2.2).toInt32)) (f_X3_take (263 : Int32) s l).2.2).2).1))) (hb25 : ¬ ((f_X3_take (263 : Int32) s l).1 = 0) → (¬ (((su (f_X3_take (263 : Int32) s l).2.1 3 (upd ((f_X3_take (263 : Int32) s l).2.1 3) 6 (f_X3_valueNow (f_X3_take (263 : Int32) s l).2.1 (f_X3_take (263 : Int32) s l).2.2).toInt32)) 3 6) < (0 : Int32)) → ¬ (((su (f_X3_take (263 : Int32) s l).2.1 3 (upd ((f_X3_take (263 : Int32) s l).2.1 3) 6 (f_X3_valueNow (f_X3_take (263 : Int32) s l).2.1 (f_X3_take (263 : Int32) s l).2.2).toInt32)) 3 6) ≤ (100 : Int32)) → narrow .boolean (.int (f_X3_take (3 : Int32) (f_X3_noteLater (5 : Int32) (su (f_X3_take (263 : Int32) s l).2.1 3 (upd ((f_X3_take (263 : Int32) s l).2.1 3) 6 (f_X3_valueNow (f_X3_take (263 : Int32) s l).2.1 (f_X3_take (263 : Int32) s l).2.2).toInt32)) (f_X3_take (263 : Int32) s l).2.2).1 (f_X3_noteLater (5 : Int32) (su (f_X3_take (263 : Int32) s l).2.1 3 (upd ((f_X3_take (263 : Int32) s l).2.1 3) 6 (f_X3_valueNow (f_X3_take (263 : Int32) s l).2.1 (f_X3_take (263 : Int32) s l).2.2).toInt32)) (f_X3_take (263 : Int32) s l).2.2).2).1) = .int (f_X3_take (3 : Int32) (f_X3_noteLater (5 : Int32) (su (f_X3_take (263 : Int32) s l).2.1 3 (upd ((f_X3_take (263 : Int32) s l).2.1 3) 6 (f_X3_valueNow (f_X3_take (263 : Int32) s l).2.1 (f_X3_take (263 : Int32) s l).2.2).toInt32)) (f_X3_take (263 : Int32) s l).2.2).1 (f_X3_noteLater (5 : Int32) (su (f_X3_take (263 : Int32) s l).2.1 3 (upd ((f_X3_take (263 : Int32) s l).2.1 3) 6 (f_X3_valueNow (f_X3_take (263 : Int32) s l).2.1 (f_X3_take (263 : Int32) s l).2.2).toInt32)) (f_X3_take (263 : Int32) s l).2.2).2).1)) (hb26 : ¬ ((f_X3_take (263 : Int32) s l).1 = 0) → ¬ ((f_X3_takeInt (0 : Int32) (100 : Int32) (f_X3_take (263 : Int32) s l).2.1 (f_X3_take (263 : Int32) s l).2.2).1 = 0) → ((¬ (((f_X3_takeInt (0 : Int32) (100 : Int32) (f_X3_take (263 : Int32) s l).2.1 (f_X3_take (263 : Int32) s l).2.2).2.1 3 2) < 0) → (((f_X3_takeInt (0 : Int32) (100 : Int32) (f_X3_take (263 : Int32) s l).2.1 (f_X3_take (263 : Int32) s l).2.2).2.1 3 2) ≤ (400 : Int32)) → vp_in ((f_X3_takeInt (0 : Int32) (100 : Int32) (f_X3_take (263 : Int32) s l).2.1 (f_X3_take (263 : Int32) s l).2.2).2.1 3 2) 401))) (hb27 : ¬ ((f_X3_take (263 : Int32) s l).1 = 0) → ¬ ((f_X3_takeInt (0 : Int32) (100 : Int32) (f_X3_take (263 : Int32) s l).2.1 (f_X3_take (263 : Int32) s l).2.2).1 = 0) → (((f_X3_kindNow (f_X3_takeInt (0 : Int32) (100 : Int32) (f_X3_take (263 : Int32) s l).2.1 (f_X3_take (263 : Int32) s l).2.2).2.1 (f_X3_takeInt (0 : Int32) (100 : Int32) (f_X3_take (263 : Int32) s l).2.1 (f_X3_take (263 : Int32) s l).2.2).2.2) = (59 : Int32)) → ¬ (((f_X3_takeInt (0 : Int32) (100 : Int32) (f_X3_take (263 : Int32) s l).2.1 (f_X3_take (263 : Int32) s l).2.2).2.1 3 2) < (400 : Int32)) → (¬ (((f_X3_takeInt (0 : Int32) (100 : Int32) (f_X3_take (263 : Int32) s l).2.1 (f_X3_take (263 : Int32) s l).2.2).2.1 3 2) < 0) → ¬ ((400 : Int32) < ((f_X3_takeInt (0 : Int32) (100 : Int32) (f_X3_take (263 : Int32) s l).2.1 (f_X3_take (263 : Int32) s l).2.2).2.1 3 2)) → vp_in ((su (f_X3_takeInt (0 : Int32) (100 : Int32) (f_X3_take (263 : Int32) s l).2.1 (f_X3_take (263 : Int32) s l).2.2).2.1 3 (upd ((f_X3_takeInt (0 : Int32) (100 : Int32) (f_X3_take (263 : Int32) s l).2.1 (f_X3_take (263 : Int32) s l).2.2).2.1 3) 3 (2 : Int32))) 3 2) 401))) (hb28 : ¬ ((f_X3_take (263 : Int32) s l).1 = 0) → ¬ ((f_X3_takeInt (0 : Int32) (100 : Int32) (f_X3_take (263 : Int32) s l).2.1 (f_X3_take (263 : Int32) s l).2.2).1 = 0) → (((f_X3_kindNow (f_X3_takeInt (0 : Int32) (100 : Int32) (f_X3_take (263 : Int32) s l).2.1 (f_X3_take (263 : Int32) s l).2.2).2.1 (f_X3_takeInt (0 : Int32) (100 : Int32) (f_X3_take (263 : Int32) s l).2.1 (f_X3_take (263 : Int32) s l).2.2).2.2) = (59 : Int32)) → ¬ (((f_X3_takeInt (0 : Int32) (100 : Int32) (f_X3_take (263 : Int32) s l).2.1 (f_X3_take (263 : Int32) s l).2.2).2.1 3 2) < (400 : Int32)) → narrow .boolean (.int (f_X3_stop (2 : Int32) (f_X3_takeInt (0 : Int32) (100 : Int32) (f_X3_take (263 : Int32) s l).2.1 (f_X3_take (263 : Int32) s l).2.2).2.1 (f_X3_takeInt (0 : Int32) (100 : Int32) (f_X3_take (263 : Int32) s l).2.1 (f_X3_take (263 : Int32) s l).2.2).2.2).1) = .int (f_X3_stop (2 : Int32) (f_X3_takeInt (0 : Int32) (100 : Int32) (f_X3_take (263 : Int32) s l).2.1 (f_X3_take (263 : Int32) s l).2.2).2.1 (f_X3_takeInt (0 : Int32) (100 : Int32) (f_X3_take (263 : Int32) s l).2.1 (f_X3_take (263 : Int32) s l).2.2).2.2).1)) (hb29 : ¬ ((f_X3_take (263 : Int32) s l).1 = 0) → ¬ ((f_X3_takeInt (0 : Int32) (100 : Int32) (f_X3_take (263 : Int32) s l).2.1 (f_X3_take (263 : Int32) s l).2.2).1 = 0) → (¬ ((f_X3_kindNow (f_X3_takeInt (0 : Int32) (100 : Int32) (f_X3_take (263 : Int32) s l).2.1 (f_X3_take (263 : Int32) s l).2.2).2.1 (f_X3_takeInt (0 : Int32) (100 : Int32) (f_X3_take (263 : Int32) s l).2.1 (f_X3_take (263 : Int32) s l).2.2).2.2) = (59 : Int32)) → (¬ (((f_X3_takeInt (0 : Int32) (100 : Int32) (f_X3_take (263 : Int32) s l).2.1 (f_X3_take (263 : Int32) s l).2.2).2.1 3 2) < 0) → ¬ ((400 : Int32) < ((f_X3_takeInt (0 : Int32) (100 : Int32) (f_X3_take (263 : Int32) s l).2.1 (f_X3_take (263 : Int32) s l).2.2).2.1 3 2)) → vp_in ((su (f_X3_takeInt (0 : Int32) (100 : Int32) (f_X3_take (263 : Int32) s l).2.1 (f_X3_take (263 : Int32) s l).2.2).2.1 3 (upd ((f_X3_takeInt (0 : Int32) (100 : Int32) (f_X3_take (263 : Int32) s l).2.1 (f_X3_take (263 : Int32) s l).2.2).2.1 3) 3 (1 : Int32))) 3 2) 401))) (hb30 : ¬ ((f_X3_take (263 : Int32) s l).1 = 0) → ¬ ((f_X3_takeInt (0 : Int32) (100 : Int32) (f_X3_take (263 : Int32) s l).2.1 (f_X3_take (263 : Int32) s l).2.2).1 = 0) → (¬ ((f_X3_kindNow (f_X3_takeInt (0 : Int32) (100 : Int32) (f_X3_take (263 : Int32) s l).2.1 (f_X3_take (263 : Int32) s l).2.2).2.1 (f_X3_takeInt (0 : Int32) (100 : Int32) (f_X3_take (263 : Int32) s l).2.1 (f_X3_take (263 : Int32) s l).2.2).2.2) = (59 : Int32)) → narrow .boolean (.int (f_X3_stop (1 : Int32) (f_X3_takeInt (0 : Int32) (100 : Int32) (f_X3_take (263 : Int32) s l).2.1 (f_X3_take (263 : Int32) s l).2.2).2.1 (f_X3_takeInt (0 : Int32) (100 : Int32) (f_X3_take (263 : Int32) s l).2.1 (f_X3_take (263 : Int32) s l).2.2).2.2).1) = .int (f_X3_stop (1 : Int32) (f_X3_takeInt (0 : Int32) (100 : Int32) (f_X3_take (263 : Int32) s l).2.1 (f_X3_take (263 : Int32) s l).2.2).2.1 (f_X3_takeInt (0 : Int32) (100 : Int32) (f_X3_take (263 : Int32) s l).2.1 (f_X3_take (263 : Int32) s l).2.2).2.2).1)) : ab_C G (d + 3) 0 0 M_X3_rainTold 0 (ab_ent [.ref 3, .ref t]) [] (hp D s l) (rt (some (.int (f_X3_rainTold  t s l).1)) (hp D (f_X3_rainTold  t s l).2.1 (f_X3_rainTold  t s l).2.2)) := by
  refine r_weak (L1 := [some (.ref 3), some (.ref t)]) ⟨rfl, rfl, trivial⟩ ?_
  refine r_aload_n rfl rfl ?_
  refine r_sipush_ (a := 263) rfl (by decide) ?_
  refine q_callV0 [_] _ rfl kY_X3_take kT_X3_take rfl rfl (Nat.le_of_ble_eq_true rfl) (Nat.le_of_ble_eq_true rfl) (cc_3 _) (s_X3_take  hb0 hb1 hb2 hb3 hb4) (fun r h q => ?_)
  obtain ⟨rfl, rfl⟩ := q
  simp only [Option.toList, List.cons_append, List.nil_append]
  refine r_if_eq rfl (fun c_7 => ?_) (fun c_7 => ?_)
  · refine r_iconst_ (a := 0) rfl (by decide) ?_
    refine r_iret rfl rfl rfl ?_
    exact ⟨by (unfold f_X3_rainTold; (try dsimp only); rw [if_pos c_7]), by (unfold f_X3_rainTold; (try dsimp only); rw [if_pos c_7])⟩
  · refine r_aload_n rfl rfl ?_
    refine r_iconst_ (a := 0) rfl (by decide) ?_
    refine r_bipush_ (a := 100) rfl (by decide) ?_
    refine q_callV0 [_, _] _ rfl kY_X3_takeInt kT_X3_takeInt rfl rfl (Nat.le_of_ble_eq_true rfl) (Nat.le_of_ble_eq_true rfl) (cc_3 _) (s_X3_takeInt  (hb5 c_7) (hb6 c_7) (hb7 c_7) (hb8 c_7) (hb9 c_7) (hb10 c_7) (hb11 c_7) (hb12 c_7) (hb13 c_7) (hb14 c_7) (hb15 c_7) (hb16 c_7) (hb17 c_7) (hb18 c_7) (hb19 c_7) (hb20 c_7) (hb21 c_7) (hb22 c_7) (hb23 c_7) (hb24 c_7) (hb25 c_7)) (fun r h q => ?_)
    obtain ⟨rfl, rfl⟩ := q
    simp only [Option.toList, List.cons_append, List.nil_append]
    refine r_if_eq rfl (fun c_17 => ?_) (fun c_17 => ?_)
    · refine r_iconst_ (a := 0) rfl (by decide) ?_
      refine r_iret rfl rfl rfl ?_
      exact ⟨by (unfold f_X3_rainTold; (try dsimp only); rw [if_neg c_7, if_pos c_17]), by (unfold f_X3_rainTold; (try dsimp only); rw [if_neg c_7, if_pos c_17])⟩
    · refine r_aload_n rfl rfl ?_
      refine r_bipush_ (a := 59) rfl (by decide) ?_
      refine q_callV0 [_] _ rfl kY_X3_take kT_X3_take rfl rfl (Nat.le_of_ble_eq_true rfl) (Nat.le_of_ble_eq_true rfl) (cc_3 _) (s_X3_take  (hb26 c_7 c_17) (hb27 c_7 c_17) (hb28 c_7 c_17) (hb29 c_7 c_17) (hb30 c_7 c_17)) (fun r h q => ?_)
      obtain ⟨rfl, rfl⟩ := q
      simp only [Option.toList, List.cons_append, List.nil_append]
      refine r_if_ne rfl (fun c_26 => ?_) (fun c_26 => ?_)
      · refine r_aload_n rfl rfl ?_
        refine r_aload_n rfl rfl ?_
        refine q_getfield rfl (cc_3 _) rfl ?_
        refine w_put rfl (cT_0 htt) ff_5_17 ft_5_17 (Nat.le_of_ble_eq_true rfl) rfl ?_
        refine r_iconst_ (a := 1) rfl (by decide) ?_
        refine r_iret rfl rfl rfl ?_
        exact ⟨by (unfold f_X3_rainTold; (try dsimp only); rw [if_neg c_7, if_neg c_17, if_neg c_26]), by (unfold f_X3_rainTold; (try dsimp only); rw [if_neg c_7, if_neg c_17, if_neg c_26])⟩
      · refine r_iconst_ (a := 0) rfl (by decide) ?_
        refine r_iret rfl rfl rfl ?_
        exact ⟨by (unfold f_X3_rainTold; (try dsimp only); rw [if_neg c_7, if_neg c_17, if_pos c_26]), by (unfold f_X3_rainTold; (try dsimp only); rw [if_neg c_7, if_neg c_17, if_pos c_26])⟩

def f_X3_seedTold  (t : Nat) (s : fl_I) (l : fl_L) : Int32 × fl_I × fl_L :=
  if ((f_X3_take (264 : Int32) s l).1 = 0) then ((0 : Int32), (f_X3_take (264 : Int32) s l).2.1, (f_X3_take (264 : Int32) s l).2.2) else if ((f_X3_takeInt (0 : Int32) (9999 : Int32) (f_X3_take (264 : Int32) s l).2.1 (f_X3_take (264 : Int32) s l).2.2).1 = 0) then ((0 : Int32), (f_X3_takeInt (0 : Int32) (9999 : Int32) (f_X3_take (264 : Int32) s l).2.1 (f_X3_take (264 : Int32) s l).2.2).2.1, (f_X3_takeInt (0 : Int32) (9999 : Int32) (f_X3_take (264 : Int32) s l).2.1 (f_X3_take (264 : Int32) s l).2.2).2.2) else if ((f_X3_take (59 : Int32) (f_X3_takeInt (0 : Int32) (9999 : Int32) (f_X3_take (264 : Int32) s l).2.1 (f_X3_take (264 : Int32) s l).2.2).2.1 (f_X3_takeInt (0 : Int32) (9999 : Int32) (f_X3_take (264 : Int32) s l).2.1 (f_X3_take (264 : Int32) s l).2.2).2.2).1 = 0) then ((0 : Int32), (f_X3_take (59 : Int32) (f_X3_takeInt (0 : Int32) (9999 : Int32) (f_X3_take (264 : Int32) s l).2.1 (f_X3_take (264 : Int32) s l).2.2).2.1 (f_X3_takeInt (0 : Int32) (9999 : Int32) (f_X3_take (264 : Int32) s l).2.1 (f_X3_take (264 : Int32) s l).2.2).2.2).2.1, (f_X3_take (59 : Int32) (f_X3_takeInt (0 : Int32) (9999 : Int32) (f_X3_take (264 : Int32) s l).2.1 (f_X3_take (264 : Int32) s l).2.2).2.1 (f_X3_takeInt (0 : Int32) (9999 : Int32) (f_X3_take (264 : Int32) s l).2.1 (f_X3_take (264 : Int32) s l).2.2).2.2).2.2) else ((1 : Int32), (su (f_X3_take (59 : Int32) (f_X3_takeInt (0 : Int32) (9999 : Int32) (f_X3_take (264 : Int32) s l).2.1 (f_X3_take (264 : Int32) s l).2.2).2.1 (f_X3_takeInt (0 : Int32) (9999 : Int32) (f_X3_take (264 : Int32) s l).2.1 (f_X3_take (264 : Int32) s l).2.2).2.2).2.1 t (upd ((f_X3_take (59 : Int32) (f_X3_takeInt (0 : Int32) (9999 : Int32) (f_X3_take (264 : Int32) s l).2.1 (f_X3_take (264 : Int32) s l).2.2).2.1 (f_X3_takeInt (0 : Int32) (9999 : Int32) (f_X3_take (264 : Int32) s l).2.1 (f_X3_take (264 : Int32) s l).2.2).2.2).2.1 t) 18 ((f_X3_take (59 : Int32) (f_X3_takeInt (0 : Int32) (9999 : Int32) (f_X3_take (264 : Int32) s l).2.1 (f_X3_take (264 : Int32) s l).2.2).2.1 (f_X3_takeInt (0 : Int32) (9999 : Int32) (f_X3_take (264 : Int32) s l).2.1 (f_X3_take (264 : Int32) s l).2.2).2.2).2.1 3 6))), (f_X3_take (59 : Int32) (f_X3_takeInt (0 : Int32) (9999 : Int32) (f_X3_take (264 : Int32) s l).2.1 (f_X3_take (264 : Int32) s l).2.2).2.1 (f_X3_takeInt (0 : Int32) (9999 : Int32) (f_X3_take (264 : Int32) s l).2.1 (f_X3_take (264 : Int32) s l).2.2).2.2).2.2)
set_option maxRecDepth 100000 in
set_option maxHeartbeats 4000000 in
theorem s_X3_seedTold {G : ab_G} {d : Nat} {D : fl_D} {s : fl_I} {l : fl_L} {t : Nat} (htt : isT t)  (hb0 : ((¬ ((s 3 2) < 0) → ((s 3 2) ≤ (400 : Int32)) → vp_in (s 3 2) 401))) (hb1 : (((f_X3_kindNow s l) = (264 : Int32)) → ¬ ((s 3 2) < (400 : Int32)) → (¬ ((s 3 2) < 0) → ¬ ((400 : Int32) < (s 3 2)) → vp_in ((su s 3 (upd (s 3) 3 (2 : Int32))) 3 2) 401))) (hb2 : (((f_X3_kindNow s l) = (264 : Int32)) → ¬ ((s 3 2) < (400 : Int32)) → narrow .boolean (.int (f_X3_stop (2 : Int32) s l).1) = .int (f_X3_stop (2 : Int32) s l).1)) (hb3 : (¬ ((f_X3_kindNow s l) = (264 : Int32)) → (¬ ((s 3 2) < 0) → ¬ ((400 : Int32) < (s 3 2)) → vp_in ((su s 3 (upd (s 3) 3 (1 : Int32))) 3 2) 401))) (hb4 : (¬ ((f_X3_kindNow s l) = (264 : Int32)) → narrow .boolean (.int (f_X3_stop (1 : Int32) s l).1) = .int (f_X3_stop (1 : Int32) s l).1)) (hb5 : ¬ ((f_X3_take (264 : Int32) s l).1 = 0) → ((¬ (((f_X3_take (264 : Int32) s l).2.1 3 2) < 0) → (((f_X3_take (264 : Int32) s l).2.1 3 2) ≤ (400 : Int32)) → vp_in ((f_X3_take (264 : Int32) s l).2.1 3 2) 401))) (hb6 : ¬ ((f_X3_take (264 : Int32) s l).1 = 0) → ((((su (f_X3_take (264 : Int32) s l).2.1 3 (upd ((f_X3_take (264 : Int32) s l).2.1 3) 6 (f_X3_valueNow (f_X3_take (264 : Int32) s l).2.1 (f_X3_take (264 : Int32) s l).2.2).toInt32)) 3 6) < (0 : Int32)) → ((((su (f_X3_take (264 : Int32) s l).2.1 3 (upd ((f_X3_take (264 : Int32) s l).2.1 3) 6 (f_X3_valueNow (f_X3_take (264 : Int32) s l).2.1 (f_X3_take (264 : Int32) s l).2.2).toInt32)) 3 4) = 0) → ¬ (((su (f_X3_take (264 : Int32) s l).2.1 3 (upd ((f_X3_take (264 : Int32) s l).2.1 3) 6 (f_X3_valueNow (f_X3_take (264 : Int32) s l).2.1 (f_X3_take (264 : Int32) s l).2.2).toInt32)) 3 2) < 0) → ¬ ((400 : Int32) < ((su (f_X3_take (264 : Int32) s l).2.1 3 (upd ((f_X3_take (264 : Int32) s l).2.1 3) 6 (f_X3_valueNow (f_X3_take (264 : Int32) s l).2.1 (f_X3_take (264 : Int32) s l).2.2).toInt32)) 3 2)) → vp_in ((su (su (f_X3_take (264 : Int32) s l).2.1 3 (upd ((f_X3_take (264 : Int32) s l).2.1 3) 6 (f_X3_valueNow (f_X3_take (264 : Int32) s l).2.1 (f_X3_take (264 : Int32) s l).2.2).toInt32)) 3 (upd ((su (f_X3_take (264 : Int32) s l).2.1 3 (upd ((f_X3_take (264 : Int32) s l).2.1 3) 6 (f_X3_valueNow (f_X3_take (264 : Int32) s l).2.1 (f_X3_take (264 : Int32) s l).2.2).toInt32)) 3) 4 (5 : Int32))) 3 2) 401))) (hb7 : ¬ ((f_X3_take (264 : Int32) s l).1 = 0) → ((((su (f_X3_take (264 : Int32) s l).2.1 3 (upd ((f_X3_take (264 : Int32) s l).2.1 3) 6 (f_X3_valueNow (f_X3_take (264 : Int32) s l).2.1 (f_X3_take (264 : Int32) s l).2.2).toInt32)) 3 6) < (0 : Int32)) → ((¬ (((f_X3_noteLater (5 : Int32) (su (f_X3_take (264 : Int32) s l).2.1 3 (upd ((f_X3_take (264 : Int32) s l).2.1 3) 6 (f_X3_valueNow (f_X3_take (264 : Int32) s l).2.1 (f_X3_take (264 : Int32) s l).2.2).toInt32)) (f_X3_take (264 : Int32) s l).2.2).1 3 2) < 0) → (((f_X3_noteLater (5 : Int32) (su (f_X3_take (264 : Int32) s l).2.1 3 (upd ((f_X3_take (264 : Int32) s l).2.1 3) 6 (f_X3_valueNow (f_X3_take (264 : Int32) s l).2.1 (f_X3_take (264 : Int32) s l).2.2).toInt32)) (f_X3_take (264 : Int32) s l).2.2).1 3 2) ≤ (400 : Int32)) → vp_in ((f_X3_noteLater (5 : Int32) (su (f_X3_take (264 : Int32) s l).2.1 3 (upd ((f_X3_take (264 : Int32) s l).2.1 3) 6 (f_X3_valueNow (f_X3_take (264 : Int32) s l).2.1 (f_X3_take (264 : Int32) s l).2.2).toInt32)) (f_X3_take (264 : Int32) s l).2.2).1 3 2) 401)))) (hb8 : ¬ ((f_X3_take (264 : Int32) s l).1 = 0) → ((((su (f_X3_take (264 : Int32) s l).2.1 3 (upd ((f_X3_take (264 : Int32) s l).2.1 3) 6 (f_X3_valueNow (f_X3_take (264 : Int32) s l).2.1 (f_X3_take (264 : Int32) s l).2.2).toInt32)) 3 6) < (0 : Int32)) → (((f_X3_kindNow (f_X3_noteLater (5 : Int32) (su (f_X3_take (264 : Int32) s l).2.1 3 (upd ((f_X3_take (264 : Int32) s l).2.1 3) 6 (f_X3_valueNow (f_X3_take (264 : Int32) s l).2.1 (f_X3_take (264 : Int32) s l).2.2).toInt32)) (f_X3_take (264 : Int32) s l).2.2).1 (f_X3_noteLater (5 : Int32) (su (f_X3_take (264 : Int32) s l).2.1 3 (upd ((f_X3_take (264 : Int32) s l).2.1 3) 6 (f_X3_valueNow (f_X3_take (264 : Int32) s l).2.1 (f_X3_take (264 : Int32) s l).2.2).toInt32)) (f_X3_take (264 : Int32) s l).2.2).2) = (3 : Int32)) → ¬ (((f_X3_noteLater (5 : Int32) (su (f_X3_take (264 : Int32) s l).2.1 3 (upd ((f_X3_take (264 : Int32) s l).2.1 3) 6 (f_X3_valueNow (f_X3_take (264 : Int32) s l).2.1 (f_X3_take (264 : Int32) s l).2.2).toInt32)) (f_X3_take (264 : Int32) s l).2.2).1 3 2) < (400 : Int32)) → (¬ (((f_X3_noteLater (5 : Int32) (su (f_X3_take (264 : Int32) s l).2.1 3 (upd ((f_X3_take (264 : Int32) s l).2.1 3) 6 (f_X3_valueNow (f_X3_take (264 : Int32) s l).2.1 (f_X3_take (264 : Int32) s l).2.2).toInt32)) (f_X3_take (264 : Int32) s l).2.2).1 3 2) < 0) → ¬ ((400 : Int32) < ((f_X3_noteLater (5 : Int32) (su (f_X3_take (264 : Int32) s l).2.1 3 (upd ((f_X3_take (264 : Int32) s l).2.1 3) 6 (f_X3_valueNow (f_X3_take (264 : Int32) s l).2.1 (f_X3_take (264 : Int32) s l).2.2).toInt32)) (f_X3_take (264 : Int32) s l).2.2).1 3 2)) → vp_in ((su (f_X3_noteLater (5 : Int32) (su (f_X3_take (264 : Int32) s l).2.1 3 (upd ((f_X3_take (264 : Int32) s l).2.1 3) 6 (f_X3_valueNow (f_X3_take (264 : Int32) s l).2.1 (f_X3_take (264 : Int32) s l).2.2).toInt32)) (f_X3_take (264 : Int32) s l).2.2).1 3 (upd ((f_X3_noteLater (5 : Int32) (su (f_X3_take (264 : Int32) s l).2.1 3 (upd ((f_X3_take (264 : Int32) s l).2.1 3) 6 (f_X3_valueNow (f_X3_take (264 : Int32) s l).2.1 (f_X3_take (264 : Int32) s l).2.2).toInt32)) (f_X3_take (264 : Int32) s l).2.2).1 3) 3 (2 : Int32))) 3 2) 401)))) (hb9 : ¬ ((f_X3_take (264 : Int32) s l).1 = 0) → ((((su (f_X3_take (264 : Int32) s l).2.1 3 (upd ((f_X3_take (264 : Int32) s l).2.1 3) 6 (f_X3_valueNow (f_X3_take (264 : Int32) s l).2.1 (f_X3_take (264 : Int32) s l).2.2).toInt32)) 3 6) < (0 : Int32)) → (((f_X3_kindNow (f_X3_noteLater (5 : Int32) (su (f_X3_take (264 : Int32) s l).2.1 3 (upd ((f_X3_take (264 : Int32) s l).2.1 3) 6 (f_X3_valueNow (f_X3_take (264 : Int32) s l).2.1 (f_X3_take (264 : Int32) s l).2.2).toInt32)) (f_X3_take (264 : Int32) s l).2.2).1 (f_X3_noteLater (5 : Int32) (su (f_X3_take (264 : Int32) s l).2.1 3 (upd ((f_X3_take (264 : Int32) s l).2.1 3) 6 (f_X3_valueNow (f_X3_take (264 : Int32) s l).2.1 (f_X3_take (264 : Int32) s l).2.2).toInt32)) (f_X3_take (264 : Int32) s l).2.2).2) = (3 : Int32)) → ¬ (((f_X3_noteLater (5 : Int32) (su (f_X3_take (264 : Int32) s l).2.1 3 (upd ((f_X3_take (264 : Int32) s l).2.1 3) 6 (f_X3_valueNow (f_X3_take (264 : Int32) s l).2.1 (f_X3_take (264 : Int32) s l).2.2).toInt32)) (f_X3_take (264 : Int32) s l).2.2).1 3 2) < (400 : Int32)) → narrow .boolean (.int (f_X3_stop (2 : Int32) (f_X3_noteLater (5 : Int32) (su (f_X3_take (264 : Int32) s l).2.1 3 (upd ((f_X3_take (264 : Int32) s l).2.1 3) 6 (f_X3_valueNow (f_X3_take (264 : Int32) s l).2.1 (f_X3_take (264 : Int32) s l).2.2).toInt32)) (f_X3_take (264 : Int32) s l).2.2).1 (f_X3_noteLater (5 : Int32) (su (f_X3_take (264 : Int32) s l).2.1 3 (upd ((f_X3_take (264 : Int32) s l).2.1 3) 6 (f_X3_valueNow (f_X3_take (264 : Int32) s l).2.1 (f_X3_take (264 : Int32) s l).2.2).toInt32)) (f_X3_take (264 : Int32) s l).2.2).2).1) = .int (f_X3_stop (2 : Int32) (f_X3_noteLater (5 : Int32) (su (f_X3_take (264 : Int32) s l).2.1 3 (upd ((f_X3_take (264 : Int32) s l).2.1 3) 6 (f_X3_valueNow (f_X3_take (264 : Int32) s l).2.1 (f_X3_take (264 : Int32) s l).2.2).toInt32)) (f_X3_take (264 : Int32) s l).2.2).1 (f_X3_noteLater (5 : Int32) (su (f_X3_take (264 : Int32) s l).2.1 3 (upd ((f_X3_take (264 : Int32) s l).2.1 3) 6 (f_X3_valueNow (f_X3_take (264 : Int32) s l).2.1 (f_X3_take (264 : Int32) s l).2.2).toInt32)) (f_X3_take (264 : Int32) s l).2.2).2).1))) (hb10 : ¬ ((f_X3_take (264 : Int32) s l).1 = 0) → ((((su (f_X3_take (264 : Int32) s l).2.1 3 (upd ((f_X3_take (264 : Int32) s l).2.1 3) 6 (f_X3_valueNow (f_X3_take (264 : Int32) s l).2.1 (f_X3_take (264 : Int32) s l).2.2).toInt32)) 3 6) < (0 : Int32)) → (¬ ((f_X3_kindNow (f_X3_noteLater (5 : Int32) (su (f_X3_take (264 : Int32) s l).2.1 3 (upd ((f_X3_take (264 : Int32) s l).2.1 3) 6 (f_X3_valueNow (f_X3_take (264 : Int32) s l).2.1 (f_X3_take (264 : Int32) s l).2.2).toInt32)) (f_X3_take (264 : Int32) s l).2.2).1 (f_X3_noteLater (5 : Int32) (su (f_X3_take (264 : Int32) s l).2.1 3 (upd ((f_X3_take (264 : Int32) s l).2.1 3) 6 (f_X3_valueNow (f_X3_take (264 : Int32) s l).2.1 (f_X3_take (264 : Int32) s l).2.2).toInt32)) (f_X3_take (264 : Int32) s l).2.2).2) = (3 : Int32)) → (¬ (((f_X3_noteLater (5 : Int32) (su (f_X3_take (264 : Int32) s l).2.1 3 (upd ((f_X3_take (264 : Int32) s l).2.1 3) 6 (f_X3_valueNow (f_X3_take (264 : Int32) s l).2.1 (f_X3_take (264 : Int32) s l).2.2).toInt32)) (f_X3_take (264 : Int32) s l).2.2).1 3 2) < 0) → ¬ ((400 : Int32) < ((f_X3_noteLater (5 : Int32) (su (f_X3_take (264 : Int32) s l).2.1 3 (upd ((f_X3_take (264 : Int32) s l).2.1 3) 6 (f_X3_valueNow (f_X3_take (264 : Int32) s l).2.1 (f_X3_take (264 : Int32) s l).2.2).toInt32)) (f_X3_take (264 : Int32) s l).2.2).1 3 2)) → vp_in ((su (f_X3_noteLater (5 : Int32) (su (f_X3_take (264 : Int32) s l).2.1 3 (upd ((f_X3_take (264 : Int32) s l).2.1 3) 6 (f_X3_valueNow (f_X3_take (264 : Int32) s l).2.1 (f_X3_take (264 : Int32) s l).2.2).toInt32)) (f_X3_take (264 : Int32) s l).2.2).1 3 (upd ((f_X3_noteLater (5 : Int32) (su (f_X3_take (264 : Int32) s l).2.1 3 (upd ((f_X3_take (264 : Int32) s l).2.1 3) 6 (f_X3_valueNow (f_X3_take (264 : Int32) s l).2.1 (f_X3_take (264 : Int32) s l).2.2).toInt32)) (f_X3_take (264 : Int32) s l).2.2).1 3) 3 (1 : Int32))) 3 2) 401)))) (hb11 : ¬ ((f_X3_take (264 : Int32) s l).1 = 0) → ((((su (f_X3_take (264 : Int32) s l).2.1 3 (upd ((f_X3_take (264 : Int32) s l).2.1 3) 6 (f_X3_valueNow (f_X3_take (264 : Int32) s l).2.1 (f_X3_take (264 : Int32) s l).2.2).toInt32)) 3 6) < (0 : Int32)) → (¬ ((f_X3_kindNow (f_X3_noteLater (5 : Int32) (su (f_X3_take (264 : Int32) s l).2.1 3 (upd ((f_X3_take (264 : Int32) s l).2.1 3) 6 (f_X3_valueNow (f_X3_take (264 : Int32) s l).2.1 (f_X3_take (264 : Int32) s l).2.2).toInt32)) (f_X3_take (264 : Int32) s l).2.2).1 (f_X3_noteLater (5 : Int32) (su (f_X3_take (264 : Int32) s l).2.1 3 (upd ((f_X3_take (264 : Int32) s l).2.1 3) 6 (f_X3_valueNow (f_X3_take (264 : Int32) s l).2.1 (f_X3_take (264 : Int32) s l).2.2).toInt32)) (f_X3_take (264 : Int32) s l).2.2).2) = (3 : Int32)) → narrow .boolean (.int (f_X3_stop (1 : Int32) (f_X3_noteLater (5 : Int32) (su (f_X3_take (264 : Int32) s l).2.1 3 (upd ((f_X3_take (264 : Int32) s l).2.1 3) 6 (f_X3_valueNow (f_X3_take (264 : Int32) s l).2.1 (f_X3_take (264 : Int32) s l).2.2).toInt32)) (f_X3_take (264 : Int32) s l).2.2).1 (f_X3_noteLater (5 : Int32) (su (f_X3_take (264 : Int32) s l).2.1 3 (upd ((f_X3_take (264 : Int32) s l).2.1 3) 6 (f_X3_valueNow (f_X3_take (264 : Int32) s l).2.1 (f_X3_take (264 : Int32) s l).2.2).toInt32)) (f_X3_take (264 : Int32) s l).2.2).2).1) = .int (f_X3_stop (1 : Int32) (f_X3_noteLater (5 : Int32) (su (f_X3_take (264 : Int32) s l).2.1 3 (upd ((f_X3_take (264 : Int32) s l).2.1 3) 6 (f_X3_valueNow (f_X3_take (264 : Int32) s l).2.1 (f_X3_take (264 : Int32) s l).2.2).toInt32)) (f_X3_take (264 : Int32) s l).2.2).1 (f_X3_noteLater (5 : Int32) (su (f_X3_take (264 : Int32) s l).2.1 3 (upd ((f_X3_take (264 : Int32) s l).2.1 3) 6 (f_X3_valueNow (f_X3_take (264 : Int32) s l).2.1 (f_X3_take (264 : Int32) s l).2.2).toInt32)) (f_X3_take (264 : Int32) s l).2.2).2).1))) (hb12 : ¬ ((f_X3_take (264 : Int32) s l).1 = 0) → ((((su (f_X3_take (264 : Int32) s l).2.1 3 (upd ((f_X3_take (264 : Int32) s l).2.1 3) 6 (f_X3_valueNow (f_X3_take (264 : Int32) s l).2.1 (f_X3_take (264 : Int32) s l).2.2).toInt32)) 3 6) < (0 : Int32)) → narrow .boolean (.int (f_X3_take (3 : Int32) (f_X3_noteLater (5 : Int32) (su (f_X3_take (264 : Int32) s l).2.1 3 (upd ((f_X3_take (264 : Int32) s l).2.1 3) 6 (f_X3_valueNow (f_X3_take (264 : Int32) s l).2.1 (f_X3_take (264 : Int32) s l).2.2).toInt32)) (f_X3_take (264 : Int32) s l).2.2).1 (f_X3_noteLater (5 : Int32) (su (f_X3_take (264 : Int32) s l).2.1 3 (upd ((f_X3_take (264 : Int32) s l).2.1 3) 6 (f_X3_valueNow (f_X3_take (264 : Int32) s l).2.1 (f_X3_take (264 : Int32) s l).2.2).toInt32)) (f_X3_take (264 : Int32) s l).2.2).2).1) = .int (f_X3_take (3 : Int32) (f_X3_noteLater (5 : Int32) (su (f_X3_take (264 : Int32) s l).2.1 3 (upd ((f_X3_take (264 : Int32) s l).2.1 3) 6 (f_X3_valueNow (f_X3_take (264 : Int32) s l).2.1 (f_X3_take (264 : Int32) s l).2.2).toInt32)) (f_X3_take (264 : Int32) s l).2.2).1 (f_X3_noteLater (5 : Int32) (su (f_X3_take (264 : Int32) s l).2.1 3 (upd ((f_X3_take (264 : Int32) s l).2.1 3) 6 (f_X3_valueNow (f_X3_take (264 : Int32) s l).2.1 (f_X3_take (264 : Int32) s l).2.2).toInt32)) (f_X3_take (264 : Int32) s l).2.2).2).1)) (hb13 : ¬ ((f_X3_take (264 : Int32) s l).1 = 0) → (¬ (((su (f_X3_take (264 : Int32) s l).2.1 3 (upd ((f_X3_take (264 : Int32) s l).2.1 3) 6 (f_X3_valueNow (f_X3_take (264 : Int32) s l).2.1 (f_X3_take (264 : Int32) s l).2.2).toInt32)) 3 6) < (0 : Int32)) → (((su (f_X3_take (264 : Int32) s l).2.1 3 (upd ((f_X3_take (264 : Int32) s l).2.1 3) 6 (f_X3_valueNow (f_X3_take (264 : Int32) s l).2.1 (f_X3_take (264 : Int32) s l).2.2).toInt32)) 3 6) ≤ (9999 : Int32)) → ((¬ (((su (f_X3_take (264 : Int32) s l).2.1 3 (upd ((f_X3_take (264 : Int32) s l).2.1 3) 6 (f_X3_valueNow (f_X3_take (264 : Int32) s l).2.1 (f_X3_take (264 : Int32) s l).2.2).toInt32)) 3 2) < 0) → (((su (f_X3_take (264 : Int32) s l).2.1 3 (upd ((f_X3_take (264 : Int32) s l).2.1 3) 6 (f_X3_valueNow (f_X3_take (264 : Int32) s l).2.1 (f_X3_take (264 : Int32) s l).2.2).toInt32)) 3 2) ≤ (400 : Int32)) → vp_in ((su (f_X3_take (264 : Int32) s l).2.1 3 (upd ((f_X3_take (264 : Int32) s l).2.1 3) 6 (f_X3_valueNow (f_X3_take (264 : Int32) s l).2.1 (f_X3_take (264 : Int32) s l).2.2).toInt32)) 3 2) 401)))) (hb14 : ¬ ((f_X3_take (264 : Int32) s l).1 = 0) → (¬ (((su (f_X3_take (264 : Int32) s l).2.1 3 (upd ((f_X3_take (264 : Int32) s l).2.1 3) 6 (f_X3_valueNow (f_X3_take (264 : Int32) s l).2.1 (f_X3_take (264 : Int32) s l).2.2).toInt32)) 3 6) < (0 : Int32)) → (((su (f_X3_take (264 : Int32) s l).2.1 3 (upd ((f_X3_take (264 : Int32) s l).2.1 3) 6 (f_X3_valueNow (f_X3_take (264 : Int32) s l).2.1 (f_X3_take (264 : Int32) s l).2.2).toInt32)) 3 6) ≤ (9999 : Int32)) → (((f_X3_kindNow (su (f_X3_take (264 : Int32) s l).2.1 3 (upd ((f_X3_take (264 : Int32) s l).2.1 3) 6 (f_X3_valueNow (f_X3_take (264 : Int32) s l).2.1 (f_X3_take (264 : Int32) s l).2.2).toInt32)) (f_X3_take (264 : Int32) s l).2.2) = (3 : Int32)) → ¬ (((su (f_X3_take (264 : Int32) s l).2.1 3 (upd ((f_X3_take (264 : Int32) s l).2.1 3) 6 (f_X3_valueNow (f_X3_take (264 : Int32) s l).2.1 (f_X3_take (264 : Int32) s l).2.2).toInt32)) 3 2) < (400 : Int32)) → (¬ (((su (f_X3_take (264 : Int32) s l).2.1 3 (upd ((f_X3_take (264 : Int32) s l).2.1 3) 6 (f_X3_valueNow (f_X3_take (264 : Int32) s l).2.1 (f_X3_take (264 : Int32) s l).2.2).toInt32)) 3 2) < 0) → ¬ ((400 : Int32) < ((su (f_X3_take (264 : Int32) s l).2.1 3 (upd ((f_X3_take (264 : Int32) s l).2.1 3) 6 (f_X3_valueNow (f_X3_take (264 : Int32) s l).2.1 (f_X3_take (264 : Int32) s l).2.2).toInt32)) 3 2)) → vp_in ((su (su (f_X3_take (264 : Int32) s l).2.1 3 (upd ((f_X3_take (264 : Int32) s l).2.1 3) 6 (f_X3_valueNow (f_X3_take (264 : Int32) s l).2.1 (f_X3_take (264 : Int32) s l).2.2).toInt32)) 3 (upd ((su (f_X3_take (264 : Int32) s l).2.1 3 (upd ((f_X3_take (264 : Int32) s l).2.1 3) 6 (f_X3_valueNow (f_X3_take (264 : Int32) s l).2.1 (f_X3_take (264 : Int32) s l).2.2).toInt32)) 3) 3 (2 : Int32))) 3 2) 401)))) (hb15 : ¬ ((f_X3_take (264 : Int32) s l).1 = 0) → (¬ (((su (f_X3_take (264 : Int32) s l).2.1 3 (upd ((f_X3_take (264 : Int32) s l).2.1 3) 6 (f_X3_valueNow (f_X3_take (264 : Int32) s l).2.1 (f_X3_take (264 : Int32) s l).2.2).toInt32)) 3 6) < (0 : Int32)) → (((su (f_X3_take (264 : Int32) s l).2.1 3 (upd ((f_X3_take (264 : Int32) s l).2.1 3) 6 (f_X3_valueNow (f_X3_take (264 : Int32) s l).2.1 (f_X3_take (264 : Int32) s l).2.2).toInt32)) 3 6) ≤ (9999 : Int32)) → (((f_X3_kindNow (su (f_X3_take (264 : Int32) s l).2.1 3 (upd ((f_X3_take (264 : Int32) s l).2.1 3) 6 (f_X3_valueNow (f_X3_take (264 : Int32) s l).2.1 (f_X3_take (264 : Int32) s l).2.2).toInt32)) (f_X3_take (264 : Int32) s l).2.2) = (3 : Int32)) → ¬ (((su (f_X3_take (264 : Int32) s l).2.1 3 (upd ((f_X3_take (264 : Int32) s l).2.1 3) 6 (f_X3_valueNow (f_X3_take (264 : Int32) s l).2.1 (f_X3_take (264 : Int32) s l).2.2).toInt32)) 3 2) < (400 : Int32)) → narrow .boolean (.int (f_X3_stop (2 : Int32) (su (f_X3_take (264 : Int32) s l).2.1 3 (upd ((f_X3_take (264 : Int32) s l).2.1 3) 6 (f_X3_valueNow (f_X3_take (264 : Int32) s l).2.1 (f_X3_take (264 : Int32) s l).2.2).toInt32)) (f_X3_take (264 : Int32) s l).2.2).1) = .int (f_X3_stop (2 : Int32) (su (f_X3_take (264 : Int32) s l).2.1 3 (upd ((f_X3_take (264 : Int32) s l).2.1 3) 6 (f_X3_valueNow (f_X3_take (264 : Int32) s l).2.1 (f_X3_take (264 : Int32) s l).2.2).toInt32)) (f_X3_take (264 : Int32) s l).2.2).1))) (hb16 : ¬ ((f_X3_take (264 : Int32) s l).1 = 0) → (¬ (((su (f_X3_take (264 : Int32) s l).2.1 3 (upd ((f_X3_take (264 : Int32) s l).2.1 3) 6 (f_X3_valueNow (f_X3_take (264 : Int32) s l).2.1 (f_X3_take (264 : Int32) s l).2.2).toInt32)) 3 6) < (0 : Int32)) → (((su (f_X3_take (264 : Int32) s l).2.1 3 (upd ((f_X3_take (264 : Int32) s l).2.1 3) 6 (f_X3_valueNow (f_X3_take (264 : Int32) s l).2.1 (f_X3_take (264 : Int32) s l).2.2).toInt32)) 3 6) ≤ (9999 : Int32)) → (¬ ((f_X3_kindNow (su (f_X3_take (264 : Int32) s l).2.1 3 (upd ((f_X3_take (264 : Int32) s l).2.1 3) 6 (f_X3_valueNow (f_X3_take (264 : Int32) s l).2.1 (f_X3_take (264 : Int32) s l).2.2).toInt32)) (f_X3_take (264 : Int32) s l).2.2) = (3 : Int32)) → (¬ (((su (f_X3_take (264 : Int32) s l).2.1 3 (upd ((f_X3_take (264 : Int32) s l).2.1 3) 6 (f_X3_valueNow (f_X3_take (264 : Int32) s l).2.1 (f_X3_take (264 : Int32) s l).2.2).toInt32)) 3 2) < 0) → ¬ ((400 : Int32) < ((su (f_X3_take (264 : Int32) s l).2.1 3 (upd ((f_X3_take (264 : Int32) s l).2.1 3) 6 (f_X3_valueNow (f_X3_take (264 : Int32) s l).2.1 (f_X3_take (264 : Int32) s l).2.2).toInt32)) 3 2)) → vp_in ((su (su (f_X3_take (264 : Int32) s l).2.1 3 (upd ((f_X3_take (264 : Int32) s l).2.1 3) 6 (f_X3_valueNow (f_X3_take (264 : Int32) s l).2.1 (f_X3_take (264 : Int32) s l).2.2).toInt32)) 3 (upd ((su (f_X3_take (264 : Int32) s l).2.1 3 (upd ((f_X3_take (264 : Int32) s l).2.1 3) 6 (f_X3_valueNow (f_X3_take (264 : Int32) s l).2.1 (f_X3_take (264 : Int32) s l).2.2).toInt32)) 3) 3 (1 : Int32))) 3 2) 401)))) (hb17 : ¬ ((f_X3_take (264 : Int32) s l).1 = 0) → (¬ (((su (f_X3_take (264 : Int32) s l).2.1 3 (upd ((f_X3_take (264 : Int32) s l).2.1 3) 6 (f_X3_valueNow (f_X3_take (264 : Int32) s l).2.1 (f_X3_take (264 : Int32) s l).2.2).toInt32)) 3 6) < (0 : Int32)) → (((su (f_X3_take (264 : Int32) s l).2.1 3 (upd ((f_X3_take (264 : Int32) s l).2.1 3) 6 (f_X3_valueNow (f_X3_take (264 : Int32) s l).2.1 (f_X3_take (264 : Int32) s l).2.2).toInt32)) 3 6) ≤ (9999 : Int32)) → (¬ ((f_X3_kindNow (su (f_X3_take (264 : Int32) s l).2.1 3 (upd ((f_X3_take (264 : Int32) s l).2.1 3) 6 (f_X3_valueNow (f_X3_take (264 : Int32) s l).2.1 (f_X3_take (264 : Int32) s l).2.2).toInt32)) (f_X3_take (264 : Int32) s l).2.2) = (3 : Int32)) → narrow .boolean (.int (f_X3_stop (1 : Int32) (su (f_X3_take (264 : Int32) s l).2.1 3 (upd ((f_X3_take (264 : Int32) s l).2.1 3) 6 (f_X3_valueNow (f_X3_take (264 : Int32) s l).2.1 (f_X3_take (264 : Int32) s l).2.2).toInt32)) (f_X3_take (264 : Int32) s l).2.2).1) = .int (f_X3_stop (1 : Int32) (su (f_X3_take (264 : Int32) s l).2.1 3 (upd ((f_X3_take (264 : Int32) s l).2.1 3) 6 (f_X3_valueNow (f_X3_take (264 : Int32) s l).2.1 (f_X3_take (264 : Int32) s l).2.2).toInt32)) (f_X3_take (264 : Int32) s l).2.2).1))) (hb18 : ¬ ((f_X3_take (264 : Int32) s l).1 = 0) → (¬ (((su (f_X3_take (264 : Int32) s l).2.1 3 (upd ((f_X3_take (264 : Int32) s l).2.1 3) 6 (f_X3_valueNow (f_X3_take (264 : Int32) s l).2.1 (f_X3_take (264 : Int32) s l).2.2).toInt32)) 3 6) < (0 : Int32)) → (((su (f_X3_take (264 : Int32) s l).2.1 3 (upd ((f_X3_take (264 : Int32) s l).2.1 3) 6 (f_X3_valueNow (f_X3_take (264 : Int32) s l).2.1 (f_X3_take (264 : Int32) s l).2.2).toInt32)) 3 6) ≤ (9999 : Int32)) → narrow .boolean (.int (f_X3_take (3 : Int32) (su (f_X3_take (264 : Int32) s l).2.1 3 (upd ((f_X3_take (264 : Int32) s l).2.1 3) 6 (f_X3_valueNow (f_X3_take (264 : Int32) s l).2.1 (f_X3_take (264 : Int32) s l).2.2).toInt32)) (f_X3_take (264 : Int32) s l).2.2).1) = .int (f_X3_take (3 : Int32) (su (f_X3_take (264 : Int32) s l).2.1 3 (upd ((f_X3_take (264 : Int32) s l).2.1 3) 6 (f_X3_valueNow (f_X3_take (264 : Int32) s l).2.1 (f_X3_take (264 : Int32) s l).2.2).toInt32)) (f_X3_take (264 : Int32) s l).2.2).1)) (hb19 : ¬ ((f_X3_take (264 : Int32) s l).1 = 0) → (¬ (((su (f_X3_take (264 : Int32) s l).2.1 3 (upd ((f_X3_take (264 : Int32) s l).2.1 3) 6 (f_X3_valueNow (f_X3_take (264 : Int32) s l).2.1 (f_X3_take (264 : Int32) s l).2.2).toInt32)) 3 6) < (0 : Int32)) → ¬ (((su (f_X3_take (264 : Int32) s l).2.1 3 (upd ((f_X3_take (264 : Int32) s l).2.1 3) 6 (f_X3_valueNow (f_X3_take (264 : Int32) s l).2.1 (f_X3_take (264 : Int32) s l).2.2).toInt32)) 3 6) ≤ (9999 : Int32)) → ((((su (f_X3_take (264 : Int32) s l).2.1 3 (upd ((f_X3_take (264 : Int32) s l).2.1 3) 6 (f_X3_valueNow (f_X3_take (264 : Int32) s l).2.1 (f_X3_take (264 : Int32) s l).2.2).toInt32)) 3 4) = 0) → ¬ (((su (f_X3_take (264 : Int32) s l).2.1 3 (upd ((f_X3_take (264 : Int32) s l).2.1 3) 6 (f_X3_valueNow (f_X3_take (264 : Int32) s l).2.1 (f_X3_take (264 : Int32) s l).2.2).toInt32)) 3 2) < 0) → ¬ ((400 : Int32) < ((su (f_X3_take (264 : Int32) s l).2.1 3 (upd ((f_X3_take (264 : Int32) s l).2.1 3) 6 (f_X3_valueNow (f_X3_take (264 : Int32) s l).2.1 (f_X3_take (264 : Int32) s l).2.2).toInt32)) 3 2)) → vp_in ((su (su (f_X3_take (264 : Int32) s l).2.1 3 (upd ((f_X3_take (264 : Int32) s l).2.1 3) 6 (f_X3_valueNow (f_X3_take (264 : Int32) s l).2.1 (f_X3_take (264 : Int32) s l).2.2).toInt32)) 3 (upd ((su (f_X3_take (264 : Int32) s l).2.1 3 (upd ((f_X3_take (264 : Int32) s l).2.1 3) 6 (f_X3_valueNow (f_X3_take (264 : Int32) s l).2.1 (f_X3_take (264 : Int32) s l).2.2).toInt32)) 3) 4 (5 : Int32))) 3 2) 401))) (hb20 : ¬ ((f_X3_take (264 : Int32) s l).1 = 0) → (¬ (((su (f_X3_take (264 : Int32) s l).2.1 3 (upd ((f_X3_take (264 : Int32) s l).2.1 3) 6 (f_X3_valueNow (f_X3_take (264 : Int32) s l).2.1 (f_X3_take (264 : Int32) s l).2.2).toInt32)) 3 6) < (0 : Int32)) → ¬ (((su (f_X3_take (264 : Int32) s l).2.1 3 (upd ((f_X3_take (264 : Int32) s l).2.1 3) 6 (f_X3_valueNow (f_X3_take (264 : Int32) s l).2.1 (f_X3_take (264 : Int32) s l).2.2).toInt32)) 3 6) ≤ (9999 : Int32)) → ((¬ (((f_X3_noteLater (5 : Int32) (su (f_X3_take (264 : Int32) s l).2.1 3 (upd ((f_X3_take (264 : Int32) s l).2.1 3) 6 (f_X3_valueNow (f_X3_take (264 : Int32) s l).2.1 (f_X3_take (264 : Int32) s l).2.2).toInt32)) (f_X3_take (264 : Int32) s l).2.2).1 3 2) < 0) → (((f_X3_noteLater (5 : Int32) (su (f_X3_take (264 : Int32) s l).2.1 3 (upd ((f_X3_take (264 : Int32) s l).2.1 3) 6 (f_X3_valueNow (f_X3_take (264 : Int32) s l).2.1 (f_X3_take (264 : Int32) s l).2.2).toInt32)) (f_X3_take (264 : Int32) s l).2.2).1 3 2) ≤ (400 : Int32)) → vp_in ((f_X3_noteLater (5 : Int32) (su (f_X3_take (264 : Int32) s l).2.1 3 (upd ((f_X3_take (264 : Int32) s l).2.1 3) 6 (f_X3_valueNow (f_X3_take (264 : Int32) s l).2.1 (f_X3_take (264 : Int32) s l).2.2).toInt32)) (f_X3_take (264 : Int32) s l).2.2).1 3 2) 401)))) (hb21 : ¬ ((f_X3_take (264 : Int32) s l).1 = 0) → (¬ (((su (f_X3_take (264 : Int32) s l).2.1 3 (upd ((f_X3_take (264 : Int32) s l).2.1 3) 6 (f_X3_valueNow (f_X3_take (264 : Int32) s l).2.1 (f_X3_take (264 : Int32) s l).2.2).toInt32)) 3 6) < (0 : Int32)) → ¬ (((su (f_X3_take (264 : Int32) s l).2.1 3 (upd ((f_X3_take (264 : Int32) s l).2.1 3) 6 (f_X3_valueNow (f_X3_take (264 : Int32) s l).2.1 (f_X3_take (264 : Int32) s l).2.2).toInt32)) 3 6) ≤ (9999 : Int32)) → (((f_X3_kindNow (f_X3_noteLater (5 : Int32) (su (f_X3_take (264 : Int32) s l).2.1 3 (upd ((f_X3_take (264 : Int32) s l).2.1 3) 6 (f_X3_valueNow (f_X3_take (264 : Int32) s l).2.1 (f_X3_take (264 : Int32) s l).2.2).toInt32)) (f_X3_take (264 : Int32) s l).2.2).1 (f_X3_noteLater (5 : Int32) (su (f_X3_take (264 : Int32) s l).2.1 3 (upd ((f_X3_take (264 : Int32) s l).2.1 3) 6 (f_X3_valueNow (f_X3_take (264 : Int32) s l).2.1 (f_X3_take (264 : Int32) s l).2.2).toInt32)) (f_X3_take (264 : Int32) s l).2.2).2) = (3 : Int32)) → ¬ (((f_X3_noteLater (5 : Int32) (su (f_X3_take (264 : Int32) s l).2.1 3 (upd ((f_X3_take (264 : Int32) s l).2.1 3) 6 (f_X3_valueNow (f_X3_take (264 : Int32) s l).2.1 (f_X3_take (264 : Int32) s l).2.2).toInt32)) (f_X3_take (264 : Int32) s l).2.2).1 3 2) < (400 : Int32)) → (¬ (((f_X3_noteLater (5 : Int32) (su (f_X3_take (264 : Int32) s l).2.1 3 (upd ((f_X3_take (264 : Int32) s l).2.1 3) 6 (f_X3_valueNow (f_X3_take (264 : Int32) s l).2.1 (f_X3_take (264 : Int32) s l).2.2).toInt32)) (f_X3_take (264 : Int32) s l).2.2).1 3 2) < 0) → ¬ ((400 : Int32) < ((f_X3_noteLater (5 : Int32) (su (f_X3_take (264 : Int32) s l).2.1 3 (upd ((f_X3_take (264 : Int32) s l).2.1 3) 6 (f_X3_valueNow (f_X3_take (264 : Int32) s l).2.1 (f_X3_take (264 : Int32) s l).2.2).toInt32)) (f_X3_take (264 : Int32) s l).2.2).1 3 2)) → vp_in ((su (f_X3_noteLater (5 : Int32) (su (f_X3_take (264 : Int32) s l).2.1 3 (upd ((f_X3_take (264 : Int32) s l).2.1 3) 6 (f_X3_valueNow (f_X3_take (264 : Int32) s l).2.1 (f_X3_take (264 : Int32) s l).2.2).toInt32)) (f_X3_take (264 : Int32) s l).2.2).1 3 (upd ((f_X3_noteLater (5 : Int32) (su (f_X3_take (264 : Int32) s l).2.1 3 (upd ((f_X3_take (264 : Int32) s l).2.1 3) 6 (f_X3_valueNow (f_X3_take (264 : Int32) s l).2.1 (f_X3_take (264 : Int32) s l).2.2).toInt32)) (f_X3_take (264 : Int32) s l).2.2).1 3) 3 (2 : Int32))) 3 2) 401)))) (hb22 : ¬ ((f_X3_take (264 : Int32) s l).1 = 0) → (¬ (((su (f_X3_take (264 : Int32) s l).2.1 3 (upd ((f_X3_take (264 : Int32) s l).2.1 3) 6 (f_X3_valueNow (f_X3_take (264 : Int32) s l).2.1 (f_X3_take (264 : Int32) s l).2.2).toInt32)) 3 6) < (0 : Int32)) → ¬ (((su (f_X3_take (264 : Int32) s l).2.1 3 (upd ((f_X3_take (264 : Int32) s l).2.1 3) 6 (f_X3_valueNow (f_X3_take (264 : Int32) s l).2.1 (f_X3_take (264 : Int32) s l).2.2).toInt32)) 3 6) ≤ (9999 : Int32)) → (((f_X3_kindNow (f_X3_noteLater (5 : Int32) (su (f_X3_take (264 : Int32) s l).2.1 3 (upd ((f_X3_take (264 : Int32) s l).2.1 3) 6 (f_X3_valueNow (f_X3_take (264 : Int32) s l).2.1 (f_X3_take (264 : Int32) s l).2.2).toInt32)) (f_X3_take (264 : Int32) s l).2.2).1 (f_X3_noteLater (5 : Int32) (su (f_X3_take (264 : Int32) s l).2.1 3 (upd ((f_X3_take (264 : Int32) s l).2.1 3) 6 (f_X3_valueNow (f_X3_take (264 : Int32) s l).2.1 (f_X3_take (264 : Int32) s l).2.2).toInt32)) (f_X3_take (264 : Int32) s l).2.2).2) = (3 : Int32)) → ¬ (((f_X3_noteLater (5 : Int32) (su (f_X3_take (264 : Int32) s l).2.1 3 (upd ((f_X3_take (264 : Int32) s l).2.1 3) 6 (f_X3_valueNow (f_X3_take (264 : Int32) s l).2.1 (f_X3_take (264 : Int32) s l).2.2).toInt32)) (f_X3_take (264 : Int32) s l).2.2).1 3 2) < (400 : Int32)) → narrow .boolean (.int (f_X3_stop (2 : Int32) (f_X3_noteLater (5 : Int32) (su (f_X3_take (264 : Int32) s l).2.1 3 (upd ((f_X3_take (264 : Int32) s l).2.1 3) 6 (f_X3_valueNow (f_X3_take (264 : Int32) s l).2.1 (f_X3_take (264 : Int32) s l).2.2).toInt32)) (f_X3_take (264 : Int32) s l).2.2).1 (f_X3_noteLater (5 : Int32) (su (f_X3_take (264 : Int32) s l).2.1 3 (upd ((f_X3_take (264 : Int32) s l).2.1 3) 6 (f_X3_valueNow (f_X3_take (264 : Int32) s l).2.1 (f_X3_take (264 : Int32) s l).2.2).toInt32)) (f_X3_take (264 : Int32) s l).2.2).2).1) = .int (f_X3_stop (2 : Int32) (f_X3_noteLater (5 : Int32) (su (f_X3_take (264 : Int32) s l).2.1 3 (upd ((f_X3_take (264 : Int32) s l).2.1 3) 6 (f_X3_valueNow (f_X3_take (264 : Int32) s l).2.1 (f_X3_take (264 : Int32) s l).2.2).toInt32)) (f_X3_take (264 : Int32) s l).2.2).1 (f_X3_noteLater (5 : Int32) (su (f_X3_take (264 : Int32) s l).2.1 3 (upd ((f_X3_take (264 : Int32) s l).2.1 3) 6 (f_X3_valueNow (f_X3_take (264 : Int32) s l).2.1 (f_X3_take (264 : Int32) s l).2.2).toInt32)) (f_X3_take (264 : Int32) s l).2.2).2).1))) (hb23 : ¬ ((f_X3_take (264 : Int32) s l).1 = 0) → (¬ (((su (f_X3_take (264 : Int32) s l).2.1 3 (upd ((f_X3_take (264 : Int32) s l).2.1 3) 6 (f_X3_valueNow (f_X3_take (264 : Int32) s l).2.1 (f_X3_take (264 : Int32) s l).2.2).toInt32)) 3 6) < (0 : Int32)) → ¬ (((su (f_X3_take (264 : Int32) s l).2.1 3 (upd ((f_X3_take (264 : Int32) s l).2.1 3) 6 (f_X3_valueNow (f_X3_take (264 : Int32) s l).2.1 (f_X3_take (264 : Int32) s l).2.2).toInt32)) 3 6) ≤ (9999 : Int32)) → (¬ ((f_X3_kindNow (f_X3_noteLater (5 : Int32) (su (f_X3_take (264 : Int32) s l).2.1 3 (upd ((f_X3_take (264 : Int32) s l).2.1 3) 6 (f_X3_valueNow (f_X3_take (264 : Int32) s l).2.1 (f_X3_take (264 : Int32) s l).2.2).toInt32)) (f_X3_take (264 : Int32) s l).2.2).1 (f_X3_noteLater (5 : Int32) (su (f_X3_take (264 : Int32) s l).2.1 3 (upd ((f_X3_take (264 : Int32) s l).2.1 3) 6 (f_X3_valueNow (f_X3_take (264 : Int32) s l).2.1 (f_X3_take (264 : Int32) s l).2.2).toInt32)) (f_X3_take (264 : Int32) s l).2.2).2) = (3 : Int32)) → (¬ (((f_X3_noteLater (5 : Int32) (su (f_X3_take (264 : Int32) s l).2.1 3 (upd ((f_X3_take (264 : Int32) s l).2.1 3) 6 (f_X3_valueNow (f_X3_take (264 : Int32) s l).2.1 (f_X3_take (264 : Int32) s l).2.2).toInt32)) (f_X3_take (264 : Int32) s l).2.2).1 3 2) < 0) → ¬ ((400 : Int32) < ((f_X3_noteLater (5 : Int32) (su (f_X3_take (264 : Int32) s l).2.1 3 (upd ((f_X3_take (264 : Int32) s l).2.1 3) 6 (f_X3_valueNow (f_X3_take (264 : Int32) s l).2.1 (f_X3_take (264 : Int32) s l).2.2).toInt32)) (f_X3_take (264 : Int32) s l).2.2).1 3 2)) → vp_in ((su (f_X3_noteLater (5 : Int32) (su (f_X3_take (264 : Int32) s l).2.1 3 (upd ((f_X3_take (264 : Int32) s l).2.1 3) 6 (f_X3_valueNow (f_X3_take (264 : Int32) s l).2.1 (f_X3_take (264 : Int32) s l).2.2).toInt32)) (f_X3_take (264 : Int32) s l).2.2).1 3 (upd ((f_X3_noteLater (5 : Int32) (su (f_X3_take (264 : Int32) s l).2.1 3 (upd ((f_X3_take (264 : Int32) s l).2.1 3) 6 (f_X3_valueNow (f_X3_take (264 : Int32) s l).2.1 (f_X3_take (264 : Int32) s l).2.2).toInt32)) (f_X3_take (264 : Int32) s l).2.2).1 3) 3 (1 : Int32))) 3 2) 401)))) (hb24 : ¬ ((f_X3_take (264 : Int32) s l).1 = 0) → (¬ (((su (f_X3_take (264 : Int32) s l).2.1 3 (upd ((f_X3_take (264 : Int32) s l).2.1 3) 6 (f_X3_valueNow (f_X3_take (264 : Int32) s l).2.1 (f_X3_take (264 : Int32) s l).2.2).toInt32)) 3 6) < (0 : Int32)) → ¬ (((su (f_X3_take (264 : Int32) s l).2.1 3 (upd ((f_X3_take (264 : Int32) s l).2.1 3) 6 (f_X3_valueNow (f_X3_take (264 : Int32) s l).2.1 (f_X3_take (264 : Int32) s l).2.2).toInt32)) 3 6) ≤ (9999 : Int32)) → (¬ ((f_X3_kindNow (f_X3_noteLater (5 : Int32) (su (f_X3_take (264 : Int32) s l).2.1 3 (upd ((f_X3_take (264 : Int32) s l).2.1 3) 6 (f_X3_valueNow (f_X3_take (264 : Int32) s l).2.1 (f_X3_take (264 : Int32) s l).2.2).toInt32)) (f_X3_take (264 : Int32) s l).2.2).1 (f_X3_noteLater (5 : Int32) (su (f_X3_take (264 : Int32) s l).2.1 3 (upd ((f_X3_take (264 : Int32) s l).2.1 3) 6 (f_X3_valueNow (f_X3_take (264 : Int32) s l).2.1 (f_X3_take (264 : Int32) s l).2.2).toInt32)) (f_X3_take (264 : Int32) s l).2.2).2) = (3 : Int32)) → narrow .boolean (.int (f_X3_stop (1 : Int32) (f_X3_noteLater (5 : Int32) (su (f_X3_take (264 : Int32) s l).2.1 3 (upd ((f_X3_take (264 : Int32) s l).2.1 3) 6 (f_X3_valueNow (f_X3_take (264 : Int32) s l).2.1 (f_X3_take (264 : Int32) s l).2.2).toInt32)) (f_X3_take (264 : Int32) s l).2.2).1 (f_X3_noteLater (5 : Int32) (su (f_X3_take (264 : Int32) s l).2.1 3 (upd ((f_X3_take (264 : Int32) s l).2.1 3) 6 (f_X3_valueNow (f_X3_take (264 : Int32) s l).2.1 (f_X3_take (264 : Int32) s l).2.2).toInt32)) (f_X3_take (264 : Int32) s l).2.2).2).1) = .int (f_X3_stop (1 : Int32) (f_X3_noteLater (5 : Int32) (su (f_X3_take (264 : Int32) s l).2.1 3 (upd ((f_X3_take (264 : Int32) s l).2.1 3) 6 (f_X3_valueNow (f_X3_take (264 : Int32) s l).2.1 (f_X3_take (264 : Int32) s l).2.2).toInt32)) (f_X3_take (264 : Int32) s l).2.2).1 (f_X3_noteLater (5 : Int32) (su (f_X3_take (264 : Int32) s l).2.1 3 (upd ((f_X3_take (264 : Int32) s l).2.1 3) 6 (f_X3_valueNow (f_X3_take (264 : Int32) s l).2.1 (f_X3_take (264 : Int32) s l).2.2).toInt32)) (f_X3_take (264 : Int32) s l).2.2).2).1))) (hb25 : ¬ ((f_X3_take (264 : Int32) s l).1 = 0) → (¬ (((su (f_X3_take (264 : Int32) s l).2.1 3 (upd ((f_X3_take (264 : Int32) s l).2.1 3) 6 (f_X3_valueNow (f_X3_take (264 : Int32) s l).2.1 (f_X3_take (264 : Int32) s l).2.2).toInt32)) 3 6) < (0 : Int32)) → ¬ (((su (f_X3_take (264 : Int32) s l).2.1 3 (upd ((f_X3_take (264 : Int32) s l).2.1 3) 6 (f_X3_valueNow (f_X3_take (264 : Int32) s l).2.1 (f_X3_take (264 : Int32) s l).2.2).toInt32)) 3 6) ≤ (9999 : Int32)) → narrow .boolean (.int (f_X3_take (3 : Int32) (f_X3_noteLater (5 : Int32) (su (f_X3_take (264 : Int32) s l).2.1 3 (upd ((f_X3_take (264 : Int32) s l).2.1 3) 6 (f_X3_valueNow (f_X3_take (264 : Int32) s l).2.1 (f_X3_take (264 : Int32) s l).2.2).toInt32)) (f_X3_take (264 : Int32) s l).2.2).1 (f_X3_noteLater (5 : Int32) (su (f_X3_take (264 : Int32) s l).2.1 3 (upd ((f_X3_take (264 : Int32) s l).2.1 3) 6 (f_X3_valueNow (f_X3_take (264 : Int32) s l).2.1 (f_X3_take (264 : Int32) s l).2.2).toInt32)) (f_X3_take (264 : Int32) s l).2.2).2).1) = .int (f_X3_take (3 : Int32) (f_X3_noteLater (5 : Int32) (su (f_X3_take (264 : Int32) s l).2.1 3 (upd ((f_X3_take (264 : Int32) s l).2.1 3) 6 (f_X3_valueNow (f_X3_take (264 : Int32) s l).2.1 (f_X3_take (264 : Int32) s l).2.2).toInt32)) (f_X3_take (264 : Int32) s l).2.2).1 (f_X3_noteLater (5 : Int32) (su (f_X3_take (264 : Int32) s l).2.1 3 (upd ((f_X3_take (264 : Int32) s l).2.1 3) 6 (f_X3_valueNow (f_X3_take (264 : Int32) s l).2.1 (f_X3_take (264 : Int32) s l).2.2).toInt32)) (f_X3_take (264 : Int32) s l).2.2).2).1)) (hb26 : ¬ ((f_X3_take (264 : Int32) s l).1 = 0) → ¬ ((f_X3_takeInt (0 : Int32) (9999 : Int32) (f_X3_take (264 : Int32) s l).2.1 (f_X3_take (264 : Int32) s l).2.2).1 = 0) → ((¬ (((f_X3_takeInt (0 : Int32) (9999 : Int32) (f_X3_take (264 : Int32) s l).2.1 (f_X3_take (264 : Int32) s l).2.2).2.1 3 2) < 0) → (((f_X3_takeInt (0 : Int32) (9999 : Int32) (f_X3_take (264 : Int32) s l).2.1 (f_X3_take (264 : Int32) s l).2.2).2.1 3 2) ≤ (400 : Int32)) → vp_in ((f_X3_takeInt (0 : Int32) (9999 : Int32) (f_X3_take (264 : Int32) s l).2.1 (f_X3_take (264 : Int32) s l).2.2).2.1 3 2) 401))) (hb27 : ¬ ((f_X3_take (264 : Int32) s l).1 = 0) → ¬ ((f_X3_takeInt (0 : Int32) (9999 : Int32) (f_X3_take (264 : Int32) s l).2.1 (f_X3_take (264 : Int32) s l).2.2).1 = 0) → (((f_X3_kindNow (f_X3_takeInt (0 : Int32) (9999 : Int32) (f_X3_take (264 : Int32) s l).2.1 (f_X3_take (264 : Int32) s l).2.2).2.1 (f_X3_takeInt (0 : Int32) (9999 : Int32) (f_X3_take (264 : Int32) s l).2.1 (f_X3_take (264 : Int32) s l).2.2).2.2) = (59 : Int32)) → ¬ (((f_X3_takeInt (0 : Int32) (9999 : Int32) (f_X3_take (264 : Int32) s l).2.1 (f_X3_take (264 : Int32) s l).2.2).2.1 3 2) < (400 : Int32)) → (¬ (((f_X3_takeInt (0 : Int32) (9999 : Int32) (f_X3_take (264 : Int32) s l).2.1 (f_X3_take (264 : Int32) s l).2.2).2.1 3 2) < 0) → ¬ ((400 : Int32) < ((f_X3_takeInt (0 : Int32) (9999 : Int32) (f_X3_take (264 : Int32) s l).2.1 (f_X3_take (264 : Int32) s l).2.2).2.1 3 2)) → vp_in ((su (f_X3_takeInt (0 : Int32) (9999 : Int32) (f_X3_take (264 : Int32) s l).2.1 (f_X3_take (264 : Int32) s l).2.2).2.1 3 (upd ((f_X3_takeInt (0 : Int32) (9999 : Int32) (f_X3_take (264 : Int32) s l).2.1 (f_X3_take (264 : Int32) s l).2.2).2.1 3) 3 (2 : Int32))) 3 2) 401))) (hb28 : ¬ ((f_X3_take (264 : Int32) s l).1 = 0) → ¬ ((f_X3_takeInt (0 : Int32) (9999 : Int32) (f_X3_take (264 : Int32) s l).2.1 (f_X3_take (264 : Int32) s l).2.2).1 = 0) → (((f_X3_kindNow (f_X3_takeInt (0 : Int32) (9999 : Int32) (f_X3_take (264 : Int32) s l).2.1 (f_X3_take (264 : Int32) s l).2.2).2.1 (f_X3_takeInt (0 : Int32) (9999 : Int32) (f_X3_take (264 : Int32) s l).2.1 (f_X3_take (264 : Int32) s l).2.2).2.2) = (59 : Int32)) → ¬ (((f_X3_takeInt (0 : Int32) (9999 : Int32) (f_X3_take (264 : Int32) s l).2.1 (f_X3_take (264 : Int32) s l).2.2).2.1 3 2) < (400 : Int32)) → narrow .boolean (.int (f_X3_stop (2 : Int32) (f_X3_takeInt (0 : Int32) (9999 : Int32) (f_X3_take (264 : Int32) s l).2.1 (f_X3_take (264 : Int32) s l).2.2).2.1 (f_X3_takeInt (0 : Int32) (9999 : Int32) (f_X3_take (264 : Int32) s l).2.1 (f_X3_take (264 : Int32) s l).2.2).2.2).1) = .int (f_X3_stop (2 : Int32) (f_X3_takeInt (0 : Int32) (9999 : Int32) (f_X3_take (264 : Int32) s l).2.1 (f_X3_take (264 : Int32) s l).2.2).2.1 (f_X3_takeInt (0 : Int32) (9999 : Int32) (f_X3_take (264 : Int32) s l).2.1 (f_X3_take (264 : Int32) s l).2.2).2.2).1)) (hb29 : ¬ ((f_X3_take (264 : Int32) s l).1 = 0) → ¬ ((f_X3_takeInt (0 : Int32) (9999 : Int32) (f_X3_take (264 : Int32) s l).2.1 (f_X3_take (264 : Int32) s l).2.2).1 = 0) → (¬ ((f_X3_kindNow (f_X3_takeInt (0 : Int32) (9999 : Int32) (f_X3_take (264 : Int32) s l).2.1 (f_X3_take (264 : Int32) s l).2.2).2.1 (f_X3_takeInt (0 : Int32) (9999 : Int32) (f_X3_take (264 : Int32) s l).2.1 (f_X3_take (264 : Int32) s l).2.2).2.2) = (59 : Int32)) → (¬ (((f_X3_takeInt (0 : Int32) (9999 : Int32) (f_X3_take (264 : Int32) s l).2.1 (f_X3_take (264 : Int32) s l).2.2).2.1 3 2) < 0) → ¬ ((400 : Int32) < ((f_X3_takeInt (0 : Int32) (9999 : Int32) (f_X3_take (264 : Int32) s l).2.1 (f_X3_take (264 : Int32) s l).2.2).2.1 3 2)) → vp_in ((su (f_X3_takeInt (0 : Int32) (9999 : Int32) (f_X3_take (264 : Int32) s l).2.1 (f_X3_take (264 : Int32) s l).2.2).2.1 3 (upd ((f_X3_takeInt (0 : Int32) (9999 : Int32) (f_X3_take (264 : Int32) s l).2.1 (f_X3_take (264 : Int32) s l).2.2).2.1 3) 3 (1 : Int32))) 3 2) 401))) (hb30 : ¬ ((f_X3_take (264 : Int32) s l).1 = 0) → ¬ ((f_X3_takeInt (0 : Int32) (9999 : Int32) (f_X3_take (264 : Int32) s l).2.1 (f_X3_take (264 : Int32) s l).2.2).1 = 0) → (¬ ((f_X3_kindNow (f_X3_takeInt (0 : Int32) (9999 : Int32) (f_X3_take (264 : Int32) s l).2.1 (f_X3_take (264 : Int32) s l).2.2).2.1 (f_X3_takeInt (0 : Int32) (9999 : Int32) (f_X3_take (264 : Int32) s l).2.1 (f_X3_take (264 : Int32) s l).2.2).2.2) = (59 : Int32)) → narrow .boolean (.int (f_X3_stop (1 : Int32) (f_X3_takeInt (0 : Int32) (9999 : Int32) (f_X3_take (264 : Int32) s l).2.1 (f_X3_take (264 : Int32) s l).2.2).2.1 (f_X3_takeInt (0 : Int32) (9999 : Int32) (f_X3_take (264 : Int32) s l).2.1 (f_X3_take (264 : Int32) s l).2.2).2.2).1) = .int (f_X3_stop (1 : Int32) (f_X3_takeInt (0 : Int32) (9999 : Int32) (f_X3_take (264 : Int32) s l).2.1 (f_X3_take (264 : Int32) s l).2.2).2.1 (f_X3_takeInt (0 : Int32) (9999 : Int32) (f_X3_take (264 : Int32) s l).2.1 (f_X3_take (264 : Int32) s l).2.2).2.2).1)) : ab_C G (d + 3) 0 0 M_X3_seedTold 0 (ab_ent [.ref 3, .ref t]) [] (hp D s l) (rt (some (.int (f_X3_seedTold  t s l).1)) (hp D (f_X3_seedTold  t s l).2.1 (f_X3_seedTold  t s l).2.2)) := by
  refine r_weak (L1 := [some (.ref 3), some (.ref t)]) ⟨rfl, rfl, trivial⟩ ?_
  refine r_aload_n rfl rfl ?_
  refine r_sipush_ (a := 264) rfl (by decide) ?_
  refine q_callV0 [_] _ rfl kY_X3_take kT_X3_take rfl rfl (Nat.le_of_ble_eq_true rfl) (Nat.le_of_ble_eq_true rfl) (cc_3 _) (s_X3_take  hb0 hb1 hb2 hb3 hb4) (fun r h q => ?_)
  obtain ⟨rfl, rfl⟩ := q
  simp only [Option.toList, List.cons_append, List.nil_append]
  refine r_if_eq rfl (fun c_7 => ?_) (fun c_7 => ?_)
  · refine r_iconst_ (a := 0) rfl (by decide) ?_
    refine r_iret rfl rfl rfl ?_
    exact ⟨by (unfold f_X3_seedTold; (try dsimp only); rw [if_pos c_7]), by (unfold f_X3_seedTold; (try dsimp only); rw [if_pos c_7])⟩
  · refine r_aload_n rfl rfl ?_
    refine r_iconst_ (a := 0) rfl (by decide) ?_
    refine r_sipush_ (a := 9999) rfl (by decide) ?_
    refine q_callV0 [_, _] _ rfl kY_X3_takeInt kT_X3_takeInt rfl rfl (Nat.le_of_ble_eq_true rfl) (Nat.le_of_ble_eq_true rfl) (cc_3 _) (s_X3_takeInt  (hb5 c_7) (hb6 c_7) (hb7 c_7) (hb8 c_7) (hb9 c_7) (hb10 c_7) (hb11 c_7) (hb12 c_7) (hb13 c_7) (hb14 c_7) (hb15 c_7) (hb16 c_7) (hb17 c_7) (hb18 c_7) (hb19 c_7) (hb20 c_7) (hb21 c_7) (hb22 c_7) (hb23 c_7) (hb24 c_7) (hb25 c_7)) (fun r h q => ?_)
    obtain ⟨rfl, rfl⟩ := q
    simp only [Option.toList, List.cons_append, List.nil_append]
    refine r_if_eq rfl (fun c_18 => ?_) (fun c_18 => ?_)
    · refine r_iconst_ (a := 0) rfl (by decide) ?_
      refine r_iret rfl rfl rfl ?_
      exact ⟨by (unfold f_X3_seedTold; (try dsimp only); rw [if_neg c_7, if_pos c_18]), by (unfold f_X3_seedTold; (try dsimp only); rw [if_neg c_7, if_pos c_18])⟩
    · refine r_aload_n rfl rfl ?_
      refine r_bipush_ (a := 59) rfl (by decide) ?_
      refine q_callV0 [_] _ rfl kY_X3_take kT_X3_take rfl rfl (Nat.le_of_ble_eq_true rfl) (Nat.le_of_ble_eq_true rfl) (cc_3 _) (s_X3_take  (hb26 c_7 c_18) (hb27 c_7 c_18) (hb28 c_7 c_18) (hb29 c_7 c_18) (hb30 c_7 c_18)) (fun r h q => ?_)
      obtain ⟨rfl, rfl⟩ := q
      simp only [Option.toList, List.cons_append, List.nil_append]
      refine r_if_ne rfl (fun c_27 => ?_) (fun c_27 => ?_)
      · refine r_aload_n rfl rfl ?_
        refine r_aload_n rfl rfl ?_
        refine q_getfield rfl (cc_3 _) rfl ?_
        refine w_put rfl (cT_0 htt) ff_5_18 ft_5_18 (Nat.le_of_ble_eq_true rfl) rfl ?_
        refine r_iconst_ (a := 1) rfl (by decide) ?_
        refine r_iret rfl rfl rfl ?_
        exact ⟨by (unfold f_X3_seedTold; (try dsimp only); rw [if_neg c_7, if_neg c_18, if_neg c_27]), by (unfold f_X3_seedTold; (try dsimp only); rw [if_neg c_7, if_neg c_18, if_neg c_27])⟩
      · refine r_iconst_ (a := 0) rfl (by decide) ?_
        refine r_iret rfl rfl rfl ?_
        exact ⟨by (unfold f_X3_seedTold; (try dsimp only); rw [if_neg c_7, if_neg c_18, if_pos c_27]), by (unfold f_X3_seedTold; (try dsimp only); rw [if_neg c_7, if_neg c_18, if_pos c_27])⟩

def f_X12_toldStep  (s : fl_I) (l : fl_L) : Int32 × fl_I × fl_L :=
  if ((s 60 13) = 0) then if ((f_X12_is (9 : Int32) s l) = 0) then if ((0 : Int32) = 0) then if ((0 : Int32) = 0) then ((f_X12_bounded (0 : Int32) (2 : Int32) s l).1, (f_X12_bounded (0 : Int32) (2 : Int32) s l).2.1, (f_X12_bounded (0 : Int32) (2 : Int32) s l).2.2) else ((-(f_X12_bounded (0 : Int32) (2 : Int32) s l).1), (f_X12_bounded (0 : Int32) (2 : Int32) s l).2.1, (f_X12_bounded (0 : Int32) (2 : Int32) s l).2.2) else if ((0 : Int32) = 0) then ((f_X12_bounded (0 : Int32) (2 : Int32) (f_X12_goesOn s l).1 (f_X12_goesOn s l).2).1, (f_X12_bounded (0 : Int32) (2 : Int32) (f_X12_goesOn s l).1 (f_X12_goesOn s l).2).2.1, (f_X12_bounded (0 : Int32) (2 : Int32) (f_X12_goesOn s l).1 (f_X12_goesOn s l).2).2.2) else ((-(f_X12_bounded (0 : Int32) (2 : Int32) (f_X12_goesOn s l).1 (f_X12_goesOn s l).2).1), (f_X12_bounded (0 : Int32) (2 : Int32) (f_X12_goesOn s l).1 (f_X12_goesOn s l).2).2.1, (f_X12_bounded (0 : Int32) (2 : Int32) (f_X12_goesOn s l).1 (f_X12_goesOn s l).2).2.2) else if ((1 : Int32) = 0) then if ((1 : Int32) = 0) then ((f_X12_bounded (0 : Int32) (2 : Int32) s l).1, (f_X12_bounded (0 : Int32) (2 : Int32) s l).2.1, (f_X12_bounded (0 : Int32) (2 : Int32) s l).2.2) else ((-(f_X12_bounded (0 : Int32) (2 : Int32) s l).1), (f_X12_bounded (0 : Int32) (2 : Int32) s l).2.1, (f_X12_bounded (0 : Int32) (2 : Int32) s l).2.2) else if ((1 : Int32) = 0) then ((f_X12_bounded (0 : Int32) (2 : Int32) (f_X12_goesOn s l).1 (f_X12_goesOn s l).2).1, (f_X12_bounded (0 : Int32) (2 : Int32) (f_X12_goesOn s l).1 (f_X12_goesOn s l).2).2.1, (f_X12_bounded (0 : Int32) (2 : Int32) (f_X12_goesOn s l).1 (f_X12_goesOn s l).2).2.2) else ((-(f_X12_bounded (0 : Int32) (2 : Int32) (f_X12_goesOn s l).1 (f_X12_goesOn s l).2).1), (f_X12_bounded (0 : Int32) (2 : Int32) (f_X12_goesOn s l).1 (f_X12_goesOn s l).2).2.1, (f_X12_bounded (0 : Int32) (2 : Int32) (f_X12_goesOn s l).1 (f_X12_goesOn s l).2).2.2) else if ((0 : Int32) = 0) then if ((0 : Int32) = 0) then ((f_X12_bounded (0 : Int32) (2 : Int32) s l).1, (f_X12_bounded (0 : Int32) (2 : Int32) s l).2.1, (f_X12_bounded (0 : Int32) (2 : Int32) s l).2.2) else ((-(f_X12_bounded (0 : Int32) (2 : Int32) s l).1), (f_X12_bounded (0 : Int32) (2 : Int32) s l).2.1, (f_X12_bounded (0 : Int32) (2 : Int32) s l).2.2) else if ((0 : Int32) = 0) then ((f_X12_bounded (0 : Int32) (2 : Int32) (f_X12_goesOn s l).1 (f_X12_goesOn s l).2).1, (f_X12_bounded (0 : Int32) (2 : Int32) (f_X12_goesOn s l).1 (f_X12_goesOn s l).2).2.1, (f_X12_bounded (0 : Int32) (2 : Int32) (f_X12_goesOn s l).1 (f_X12_goesOn s l).2).2.2) else ((-(f_X12_bounded (0 : Int32) (2 : Int32) (f_X12_goesOn s l).1 (f_X12_goesOn s l).2).1), (f_X12_bounded (0 : Int32) (2 : Int32) (f_X12_goesOn s l).1 (f_X12_goesOn s l).2).2.1, (f_X12_bounded (0 : Int32) (2 : Int32) (f_X12_goesOn s l).1 (f_X12_goesOn s l).2).2.2)
set_option maxRecDepth 100000 in
set_option maxHeartbeats 4000000 in
theorem s_X12_toldStep {G : ab_G} {d : Nat} {D : fl_D} {s : fl_I} {l : fl_L}  (hb0 : ¬ ((s 60 13) = 0) → ((0 : Int32) = 0) → ((0 < (s 60 13)) → (((s 60 13) ≤ 0) → vp_in ((su s 60 (upd (s 60) 13 (1 : Int32))) 60 11) 403))) (hb1 : ¬ ((s 60 13) = 0) → ((0 : Int32) = 0) → (¬ (0 < (s 60 13)) → (((s 60 13) = 0) → vp_in (s 60 11) 403))) (hb2 : ¬ ((s 60 13) = 0) → ((0 : Int32) = 0) → (¬ (0 < (s 60 13)) → ¬ ((f_X12_is (2 : Int32) s l) = 0) → vp_in (s 60 11) 403)) (hb3 : ¬ ((s 60 13) = 0) → ((0 : Int32) = 0) → (¬ (0 < (s 60 13)) → ¬ ((f_X12_is (2 : Int32) s l) = 0) → ((s 65 (s 60 11).toNatClampNeg) < (0 : Int32)) → (vp_in (s 60 11) 403))) (hb4 : ¬ ((s 60 13) = 0) → ((0 : Int32) = 0) → (¬ (0 < (s 60 13)) → ¬ ((f_X12_is (2 : Int32) s l) = 0) → ((s 65 (s 60 11).toNatClampNeg) < (0 : Int32)) → ((((f_X12_wrong (5 : Int32) (s 60 11) s l).1 60 11) = (400 : Int32)) → ((((f_X12_wrong (5 : Int32) (s 60 11) s l).1 60 13) ≤ 0) → vp_in ((su (f_X12_wrong (5 : Int32) (s 60 11) s l).1 60 (upd ((f_X12_wrong (5 : Int32) (s 60 11) s l).1 60) 13 (2 : Int32))) 60 11) 403)))) (hb5 : ¬ ((s 60 13) = 0) → ((0 : Int32) = 0) → (¬ (0 < (s 60 13)) → ¬ ((f_X12_is (2 : Int32) s l) = 0) → ¬ ((s 65 (s 60 11).toNatClampNeg) < (0 : Int32)) → ((s 65 (s 60 11).toNatClampNeg) ≤ (2 : Int32)) → (((s 60 11) = (400 : Int32)) → (((s 60 13) ≤ 0) → vp_in ((su s 60 (upd (s 60) 13 (2 : Int32))) 60 11) 403)))) (hb6 : ¬ ((s 60 13) = 0) → ((0 : Int32) = 0) → (¬ (0 < (s 60 13)) → ¬ ((f_X12_is (2 : Int32) s l) = 0) → ¬ ((s 65 (s 60 11).toNatClampNeg) < (0 : Int32)) → ¬ ((s 65 (s 60 11).toNatClampNeg) ≤ (2 : Int32)) → (vp_in (s 60 11) 403))) (hb7 : ¬ ((s 60 13) = 0) → ((0 : Int32) = 0) → (¬ (0 < (s 60 13)) → ¬ ((f_X12_is (2 : Int32) s l) = 0) → ¬ ((s 65 (s 60 11).toNatClampNeg) < (0 : Int32)) → ¬ ((s 65 (s 60 11).toNatClampNeg) ≤ (2 : Int32)) → ((((f_X12_wrong (5 : Int32) (s 60 11) s l).1 60 11) = (400 : Int32)) → ((((f_X12_wrong (5 : Int32) (s 60 11) s l).1 60 13) ≤ 0) → vp_in ((su (f_X12_wrong (5 : Int32) (s 60 11) s l).1 60 (upd ((f_X12_wrong (5 : Int32) (s 60 11) s l).1 60) 13 (2 : Int32))) 60 11) 403)))) (hb8 : ¬ ((s 60 13) = 0) → ((0 : Int32) = 0) → (¬ (0 < (s 60 13)) → ((f_X12_is (2 : Int32) s l) = 0) → (((s 60 13) ≤ 0) → vp_in ((su s 60 (upd (s 60) 13 (1 : Int32))) 60 11) 403))) (hb9 : ¬ ((s 60 13) = 0) → ¬ ((0 : Int32) = 0) → (((s 60 11) = (400 : Int32)) → (((s 60 13) ≤ 0) → vp_in ((su s 60 (upd (s 60) 13 (2 : Int32))) 60 11) 403))) (hb10 : ¬ ((s 60 13) = 0) → ¬ ((0 : Int32) = 0) → ((0 < ((f_X12_goesOn s l).1 60 13)) → ((((f_X12_goesOn s l).1 60 13) ≤ 0) → vp_in ((su (f_X12_goesOn s l).1 60 (upd ((f_X12_goesOn s l).1 60) 13 (1 : Int32))) 60 11) 403))) (hb11 : ¬ ((s 60 13) = 0) → ¬ ((0 : Int32) = 0) → (¬ (0 < ((f_X12_goesOn s l).1 60 13)) → ((((f_X12_goesOn s l).1 60 13) = 0) → vp_in ((f_X12_goesOn s l).1 60 11) 403))) (hb12 : ¬ ((s 60 13) = 0) → ¬ ((0 : Int32) = 0) → (¬ (0 < ((f_X12_goesOn s l).1 60 13)) → ¬ ((f_X12_is (2 : Int32) (f_X12_goesOn s l).1 (f_X12_goesOn s l).2) = 0) → vp_in ((f_X12_goesOn s l).1 60 11) 403)) (hb13 : ¬ ((s 60 13) = 0) → ¬ ((0 : Int32) = 0) → (¬ (0 < ((f_X12_goesOn s l).1 60 13)) → ¬ ((f_X12_is (2 : Int32) (f_X12_goesOn s l).1 (f_X12_goesOn s l).2) = 0) → (((f_X12_goesOn s l).1 65 ((f_X12_goesOn s l).1 60 11).toNatClampNeg) < (0 : Int32)) → (vp_in ((f_X12_goesOn s l).1 60 11) 403))) (hb14 : ¬ ((s 60 13) = 0) → ¬ ((0 : Int32) = 0) → (¬ (0 < ((f_X12_goesOn s l).1 60 13)) → ¬ ((f_X12_is (2 : Int32) (f_X12_goesOn s l).1 (f_X12_goesOn s l).2) = 0) → (((f_X12_goesOn s l).1 65 ((f_X12_goesOn s l).1 60 11).toNatClampNeg) < (0 : Int32)) → ((((f_X12_wrong (5 : Int32) ((f_X12_goesOn s l).1 60 11) (f_X12_goesOn s l).1 (f_X12_goesOn s l).2).1 60 11) = (400 : Int32)) → ((((f_X12_wrong (5 : Int32) ((f_X12_goesOn s l).1 60 11) (f_X12_goesOn s l).1 (f_X12_goesOn s l).2).1 60 13) ≤ 0) → vp_in ((su (f_X12_wrong (5 : Int32) ((f_X12_goesOn s l).1 60 11) (f_X12_goesOn s l).1 (f_X12_goesOn s l).2).1 60 (upd ((f_X12_wrong (5 : Int32) ((f_X12_goesOn s l).1 60 11) (f_X12_goesOn s l).1 (f_X12_goesOn s l).2).1 60) 13 (2 : Int32))) 60 11) 403)))) (hb15 : ¬ ((s 60 13) = 0) → ¬ ((0 : Int32) = 0) → (¬ (0 < ((f_X12_goesOn s l).1 60 13)) → ¬ ((f_X12_is (2 : Int32) (f_X12_goesOn s l).1 (f_X12_goesOn s l).2) = 0) → ¬ (((f_X12_goesOn s l).1 65 ((f_X12_goesOn s l).1 60 11).toNatClampNeg) < (0 : Int32)) → (((f_X12_goesOn s l).1 65 ((f_X12_goesOn s l).1 60 11).toNatClampNeg) ≤ (2 : Int32)) → ((((f_X12_goesOn s l).1 60 11) = (400 : Int32)) → ((((f_X12_goesOn s l).1 60 13) ≤ 0) → vp_in ((su (f_X12_goesOn s l).1 60 (upd ((f_X12_goesOn s l).1 60) 13 (2 : Int32))) 60 11) 403)))) (hb16 : ¬ ((s 60 13) = 0) → ¬ ((0 : Int32) = 0) → (¬ (0 < ((f_X12_goesOn s l).1 60 13)) → ¬ ((f_X12_is (2 : Int32) (f_X12_goesOn s l).1 (f_X12_goesOn s l).2) = 0) → ¬ (((f_X12_goesOn s l).1 65 ((f_X12_goesOn s l).1 60 11).toNatClampNeg) < (0 : Int32)) → ¬ (((f_X12_goesOn s l).1 65 ((f_X12_goesOn s l).1 60 11).toNatClampNeg) ≤ (2 : Int32)) → (vp_in ((f_X12_goesOn s l).1 60 11) 403))) (hb17 : ¬ ((s 60 13) = 0) → ¬ ((0 : Int32) = 0) → (¬ (0 < ((f_X12_goesOn s l).1 60 13)) → ¬ ((f_X12_is (2 : Int32) (f_X12_goesOn s l).1 (f_X12_goesOn s l).2) = 0) → ¬ (((f_X12_goesOn s l).1 65 ((f_X12_goesOn s l).1 60 11).toNatClampNeg) < (0 : Int32)) → ¬ (((f_X12_goesOn s l).1 65 ((f_X12_goesOn s l).1 60 11).toNatClampNeg) ≤ (2 : Int32)) → ((((f_X12_wrong (5 : Int32) ((f_X12_goesOn s l).1 60 11) (f_X12_goesOn s l).1 (f_X12_goesOn s l).2).1 60 11) = (400 : Int32)) → ((((f_X12_wrong (5 : Int32) ((f_X12_goesOn s l).1 60 11) (f_X12_goesOn s l).1 (f_X12_goesOn s l).2).1 60 13) ≤ 0) → vp_in ((su (f_X12_wrong (5 : Int32) ((f_X12_goesOn s l).1 60 11) (f_X12_goesOn s l).1 (f_X12_goesOn s l).2).1 60 (upd ((f_X12_wrong (5 : Int32) ((f_X12_goesOn s l).1 60 11) (f_X12_goesOn s l).1 (f_X12_goesOn s l).2).1 60) 13 (2 : Int32))) 60 11) 403)))) (hb18 : ¬ ((s 60 13) = 0) → ¬ ((0 : Int32) = 0) → (¬ (0 < ((f_X12_goesOn s l).1 60 13)) → ((f_X12_is (2 : Int32) (f_X12_goesOn s l).1 (f_X12_goesOn s l).2) = 0) → ((((f_X12_goesOn s l).1 60 13) ≤ 0) → vp_in ((su (f_X12_goesOn s l).1 60 (upd ((f_X12_goesOn s l).1 60) 13 (1 : Int32))) 60 11) 403))) (hb19 : ((s 60 13) = 0) → (((s 60 13) = 0) → vp_in (s 60 11) 403)) (hb20 : ((s 60 13) = 0) → ((f_X12_is (9 : Int32) s l) = 0) → ((0 : Int32) = 0) → ((0 < (s 60 13)) → (((s 60 13) ≤ 0) → vp_in ((su s 60 (upd (s 60) 13 (1 : Int32))) 60 11) 403))) (hb21 : ((s 60 13) = 0) → ((f_X12_is (9 : Int32) s l) = 0) → ((0 : Int32) = 0) → (¬ (0 < (s 60 13)) → (((s 60 13) = 0) → vp_in (s 60 11) 403))) (hb22 : ((s 60 13) = 0) → ((f_X12_is (9 : Int32) s l) = 0) → ((0 : Int32) = 0) → (¬ (0 < (s 60 13)) → ¬ ((f_X12_is (2 : Int32) s l) = 0) → vp_in (s 60 11) 403)) (hb23 : ((s 60 13) = 0) → ((f_X12_is (9 : Int32) s l) = 0) → ((0 : Int32) = 0) → (¬ (0 < (s 60 13)) → ¬ ((f_X12_is (2 : Int32) s l) = 0) → ((s 65 (s 60 11).toNatClampNeg) < (0 : Int32)) → (vp_in (s 60 11) 403))) (hb24 : ((s 60 13) = 0) → ((f_X12_is (9 : Int32) s l) = 0) → ((0 : Int32) = 0) → (¬ (0 < (s 60 13)) → ¬ ((f_X12_is (2 : Int32) s l) = 0) → ((s 65 (s 60 11).toNatClampNeg) < (0 : Int32)) → ((((f_X12_wrong (5 : Int32) (s 60 11) s l).1 60 11) = (400 : Int32)) → ((((f_X12_wrong (5 : Int32) (s 60 11) s l).1 60 13) ≤ 0) → vp_in ((su (f_X12_wrong (5 : Int32) (s 60 11) s l).1 60 (upd ((f_X12_wrong (5 : Int32) (s 60 11) s l).1 60) 13 (2 : Int32))) 60 11) 403)))) (hb25 : ((s 60 13) = 0) → ((f_X12_is (9 : Int32) s l) = 0) → ((0 : Int32) = 0) → (¬ (0 < (s 60 13)) → ¬ ((f_X12_is (2 : Int32) s l) = 0) → ¬ ((s 65 (s 60 11).toNatClampNeg) < (0 : Int32)) → ((s 65 (s 60 11).toNatClampNeg) ≤ (2 : Int32)) → (((s 60 11) = (400 : Int32)) → (((s 60 13) ≤ 0) → vp_in ((su s 60 (upd (s 60) 13 (2 : Int32))) 60 11) 403)))) (hb26 : ((s 60 13) = 0) → ((f_X12_is (9 : Int32) s l) = 0) → ((0 : Int32) = 0) → (¬ (0 < (s 60 13)) → ¬ ((f_X12_is (2 : Int32) s l) = 0) → ¬ ((s 65 (s 60 11).toNatClampNeg) < (0 : Int32)) → ¬ ((s 65 (s 60 11).toNatClampNeg) ≤ (2 : Int32)) → (vp_in (s 60 11) 403))) (hb27 : ((s 60 13) = 0) → ((f_X12_is (9 : Int32) s l) = 0) → ((0 : Int32) = 0) → (¬ (0 < (s 60 13)) → ¬ ((f_X12_is (2 : Int32) s l) = 0) → ¬ ((s 65 (s 60 11).toNatClampNeg) < (0 : Int32)) → ¬ ((s 65 (s 60 11).toNatClampNeg) ≤ (2 : Int32)) → ((((f_X12_wrong (5 : Int32) (s 60 11) s l).1 60 11) = (400 : Int32)) → ((((f_X12_wrong (5 : Int32) (s 60 11) s l).1 60 13) ≤ 0) → vp_in ((su (f_X12_wrong (5 : Int32) (s 60 11) s l).1 60 (upd ((f_X12_wrong (5 : Int32) (s 60 11) s l).1 60) 13 (2 : Int32))) 60 11) 403)))) (hb28 : ((s 60 13) = 0) → ((f_X12_is (9 : Int32) s l) = 0) → ((0 : Int32) = 0) → (¬ (0 < (s 60 13)) → ((f_X12_is (2 : Int32) s l) = 0) → (((s 60 13) ≤ 0) → vp_in ((su s 60 (upd (s 60) 13 (1 : Int32))) 60 11) 403))) (hb29 : ((s 60 13) = 0) → ((f_X12_is (9 : Int32) s l) = 0) → ¬ ((0 : Int32) = 0) → (((s 60 11) = (400 : Int32)) → (((s 60 13) ≤ 0) → vp_in ((su s 60 (upd (s 60) 13 (2 : Int32))) 60 11) 403))) (hb30 : ((s 60 13) = 0) → ((f_X12_is (9 : Int32) s l) = 0) → ¬ ((0 : Int32) = 0) → ((0 < ((f_X12_goesOn s l).1 60 13)) → ((((f_X12_goesOn s l).1 60 13) ≤ 0) → vp_in ((su (f_X12_goesOn s l).1 60 (upd ((f_X12_goesOn s l).1 60) 13 (1 : Int32))) 60 11) 403))) (hb31 : ((s 60 13) = 0) → ((f_X12_is (9 : Int32) s l) = 0) → ¬ ((0 : Int32) = 0) → (¬ (0 < ((f_X12_goesOn s l).1 60 13)) → ((((f_X12_goesOn s l).1 60 13) = 0) → vp_in ((f_X12_goesOn s l).1 60 11) 403))) (hb32 : ((s 60 13) = 0) → ((f_X12_is (9 : Int32) s l) = 0) → ¬ ((0 : Int32) = 0) → (¬ (0 < ((f_X12_goesOn s l).1 60 13)) → ¬ ((f_X12_is (2 : Int32) (f_X12_goesOn s l).1 (f_X12_goesOn s l).2) = 0) → vp_in ((f_X12_goesOn s l).1 60 11) 403)) (hb33 : ((s 60 13) = 0) → ((f_X12_is (9 : Int32) s l) = 0) → ¬ ((0 : Int32) = 0) → (¬ (0 < ((f_X12_goesOn s l).1 60 13)) → ¬ ((f_X12_is (2 : Int32) (f_X12_goesOn s l).1 (f_X12_goesOn s l).2) = 0) → (((f_X12_goesOn s l).1 65 ((f_X12_goesOn s l).1 60 11).toNatClampNeg) < (0 : Int32)) → (vp_in ((f_X12_goesOn s l).1 60 11) 403))) (hb34 : ((s 60 13) = 0) → ((f_X12_is (9 : Int32) s l) = 0) → ¬ ((0 : Int32) = 0) → (¬ (0 < ((f_X12_goesOn s l).1 60 13)) → ¬ ((f_X12_is (2 : Int32) (f_X12_goesOn s l).1 (f_X12_goesOn s l).2) = 0) → (((f_X12_goesOn s l).1 65 ((f_X12_goesOn s l).1 60 11).toNatClampNeg) < (0 : Int32)) → ((((f_X12_wrong (5 : Int32) ((f_X12_goesOn s l).1 60 11) (f_X12_goesOn s l).1 (f_X12_goesOn s l).2).1 60 11) = (400 : Int32)) → ((((f_X12_wrong (5 : Int32) ((f_X12_goesOn s l).1 60 11) (f_X12_goesOn s l).1 (f_X12_goesOn s l).2).1 60 13) ≤ 0) → vp_in ((su (f_X12_wrong (5 : Int32) ((f_X12_goesOn s l).1 60 11) (f_X12_goesOn s l).1 (f_X12_goesOn s l).2).1 60 (upd ((f_X12_wrong (5 : Int32) ((f_X12_goesOn s l).1 60 11) (f_X12_goesOn s l).1 (f_X12_goesOn s l).2).1 60) 13 (2 : Int32))) 60 11) 403)))) (hb35 : ((s 60 13) = 0) → ((f_X12_is (9 : Int32) s l) = 0) → ¬ ((0 : Int32) = 0) → (¬ (0 < ((f_X12_goesOn s l).1 60 13)) → ¬ ((f_X12_is (2 : Int32) (f_X12_goesOn s l).1 (f_X12_goesOn s l).2) = 0) → ¬ (((f_X12_goesOn s l).1 65 ((f_X12_goesOn s l).1 60 11).toNatClampNeg) < (0 : Int32)) → (((f_X12_goesOn s l).1 65 ((f_X12_goesOn s l).1 60 11).toNatClampNeg) ≤ (2 : Int32)) → ((((f_X12_goesOn s l).1 60 11) = (400 : Int32)) → ((((f_X12_goesOn s l).1 60 13) ≤ 0) → vp_in ((su (f_X12_goesOn s l).1 60 (upd ((f_X12_goesOn s l).1 60) 13 (2 : Int32))) 60 11) 403)))) (hb36 : ((s 60 13) = 0) → ((f_X12_is (9 : Int32) s l) = 0) → ¬ ((0 : Int32) = 0) → (¬ (0 < ((f_X12_goesOn s l).1 60 13)) → ¬ ((f_X12_is (2 : Int32) (f_X12_goesOn s l).1 (f_X12_goesOn s l).2) = 0) → ¬ (((f_X12_goesOn s l).1 65 ((f_X12_goesOn s l).1 60 11).toNatClampNeg) < (0 : Int32)) → ¬ (((f_X12_goesOn s l).1 65 ((f_X12_goesOn s l).1 60 11).toNatClampNeg) ≤ (2 : Int32)) → (vp_in ((f_X12_goesOn s l).1 60 11) 403))) (hb37 : ((s 60 13) = 0) → ((f_X12_is (9 : Int32) s l) = 0) → ¬ ((0 : Int32) = 0) → (¬ (0 < ((f_X12_goesOn s l).1 60 13)) → ¬ ((f_X12_is (2 : Int32) (f_X12_goesOn s l).1 (f_X12_goesOn s l).2) = 0) → ¬ (((f_X12_goesOn s l).1 65 ((f_X12_goesOn s l).1 60 11).toNatClampNeg) < (0 : Int32)) → ¬ (((f_X12_goesOn s l).1 65 ((f_X12_goesOn s l).1 60 11).toNatClampNeg) ≤ (2 : Int32)) → ((((f_X12_wrong (5 : Int32) ((f_X12_goesOn s l).1 60 11) (f_X12_goesOn s l).1 (f_X12_goesOn s l).2).1 60 11) = (400 : Int32)) → ((((f_X12_wrong (5 : Int32) ((f_X12_goesOn s l).1 60 11) (f_X12_goesOn s l).1 (f_X12_goesOn s l).2).1 60 13) ≤ 0) → vp_in ((su (f_X12_wrong (5 : Int32) ((f_X12_goesOn s l).1 60 11) (f_X12_goesOn s l).1 (f_X12_goesOn s l).2).1 60 (upd ((f_X12_wrong (5 : Int32) ((f_X12_goesOn s l).1 60 11) (f_X12_goesOn s l).1 (f_X12_goesOn s l).2).1 60) 13 (2 : Int32))) 60 11) 403)))) (hb38 : ((s 60 13) = 0) → ((f_X12_is (9 : Int32) s l) = 0) → ¬ ((0 : Int32) = 0) → (¬ (0 < ((f_X12_goesOn s l).1 60 13)) → ((f_X12_is (2 : Int32) (f_X12_goesOn s l).1 (f_X12_goesOn s l).2) = 0) → ((((f_X12_goesOn s l).1 60 13) ≤ 0) → vp_in ((su (f_X12_goesOn s l).1 60 (upd ((f_X12_goesOn s l).1 60) 13 (1 : Int32))) 60 11) 403))) (hb39 : ((s 60 13) = 0) → ¬ ((f_X12_is (9 : Int32) s l) = 0) → ((1 : Int32) = 0) → ((0 < (s 60 13)) → (((s 60 13) ≤ 0) → vp_in ((su s 60 (upd (s 60) 13 (1 : Int32))) 60 11) 403))) (hb40 : ((s 60 13) = 0) → ¬ ((f_X12_is (9 : Int32) s l) = 0) → ((1 : Int32) = 0) → (¬ (0 < (s 60 13)) → (((s 60 13) = 0) → vp_in (s 60 11) 403))) (hb41 : ((s 60 13) = 0) → ¬ ((f_X12_is (9 : Int32) s l) = 0) → ((1 : Int32) = 0) → (¬ (0 < (s 60 13)) → ¬ ((f_X12_is (2 : Int32) s l) = 0) → vp_in (s 60 11) 403)) (hb42 : ((s 60 13) = 0) → ¬ ((f_X12_is (9 : Int32) s l) = 0) → ((1 : Int32) = 0) → (¬ (0 < (s 60 13)) → ¬ ((f_X12_is (2 : Int32) s l) = 0) → ((s 65 (s 60 11).toNatClampNeg) < (0 : Int32)) → (vp_in (s 60 11) 403))) (hb43 : ((s 60 13) = 0) → ¬ ((f_X12_is (9 : Int32) s l) = 0) → ((1 : Int32) = 0) → (¬ (0 < (s 60 13)) → ¬ ((f_X12_is (2 : Int32) s l) = 0) → ((s 65 (s 60 11).toNatClampNeg) < (0 : Int32)) → ((((f_X12_wrong (5 : Int32) (s 60 11) s l).1 60 11) = (400 : Int32)) → ((((f_X12_wrong (5 : Int32) (s 60 11) s l).1 60 13) ≤ 0) → vp_in ((su (f_X12_wrong (5 : Int32) (s 60 11) s l).1 60 (upd ((f_X12_wrong (5 : Int32) (s 60 11) s l).1 60) 13 (2 : Int32))) 60 11) 403)))) (hb44 : ((s 60 13) = 0) → ¬ ((f_X12_is (9 : Int32) s l) = 0) → ((1 : Int32) = 0) → (¬ (0 < (s 60 13)) → ¬ ((f_X12_is (2 : Int32) s l) = 0) → ¬ ((s 65 (s 60 11).toNatClampNeg) < (0 : Int32)) → ((s 65 (s 60 11).toNatClampNeg) ≤ (2 : Int32)) → (((s 60 11) = (400 : Int32)) → (((s 60 13) ≤ 0) → vp_in ((su s 60 (upd (s 60) 13 (2 : Int32))) 60 11) 403)))) (hb45 : ((s 60 13) = 0) → ¬ ((f_X12_is (9 : Int32) s l) = 0) → ((1 : Int32) = 0) → (¬ (0 < (s 60 13)) → ¬ ((f_X12_is (2 : Int32) s l) = 0) → ¬ ((s 65 (s 60 11).toNatClampNeg) < (0 : Int32)) → ¬ ((s 65 (s 60 11).toNatClampNeg) ≤ (2 : Int32)) → (vp_in (s 60 11) 403))) (hb46 : ((s 60 13) = 0) → ¬ ((f_X12_is (9 : Int32) s l) = 0) → ((1 : Int32) = 0) → (¬ (0 < (s 60 13)) → ¬ ((f_X12_is (2 : Int32) s l) = 0) → ¬ ((s 65 (s 60 11).toNatClampNeg) < (0 : Int32)) → ¬ ((s 65 (s 60 11).toNatClampNeg) ≤ (2 : Int32)) → ((((f_X12_wrong (5 : Int32) (s 60 11) s l).1 60 11) = (400 : Int32)) → ((((f_X12_wrong (5 : Int32) (s 60 11) s l).1 60 13) ≤ 0) → vp_in ((su (f_X12_wrong (5 : Int32) (s 60 11) s l).1 60 (upd ((f_X12_wrong (5 : Int32) (s 60 11) s l).1 60) 13 (2 : Int32))) 60 11) 403)))) (hb47 : ((s 60 13) = 0) → ¬ ((f_X12_is (9 : Int32) s l) = 0) → ((1 : Int32) = 0) → (¬ (0 < (s 60 13)) → ((f_X12_is (2 : Int32) s l) = 0) → (((s 60 13) ≤ 0) → vp_in ((su s 60 (upd (s 60) 13 (1 : Int32))) 60 11) 403))) (hb48 : ((s 60 13) = 0) → ¬ ((f_X12_is (9 : Int32) s l) = 0) → ¬ ((1 : Int32) = 0) → (((s 60 11) = (400 : Int32)) → (((s 60 13) ≤ 0) → vp_in ((su s 60 (upd (s 60) 13 (2 : Int32))) 60 11) 403))) (hb49 : ((s 60 13) = 0) → ¬ ((f_X12_is (9 : Int32) s l) = 0) → ¬ ((1 : Int32) = 0) → ((0 < ((f_X12_goesOn s l).1 60 13)) → ((((f_X12_goesOn s l).1 60 13) ≤ 0) → vp_in ((su (f_X12_goesOn s l).1 60 (upd ((f_X12_goesOn s l).1 60) 13 (1 : Int32))) 60 11) 403))) (hb50 : ((s 60 13) = 0) → ¬ ((f_X12_is (9 : Int32) s l) = 0) → ¬ ((1 : Int32) = 0) → (¬ (0 < ((f_X12_goesOn s l).1 60 13)) → ((((f_X12_goesOn s l).1 60 13) = 0) → vp_in ((f_X12_goesOn s l).1 60 11) 403))) (hb51 : ((s 60 13) = 0) → ¬ ((f_X12_is (9 : Int32) s l) = 0) → ¬ ((1 : Int32) = 0) → (¬ (0 < ((f_X12_goesOn s l).1 60 13)) → ¬ ((f_X12_is (2 : Int32) (f_X12_goesOn s l).1 (f_X12_goesOn s l).2) = 0) → vp_in ((f_X12_goesOn s l).1 60 11) 403)) (hb52 : ((s 60 13) = 0) → ¬ ((f_X12_is (9 : Int32) s l) = 0) → ¬ ((1 : Int32) = 0) → (¬ (0 < ((f_X12_goesOn s l).1 60 13)) → ¬ ((f_X12_is (2 : Int32) (f_X12_goesOn s l).1 (f_X12_goesOn s l).2) = 0) → (((f_X12_goesOn s l).1 65 ((f_X12_goesOn s l).1 60 11).toNatClampNeg) < (0 : Int32)) → (vp_in ((f_X12_goesOn s l).1 60 11) 403))) (hb53 : ((s 60 13) = 0) → ¬ ((f_X12_is (9 : Int32) s l) = 0) → ¬ ((1 : Int32) = 0) → (¬ (0 < ((f_X12_goesOn s l).1 60 13)) → ¬ ((f_X12_is (2 : Int32) (f_X12_goesOn s l).1 (f_X12_goesOn s l).2) = 0) → (((f_X12_goesOn s l).1 65 ((f_X12_goesOn s l).1 60 11).toNatClampNeg) < (0 : Int32)) → ((((f_X12_wrong (5 : Int32) ((f_X12_goesOn s l).1 60 11) (f_X12_goesOn s l).1 (f_X12_goesOn s l).2).1 60 11) = (400 : Int32)) → ((((f_X12_wrong (5 : Int32) ((f_X12_goesOn s l).1 60 11) (f_X12_goesOn s l).1 (f_X12_goesOn s l).2).1 60 13) ≤ 0) → vp_in ((su (f_X12_wrong (5 : Int32) ((f_X12_goesOn s l).1 60 11) (f_X12_goesOn s l).1 (f_X12_goesOn s l).2).1 60 (upd ((f_X12_wrong (5 : Int32) ((f_X12_goesOn s l).1 60 11) (f_X12_goesOn s l).1 (f_X12_goesOn s l).2).1 60) 13 (2 : Int32))) 60 11) 403)))) (hb54 : ((s 60 13) = 0) → ¬ ((f_X12_is (9 : Int32) s l) = 0) → ¬ ((1 : Int32) = 0) → (¬ (0 < ((f_X12_goesOn s l).1 60 13)) → ¬ ((f_X12_is (2 : Int32) (f_X12_goesOn s l).1 (f_X12_goesOn s l).2) = 0) → ¬ (((f_X12_goesOn s l).1 65 ((f_X12_goesOn s l).1 60 11).toNatClampNeg) < (0 : Int32)) → (((f_X12_goesOn s l).1 65 ((f_X12_goesOn s l).1 60 11).toNatClampNeg) ≤ (2 : Int32)) → ((((f_X12_goesOn s l).1 60 11) = (400 : Int32)) → ((((f_X12_goesOn s l).1 60 13) ≤ 0) → vp_in ((su (f_X12_goesOn s l).1 60 (upd ((f_X12_goesOn s l).1 60) 13 (2 : Int32))) 60 11) 403)))) (hb55 : ((s 60 13) = 0) → ¬ ((f_X12_is (9 : Int32) s l) = 0) → ¬ ((1 : Int32) = 0) → (¬ (0 < ((f_X12_goesOn s l).1 60 13)) → ¬ ((f_X12_is (2 : Int32) (f_X12_goesOn s l).1 (f_X12_goesOn s l).2) = 0) → ¬ (((f_X12_goesOn s l).1 65 ((f_X12_goesOn s l).1 60 11).toNatClampNeg) < (0 : Int32)) → ¬ (((f_X12_goesOn s l).1 65 ((f_X12_goesOn s l).1 60 11).toNatClampNeg) ≤ (2 : Int32)) → (vp_in ((f_X12_goesOn s l).1 60 11) 403))) (hb56 : ((s 60 13) = 0) → ¬ ((f_X12_is (9 : Int32) s l) = 0) → ¬ ((1 : Int32) = 0) → (¬ (0 < ((f_X12_goesOn s l).1 60 13)) → ¬ ((f_X12_is (2 : Int32) (f_X12_goesOn s l).1 (f_X12_goesOn s l).2) = 0) → ¬ (((f_X12_goesOn s l).1 65 ((f_X12_goesOn s l).1 60 11).toNatClampNeg) < (0 : Int32)) → ¬ (((f_X12_goesOn s l).1 65 ((f_X12_goesOn s l).1 60 11).toNatClampNeg) ≤ (2 : Int32)) → ((((f_X12_wrong (5 : Int32) ((f_X12_goesOn s l).1 60 11) (f_X12_goesOn s l).1 (f_X12_goesOn s l).2).1 60 11) = (400 : Int32)) → ((((f_X12_wrong (5 : Int32) ((f_X12_goesOn s l).1 60 11) (f_X12_goesOn s l).1 (f_X12_goesOn s l).2).1 60 13) ≤ 0) → vp_in ((su (f_X12_wrong (5 : Int32) ((f_X12_goesOn s l).1 60 11) (f_X12_goesOn s l).1 (f_X12_goesOn s l).2).1 60 (upd ((f_X12_wrong (5 : Int32) ((f_X12_goesOn s l).1 60 11) (f_X12_goesOn s l).1 (f_X12_goesOn s l).2).1 60) 13 (2 : Int32))) 60 11) 403)))) (hb57 : ((s 60 13) = 0) → ¬ ((f_X12_is (9 : Int32) s l) = 0) → ¬ ((1 : Int32) = 0) → (¬ (0 < ((f_X12_goesOn s l).1 60 13)) → ((f_X12_is (2 : Int32) (f_X12_goesOn s l).1 (f_X12_goesOn s l).2) = 0) → ((((f_X12_goesOn s l).1 60 13) ≤ 0) → vp_in ((su (f_X12_goesOn s l).1 60 (upd ((f_X12_goesOn s l).1 60) 13 (1 : Int32))) 60 11) 403))) : ab_C G (d + 3) 0 0 M_X12_toldStep 0 (ab_ent [.ref 60]) [] (hp D s l) (rt (some (.int (f_X12_toldStep  s l).1)) (hp D (f_X12_toldStep  s l).2.1 (f_X12_toldStep  s l).2.2)) := by
  refine r_weak (L1 := [some (.ref 60), none, none]) ⟨rfl, trivial⟩ ?_
  refine r_aload_n rfl rfl ?_
  refine q_getfield rfl (cc_60 _) rfl ?_
  refine r_if_ne rfl (fun c_4 => ?_) (fun c_4 => ?_)
  · refine r_iconst_ (a := 0) rfl (by decide) ?_
    refine r_istore_n rfl (Nat.le_of_ble_eq_true rfl) rfl ?_
    refine r_iload_n rfl rfl ?_
    refine r_if_eq rfl (fun c_23 => ?_) (fun c_23 => ?_)
    · refine r_aload_n rfl rfl ?_
      refine r_iconst_ (a := 0) rfl (by decide) ?_
      refine r_iconst_ (a := 2) rfl (by decide) ?_
      refine q_callV0 [_, _] _ rfl kY_X12_bounded kT_X12_bounded rfl rfl (Nat.le_of_ble_eq_true rfl) (Nat.le_of_ble_eq_true rfl) (cc_60 _) (s_X12_bounded  (hb0 c_4 c_23) (hb1 c_4 c_23) (hb2 c_4 c_23) (hb3 c_4 c_23) (hb4 c_4 c_23) (hb5 c_4 c_23) (hb6 c_4 c_23) (hb7 c_4 c_23) (hb8 c_4 c_23)) (fun r h q => ?_)
      obtain ⟨rfl, rfl⟩ := q
      simp only [Option.toList, List.cons_append, List.nil_append]
      refine r_istore_n rfl (Nat.le_of_ble_eq_true rfl) rfl ?_
      refine r_iload_n rfl rfl ?_
      refine r_if_eq rfl (fun c_38 => ?_) (fun c_38 => ?_)
      · refine r_iload_n rfl rfl ?_
        refine r_iret rfl rfl rfl ?_
        exact ⟨by (unfold f_X12_toldStep; (try dsimp only); rw [if_neg c_4, if_pos c_23, if_pos c_38]), by (unfold f_X12_toldStep; (try dsimp only); rw [if_neg c_4, if_pos c_23, if_pos c_38])⟩
      · refine r_iload_n rfl rfl ?_
        refine r_ineg rfl ?_
        refine r_goto rfl ?_
        refine r_iret rfl rfl rfl ?_
        exact ⟨by (unfold f_X12_toldStep; (try dsimp only); rw [if_neg c_4, if_pos c_23, if_neg c_38]), by (unfold f_X12_toldStep; (try dsimp only); rw [if_neg c_4, if_pos c_23, if_neg c_38])⟩
    · refine r_aload_n rfl rfl ?_
      refine q_callV0 [] _ rfl kY_X12_goesOn kT_X12_goesOn rfl rfl (Nat.le_of_ble_eq_true rfl) (Nat.le_of_ble_eq_true rfl) (cc_60 _) (s_X12_goesOn  (hb9 c_4 c_23)) (fun r h q => ?_)
      obtain ⟨rfl, rfl⟩ := q
      simp only [Option.toList, List.cons_append, List.nil_append]
      refine r_aload_n rfl rfl ?_
      refine r_iconst_ (a := 0) rfl (by decide) ?_
      refine r_iconst_ (a := 2) rfl (by decide) ?_
      refine q_callV0 [_, _] _ rfl kY_X12_bounded kT_X12_bounded rfl rfl (Nat.le_of_ble_eq_true rfl) (Nat.le_of_ble_eq_true rfl) (cc_60 _) (s_X12_bounded  (hb10 c_4 c_23) (hb11 c_4 c_23) (hb12 c_4 c_23) (hb13 c_4 c_23) (hb14 c_4 c_23) (hb15 c_4 c_23) (hb16 c_4 c_23) (hb17 c_4 c_23) (hb18 c_4 c_23)) (fun r h q => ?_)
      obtain ⟨rfl, rfl⟩ := q
      simp only [Option.toList, List.cons_append, List.nil_append]
      refine r_istore_n rfl (Nat.le_of_ble_eq_true rfl) rfl ?_
      refine r_iload_n rfl rfl ?_
      refine r_if_eq rfl (fun c_38 => ?_) (fun c_38 => ?_)
      · refine r_iload_n rfl rfl ?_
        refine r_iret rfl rfl rfl ?_
        exact ⟨by (unfold f_X12_toldStep; (try dsimp only); rw [if_neg c_4, if_neg c_23, if_pos c_38]), by (unfold f_X12_toldStep; (try dsimp only); rw [if_neg c_4, if_neg c_23, if_pos c_38])⟩
      · refine r_iload_n rfl rfl ?_
        refine r_ineg rfl ?_
        refine r_goto rfl ?_
        refine r_iret rfl rfl rfl ?_
        exact ⟨by (unfold f_X12_toldStep; (try dsimp only); rw [if_neg c_4, if_neg c_23, if_neg c_38]), by (unfold f_X12_toldStep; (try dsimp only); rw [if_neg c_4, if_neg c_23, if_neg c_38])⟩
  · refine r_aload_n rfl rfl ?_
    refine r_bipush_ (a := 9) rfl (by decide) ?_
    refine q_callV0 [_] _ rfl kY_X12_is kT_X12_is rfl rfl (Nat.le_of_ble_eq_true rfl) (Nat.le_of_ble_eq_true rfl) (cc_60 _) (s_X12_is  (hb19 c_4)) (fun r h q => ?_)
    obtain ⟨rfl, rfl⟩ := q
    simp only [Option.toList, List.cons_append, List.nil_append]
    refine r_if_eq rfl (fun c_13 => ?_) (fun c_13 => ?_)
    · refine r_iconst_ (a := 0) rfl (by decide) ?_
      refine r_istore_n rfl (Nat.le_of_ble_eq_true rfl) rfl ?_
      refine r_iload_n rfl rfl ?_
      refine r_if_eq rfl (fun c_23 => ?_) (fun c_23 => ?_)
      · refine r_aload_n rfl rfl ?_
        refine r_iconst_ (a := 0) rfl (by decide) ?_
        refine r_iconst_ (a := 2) rfl (by decide) ?_
        refine q_callV0 [_, _] _ rfl kY_X12_bounded kT_X12_bounded rfl rfl (Nat.le_of_ble_eq_true rfl) (Nat.le_of_ble_eq_true rfl) (cc_60 _) (s_X12_bounded  (hb20 c_4 c_13 c_23) (hb21 c_4 c_13 c_23) (hb22 c_4 c_13 c_23) (hb23 c_4 c_13 c_23) (hb24 c_4 c_13 c_23) (hb25 c_4 c_13 c_23) (hb26 c_4 c_13 c_23) (hb27 c_4 c_13 c_23) (hb28 c_4 c_13 c_23)) (fun r h q => ?_)
        obtain ⟨rfl, rfl⟩ := q
        simp only [Option.toList, List.cons_append, List.nil_append]
        refine r_istore_n rfl (Nat.le_of_ble_eq_true rfl) rfl ?_
        refine r_iload_n rfl rfl ?_
        refine r_if_eq rfl (fun c_38 => ?_) (fun c_38 => ?_)
        · refine r_iload_n rfl rfl ?_
          refine r_iret rfl rfl rfl ?_
          exact ⟨by (unfold f_X12_toldStep; (try dsimp only); rw [if_pos c_4, if_pos c_13, if_pos c_23, if_pos c_38]), by (unfold f_X12_toldStep; (try dsimp only); rw [if_pos c_4, if_pos c_13, if_pos c_23, if_pos c_38])⟩
        · refine r_iload_n rfl rfl ?_
          refine r_ineg rfl ?_
          refine r_goto rfl ?_
          refine r_iret rfl rfl rfl ?_
          exact ⟨by (unfold f_X12_toldStep; (try dsimp only); rw [if_pos c_4, if_pos c_13, if_pos c_23, if_neg c_38]), by (unfold f_X12_toldStep; (try dsimp only); rw [if_pos c_4, if_pos c_13, if_pos c_23, if_neg c_38])⟩
      · refine r_aload_n rfl rfl ?_
        refine q_callV0 [] _ rfl kY_X12_goesOn kT_X12_goesOn rfl rfl (Nat.le_of_ble_eq_true rfl) (Nat.le_of_ble_eq_true rfl) (cc_60 _) (s_X12_goesOn  (hb29 c_4 c_13 c_23)) (fun r h q => ?_)
        obtain ⟨rfl, rfl⟩ := q
        simp only [Option.toList, List.cons_append, List.nil_append]
        refine r_aload_n rfl rfl ?_
        refine r_iconst_ (a := 0) rfl (by decide) ?_
        refine r_iconst_ (a := 2) rfl (by decide) ?_
        refine q_callV0 [_, _] _ rfl kY_X12_bounded kT_X12_bounded rfl rfl (Nat.le_of_ble_eq_true rfl) (Nat.le_of_ble_eq_true rfl) (cc_60 _) (s_X12_bounded  (hb30 c_4 c_13 c_23) (hb31 c_4 c_13 c_23) (hb32 c_4 c_13 c_23) (hb33 c_4 c_13 c_23) (hb34 c_4 c_13 c_23) (hb35 c_4 c_13 c_23) (hb36 c_4 c_13 c_23) (hb37 c_4 c_13 c_23) (hb38 c_4 c_13 c_23)) (fun r h q => ?_)
        obtain ⟨rfl, rfl⟩ := q
        simp only [Option.toList, List.cons_append, List.nil_append]
        refine r_istore_n rfl (Nat.le_of_ble_eq_true rfl) rfl ?_
        refine r_iload_n rfl rfl ?_
        refine r_if_eq rfl (fun c_38 => ?_) (fun c_38 => ?_)
        · refine r_iload_n rfl rfl ?_
          refine r_iret rfl rfl rfl ?_
          exact ⟨by (unfold f_X12_toldStep; (try dsimp only); rw [if_pos c_4, if_pos c_13, if_neg c_23, if_pos c_38]), by (unfold f_X12_toldStep; (try dsimp only); rw [if_pos c_4, if_pos c_13, if_neg c_23, if_pos c_38])⟩
        · refine r_iload_n rfl rfl ?_
          refine r_ineg rfl ?_
          refine r_goto rfl ?_
          refine r_iret rfl rfl rfl ?_
          exact ⟨by (unfold f_X12_toldStep; (try dsimp only); rw [if_pos c_4, if_pos c_13, if_neg c_23, if_neg c_38]), by (unfold f_X12_toldStep; (try dsimp only); rw [if_pos c_4, if_pos c_13, if_neg c_23, if_neg c_38])⟩
    · refine r_iconst_ (a := 1) rfl (by decide) ?_
      refine r_goto rfl ?_
      refine r_istore_n rfl (Nat.le_of_ble_eq_true rfl) rfl ?_
      refine r_iload_n rfl rfl ?_
      refine r_if_eq rfl (fun c_23 => ?_) (fun c_23 => ?_)
      · refine r_aload_n rfl rfl ?_
        refine r_iconst_ (a := 0) rfl (by decide) ?_
        refine r_iconst_ (a := 2) rfl (by decide) ?_
        refine q_callV0 [_, _] _ rfl kY_X12_bounded kT_X12_bounded rfl rfl (Nat.le_of_ble_eq_true rfl) (Nat.le_of_ble_eq_true rfl) (cc_60 _) (s_X12_bounded  (hb39 c_4 c_13 c_23) (hb40 c_4 c_13 c_23) (hb41 c_4 c_13 c_23) (hb42 c_4 c_13 c_23) (hb43 c_4 c_13 c_23) (hb44 c_4 c_13 c_23) (hb45 c_4 c_13 c_23) (hb46 c_4 c_13 c_23) (hb47 c_4 c_13 c_23)) (fun r h q => ?_)
        obtain ⟨rfl, rfl⟩ := q
        simp only [Option.toList, List.cons_append, List.nil_append]
        refine r_istore_n rfl (Nat.le_of_ble_eq_true rfl) rfl ?_
        refine r_iload_n rfl rfl ?_
        refine r_if_eq rfl (fun c_38 => ?_) (fun c_38 => ?_)
        · refine r_iload_n rfl rfl ?_
          refine r_iret rfl rfl rfl ?_
          exact ⟨by (unfold f_X12_toldStep; (try dsimp only); rw [if_pos c_4, if_neg c_13, if_pos c_23, if_pos c_38]), by (unfold f_X12_toldStep; (try dsimp only); rw [if_pos c_4, if_neg c_13, if_pos c_23, if_pos c_38])⟩
        · refine r_iload_n rfl rfl ?_
          refine r_ineg rfl ?_
          refine r_goto rfl ?_
          refine r_iret rfl rfl rfl ?_
          exact ⟨by (unfold f_X12_toldStep; (try dsimp only); rw [if_pos c_4, if_neg c_13, if_pos c_23, if_neg c_38]), by (unfold f_X12_toldStep; (try dsimp only); rw [if_pos c_4, if_neg c_13, if_pos c_23, if_neg c_38])⟩
      · refine r_aload_n rfl rfl ?_
        refine q_callV0 [] _ rfl kY_X12_goesOn kT_X12_goesOn rfl rfl (Nat.le_of_ble_eq_true rfl) (Nat.le_of_ble_eq_true rfl) (cc_60 _) (s_X12_goesOn  (hb48 c_4 c_13 c_23)) (fun r h q => ?_)
        obtain ⟨rfl, rfl⟩ := q
        simp only [Option.toList, List.cons_append, List.nil_append]
        refine r_aload_n rfl rfl ?_
        refine r_iconst_ (a := 0) rfl (by decide) ?_
        refine r_iconst_ (a := 2) rfl (by decide) ?_
        refine q_callV0 [_, _] _ rfl kY_X12_bounded kT_X12_bounded rfl rfl (Nat.le_of_ble_eq_true rfl) (Nat.le_of_ble_eq_true rfl) (cc_60 _) (s_X12_bounded  (hb49 c_4 c_13 c_23) (hb50 c_4 c_13 c_23) (hb51 c_4 c_13 c_23) (hb52 c_4 c_13 c_23) (hb53 c_4 c_13 c_23) (hb54 c_4 c_13 c_23) (hb55 c_4 c_13 c_23) (hb56 c_4 c_13 c_23) (hb57 c_4 c_13 c_23)) (fun r h q => ?_)
        obtain ⟨rfl, rfl⟩ := q
        simp only [Option.toList, List.cons_append, List.nil_append]
        refine r_istore_n rfl (Nat.le_of_ble_eq_true rfl) rfl ?_
        refine r_iload_n rfl rfl ?_
        refine r_if_eq rfl (fun c_38 => ?_) (fun c_38 => ?_)
        · refine r_iload_n rfl rfl ?_
          refine r_iret rfl rfl rfl ?_
          exact ⟨by (unfold f_X12_toldStep; (try dsimp only); rw [if_pos c_4, if_neg c_13, if_neg c_23, if_pos c_38]), by (unfold f_X12_toldStep; (try dsimp only); rw [if_pos c_4, if_neg c_13, if_neg c_23, if_pos c_38])⟩
        · refine r_iload_n rfl rfl ?_
          refine r_ineg rfl ?_
          refine r_goto rfl ?_
          refine r_iret rfl rfl rfl ?_
          exact ⟨by (unfold f_X12_toldStep; (try dsimp only); rw [if_pos c_4, if_neg c_13, if_neg c_23, if_neg c_38]), by (unfold f_X12_toldStep; (try dsimp only); rw [if_pos c_4, if_neg c_13, if_neg c_23, if_neg c_38])⟩
