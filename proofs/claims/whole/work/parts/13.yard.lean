set_option maxRecDepth 100000 in
set_option maxHeartbeats 4000000 in
theorem s_isLying {G : ab_G} {d : Nat} {D : fl_D} {s : fl_I} {l : fl_L} {a : Nat} (hy : isY D a) {i : Int32} (hi : vp_in i 32) : ab_C G d 0 0 M_X10_isLying 0 (ab_ent [.ref a, .int i]) [] (hp D s l) (rt (some (.int (if s (a + 1) i.toNatClampNeg < 80 then 1 else 0))) (hp D s l)) := by
  refine r_aload_n rfl rfl ?_
  refine q_getfield rfl (cY_0 hy) rfl ?_
  refine r_iload_n rfl rfl ?_
  refine q_iald rfl (cY_1 hy) hi ?_
  refine r_bipush_ (a := 80) rfl (by decide) ?_
  refine r_icmp_ge rfl (fun c_8 => ?_) (fun c_8 => ?_)
  · refine r_iconst_ (a := 0) rfl (by decide) ?_
    refine r_iret rfl rfl rfl ?_
    exact ⟨by simp_all [Int32.not_lt], rfl⟩
  · refine r_iconst_ (a := 1) rfl (by decide) ?_
    refine r_goto rfl ?_
    refine r_iret rfl rfl rfl ?_
    exact ⟨by simp_all [Int32.not_lt], rfl⟩

/-- who has a PIECE that is at w: -2 if it lies -/
def y_ho (w : Int32) : Int32 := if w < 80 then -2 else w - 80

set_option maxRecDepth 100000 in
set_option maxHeartbeats 4000000 in
theorem s_holder {G : ab_G} {d : Nat} {D : fl_D} {s : fl_I} {l : fl_L} {a : Nat} (hy : isY D a) {i : Int32} (hi : vp_in i 32) : ab_C G d 0 0 M_X10_holder 0 (ab_ent [.ref a, .int i]) [] (hp D s l) (rt (some (.int (y_ho (s (a + 1) i.toNatClampNeg)))) (hp D s l)) := by
  refine r_aload_n rfl rfl ?_
  refine q_getfield rfl (cY_0 hy) rfl ?_
  refine r_iload_n rfl rfl ?_
  refine q_iald rfl (cY_1 hy) hi ?_
  refine r_bipush_ (a := 80) rfl (by decide) ?_
  refine r_icmp_ge rfl (fun c_8 => ?_) (fun c_8 => ?_)
  · refine r_aload_n rfl rfl ?_
    refine q_getfield rfl (cY_0 hy) rfl ?_
    refine r_iload_n rfl rfl ?_
    refine q_iald rfl (cY_1 hy) hi ?_
    refine r_bipush_ (a := 80) rfl (by decide) ?_
    refine r_isub rfl ?_
    refine r_iret rfl rfl rfl ?_
    refine ⟨?_, rfl⟩
    unfold y_ho
    (repeat (first | rw [if_pos (by (first | omega | (simp only [Int32.lt_iff_toInt_lt, Int32.le_iff_toInt_le, ← Int32.toInt_inj, ti_0, ti_1, ti_2, ti_3, ti_4, ti_5, ti_6, ti_7, ti_8, ti_9, ti_10, ti_11, ti_12, ti_13, ti_14, ti_15, ti_16, ti_17, ti_18, ti_19, ti_20, ti_21, ti_22, ti_23, ti_24, ti_25, ti_26, ti_27, ti_28, ti_29, ti_30, ti_31, ti_32, ti_33, ti_34, ti_35, ti_36, ti_37, ti_38, ti_39, ti_40, ti_41, ti_42, ti_43, ti_44, ti_45, ti_46, ti_47, ti_48, ti_49, ti_50, ti_51, ti_52, ti_53, ti_54, ti_55, ti_56, ti_57, ti_58, ti_59, ti_60, ti_61, ti_62, ti_63, ti_64, ti_79, ti_80, ti_90, ti_96, ti_97, ti_99, ti_100, ti_122, ti_128, ti_132, ti_136, ti_140, ti_141, ti_145, ti_255, ti_256, ti_257, ti_258, ti_259, ti_262, ti_263, ti_264, ti_265, ti_266, ti_267, ti_268, ti_276, ti_277, ti_400, ti_401, ti_408, ti_420, ti_840, ti_999, ti_1980, ti_2000, ti_9999, ti_10000, ti_10240, ti_1000000, ti_m1, ti_m2, ti_m3, ti_m4, ti_m5, ti_m6, ti_m7] at *; omega)))] | rw [if_neg (by (first | omega | (simp only [Int32.lt_iff_toInt_lt, Int32.le_iff_toInt_le, ← Int32.toInt_inj, ti_0, ti_1, ti_2, ti_3, ti_4, ti_5, ti_6, ti_7, ti_8, ti_9, ti_10, ti_11, ti_12, ti_13, ti_14, ti_15, ti_16, ti_17, ti_18, ti_19, ti_20, ti_21, ti_22, ti_23, ti_24, ti_25, ti_26, ti_27, ti_28, ti_29, ti_30, ti_31, ti_32, ti_33, ti_34, ti_35, ti_36, ti_37, ti_38, ti_39, ti_40, ti_41, ti_42, ti_43, ti_44, ti_45, ti_46, ti_47, ti_48, ti_49, ti_50, ti_51, ti_52, ti_53, ti_54, ti_55, ti_56, ti_57, ti_58, ti_59, ti_60, ti_61, ti_62, ti_63, ti_64, ti_79, ti_80, ti_90, ti_96, ti_97, ti_99, ti_100, ti_122, ti_128, ti_132, ti_136, ti_140, ti_141, ti_145, ti_255, ti_256, ti_257, ti_258, ti_259, ti_262, ti_263, ti_264, ti_265, ti_266, ti_267, ti_268, ti_276, ti_277, ti_400, ti_401, ti_408, ti_420, ti_840, ti_999, ti_1980, ti_2000, ti_9999, ti_10000, ti_10240, ti_1000000, ti_m1, ti_m2, ti_m3, ti_m4, ti_m5, ti_m6, ti_m7] at *; omega)))]))
  · refine r_bipush_ (a := -2) rfl (by decide) ?_
    refine r_goto rfl ?_
    refine r_iret rfl rfl rfl ?_
    refine ⟨?_, rfl⟩
    unfold y_ho
    (repeat (first | rw [if_pos (by (first | omega | (simp only [Int32.lt_iff_toInt_lt, Int32.le_iff_toInt_le, ← Int32.toInt_inj, ti_0, ti_1, ti_2, ti_3, ti_4, ti_5, ti_6, ti_7, ti_8, ti_9, ti_10, ti_11, ti_12, ti_13, ti_14, ti_15, ti_16, ti_17, ti_18, ti_19, ti_20, ti_21, ti_22, ti_23, ti_24, ti_25, ti_26, ti_27, ti_28, ti_29, ti_30, ti_31, ti_32, ti_33, ti_34, ti_35, ti_36, ti_37, ti_38, ti_39, ti_40, ti_41, ti_42, ti_43, ti_44, ti_45, ti_46, ti_47, ti_48, ti_49, ti_50, ti_51, ti_52, ti_53, ti_54, ti_55, ti_56, ti_57, ti_58, ti_59, ti_60, ti_61, ti_62, ti_63, ti_64, ti_79, ti_80, ti_90, ti_96, ti_97, ti_99, ti_100, ti_122, ti_128, ti_132, ti_136, ti_140, ti_141, ti_145, ti_255, ti_256, ti_257, ti_258, ti_259, ti_262, ti_263, ti_264, ti_265, ti_266, ti_267, ti_268, ti_276, ti_277, ti_400, ti_401, ti_408, ti_420, ti_840, ti_999, ti_1980, ti_2000, ti_9999, ti_10000, ti_10240, ti_1000000, ti_m1, ti_m2, ti_m3, ti_m4, ti_m5, ti_m6, ti_m7] at *; omega)))] | rw [if_neg (by (first | omega | (simp only [Int32.lt_iff_toInt_lt, Int32.le_iff_toInt_le, ← Int32.toInt_inj, ti_0, ti_1, ti_2, ti_3, ti_4, ti_5, ti_6, ti_7, ti_8, ti_9, ti_10, ti_11, ti_12, ti_13, ti_14, ti_15, ti_16, ti_17, ti_18, ti_19, ti_20, ti_21, ti_22, ti_23, ti_24, ti_25, ti_26, ti_27, ti_28, ti_29, ti_30, ti_31, ti_32, ti_33, ti_34, ti_35, ti_36, ti_37, ti_38, ti_39, ti_40, ti_41, ti_42, ti_43, ti_44, ti_45, ti_46, ti_47, ti_48, ti_49, ti_50, ti_51, ti_52, ti_53, ti_54, ti_55, ti_56, ti_57, ti_58, ti_59, ti_60, ti_61, ti_62, ti_63, ti_64, ti_79, ti_80, ti_90, ti_96, ti_97, ti_99, ti_100, ti_122, ti_128, ti_132, ti_136, ti_140, ti_141, ti_145, ti_255, ti_256, ti_257, ti_258, ti_259, ti_262, ti_263, ti_264, ti_265, ti_266, ti_267, ti_268, ti_276, ti_277, ti_400, ti_401, ti_408, ti_420, ti_840, ti_999, ti_1980, ti_2000, ti_9999, ti_10000, ti_10240, ti_1000000, ti_m1, ti_m2, ti_m3, ti_m4, ti_m5, ti_m6, ti_m7] at *; omega)))]))

theorem ab_in4 {x : Int32} (h1 : ¬ x < 0) (h2 : ¬ (4 : Int32) ≤ x) : vp_in x 4 := by
  obtain ⟨j, hj, rfl⟩ := nI_of h1
  refine vp_in_nI ?_ (by omega)
  rcases Nat.lt_or_ge j 4 with h | h
  · exact h
  · exact absurd (nI_le h hj) h2
/-- the cell at which a PIECE is -/
def y_ce (s : fl_I) (a : Nat) (w : Int32) : Int32 := if 0 ≤ y_ho w ∧ y_ho w < 4 then s (a + 3) (y_ho w).toNatClampNeg else w

set_option maxRecDepth 100000 in
set_option maxHeartbeats 4000000 in
theorem s_cellOf {G : ab_G} {d : Nat} {D : fl_D} {s : fl_I} {l : fl_L} {a : Nat} (hy : isY D a) {i : Int32} (hi : vp_in i 32) : ab_C G (d + 1) 0 0 M_X10_cellOf 0 (ab_ent [.ref a, .int i]) [] (hp D s l) (rt (some (.int (y_ce s a (s (a + 1) i.toNatClampNeg)))) (hp D s l)) := by
  refine r_weak (L1 := [some (.ref a), some (.int i), none]) ⟨rfl, rfl, trivial⟩ ?_
  refine r_aload_n rfl rfl ?_
  refine r_iload_n rfl rfl ?_
  refine q_callV0 [_] _ rfl kY_X10_holder kT_X10_holder rfl rfl (Nat.le_of_ble_eq_true rfl) (Nat.le_of_ble_eq_true rfl) (cY_0 hy) (s_holder hy hi) (fun r h q => ?_)
  obtain ⟨rfl, rfl⟩ := q
  simp only [Option.toList, List.cons_append, List.nil_append]
  refine r_istore_n rfl (Nat.le_of_ble_eq_true rfl) rfl ?_
  refine r_iload_n rfl rfl ?_
  refine r_if_lt rfl (fun c_7 => ?_) (fun c_7 => ?_)
  · refine r_aload_n rfl rfl ?_
    refine q_getfield rfl (cY_0 hy) rfl ?_
    refine r_iload_n rfl rfl ?_
    refine q_iald rfl (cY_1 hy) hi ?_
    refine r_iret rfl rfl rfl ?_
    refine ⟨?_, rfl⟩
    unfold y_ce
    (repeat (first | rw [if_pos (by (first | omega | (simp only [Int32.lt_iff_toInt_lt, Int32.le_iff_toInt_le, ← Int32.toInt_inj, ti_0, ti_1, ti_2, ti_3, ti_4, ti_5, ti_6, ti_7, ti_8, ti_9, ti_10, ti_11, ti_12, ti_13, ti_14, ti_15, ti_16, ti_17, ti_18, ti_19, ti_20, ti_21, ti_22, ti_23, ti_24, ti_25, ti_26, ti_27, ti_28, ti_29, ti_30, ti_31, ti_32, ti_33, ti_34, ti_35, ti_36, ti_37, ti_38, ti_39, ti_40, ti_41, ti_42, ti_43, ti_44, ti_45, ti_46, ti_47, ti_48, ti_49, ti_50, ti_51, ti_52, ti_53, ti_54, ti_55, ti_56, ti_57, ti_58, ti_59, ti_60, ti_61, ti_62, ti_63, ti_64, ti_79, ti_80, ti_90, ti_96, ti_97, ti_99, ti_100, ti_122, ti_128, ti_132, ti_136, ti_140, ti_141, ti_145, ti_255, ti_256, ti_257, ti_258, ti_259, ti_262, ti_263, ti_264, ti_265, ti_266, ti_267, ti_268, ti_276, ti_277, ti_400, ti_401, ti_408, ti_420, ti_840, ti_999, ti_1980, ti_2000, ti_9999, ti_10000, ti_10240, ti_1000000, ti_m1, ti_m2, ti_m3, ti_m4, ti_m5, ti_m6, ti_m7] at *; omega)))] | rw [if_neg (by (first | omega | (simp only [Int32.lt_iff_toInt_lt, Int32.le_iff_toInt_le, ← Int32.toInt_inj, ti_0, ti_1, ti_2, ti_3, ti_4, ti_5, ti_6, ti_7, ti_8, ti_9, ti_10, ti_11, ti_12, ti_13, ti_14, ti_15, ti_16, ti_17, ti_18, ti_19, ti_20, ti_21, ti_22, ti_23, ti_24, ti_25, ti_26, ti_27, ti_28, ti_29, ti_30, ti_31, ti_32, ti_33, ti_34, ti_35, ti_36, ti_37, ti_38, ti_39, ti_40, ti_41, ti_42, ti_43, ti_44, ti_45, ti_46, ti_47, ti_48, ti_49, ti_50, ti_51, ti_52, ti_53, ti_54, ti_55, ti_56, ti_57, ti_58, ti_59, ti_60, ti_61, ti_62, ti_63, ti_64, ti_79, ti_80, ti_90, ti_96, ti_97, ti_99, ti_100, ti_122, ti_128, ti_132, ti_136, ti_140, ti_141, ti_145, ti_255, ti_256, ti_257, ti_258, ti_259, ti_262, ti_263, ti_264, ti_265, ti_266, ti_267, ti_268, ti_276, ti_277, ti_400, ti_401, ti_408, ti_420, ti_840, ti_999, ti_1980, ti_2000, ti_9999, ti_10000, ti_10240, ti_1000000, ti_m1, ti_m2, ti_m3, ti_m4, ti_m5, ti_m6, ti_m7] at *; omega)))]))
  · refine r_iload_n rfl rfl ?_
    refine r_iconst_ (a := 4) rfl (by decide) ?_
    refine r_icmp_ge rfl (fun c_12 => ?_) (fun c_12 => ?_)
    · refine r_aload_n rfl rfl ?_
      refine q_getfield rfl (cY_0 hy) rfl ?_
      refine r_iload_n rfl rfl ?_
      refine q_iald rfl (cY_1 hy) hi ?_
      refine r_iret rfl rfl rfl ?_
      refine ⟨?_, rfl⟩
      unfold y_ce
      (repeat (first | rw [if_pos (by (first | omega | (simp only [Int32.lt_iff_toInt_lt, Int32.le_iff_toInt_le, ← Int32.toInt_inj, ti_0, ti_1, ti_2, ti_3, ti_4, ti_5, ti_6, ti_7, ti_8, ti_9, ti_10, ti_11, ti_12, ti_13, ti_14, ti_15, ti_16, ti_17, ti_18, ti_19, ti_20, ti_21, ti_22, ti_23, ti_24, ti_25, ti_26, ti_27, ti_28, ti_29, ti_30, ti_31, ti_32, ti_33, ti_34, ti_35, ti_36, ti_37, ti_38, ti_39, ti_40, ti_41, ti_42, ti_43, ti_44, ti_45, ti_46, ti_47, ti_48, ti_49, ti_50, ti_51, ti_52, ti_53, ti_54, ti_55, ti_56, ti_57, ti_58, ti_59, ti_60, ti_61, ti_62, ti_63, ti_64, ti_79, ti_80, ti_90, ti_96, ti_97, ti_99, ti_100, ti_122, ti_128, ti_132, ti_136, ti_140, ti_141, ti_145, ti_255, ti_256, ti_257, ti_258, ti_259, ti_262, ti_263, ti_264, ti_265, ti_266, ti_267, ti_268, ti_276, ti_277, ti_400, ti_401, ti_408, ti_420, ti_840, ti_999, ti_1980, ti_2000, ti_9999, ti_10000, ti_10240, ti_1000000, ti_m1, ti_m2, ti_m3, ti_m4, ti_m5, ti_m6, ti_m7] at *; omega)))] | rw [if_neg (by (first | omega | (simp only [Int32.lt_iff_toInt_lt, Int32.le_iff_toInt_le, ← Int32.toInt_inj, ti_0, ti_1, ti_2, ti_3, ti_4, ti_5, ti_6, ti_7, ti_8, ti_9, ti_10, ti_11, ti_12, ti_13, ti_14, ti_15, ti_16, ti_17, ti_18, ti_19, ti_20, ti_21, ti_22, ti_23, ti_24, ti_25, ti_26, ti_27, ti_28, ti_29, ti_30, ti_31, ti_32, ti_33, ti_34, ti_35, ti_36, ti_37, ti_38, ti_39, ti_40, ti_41, ti_42, ti_43, ti_44, ti_45, ti_46, ti_47, ti_48, ti_49, ti_50, ti_51, ti_52, ti_53, ti_54, ti_55, ti_56, ti_57, ti_58, ti_59, ti_60, ti_61, ti_62, ti_63, ti_64, ti_79, ti_80, ti_90, ti_96, ti_97, ti_99, ti_100, ti_122, ti_128, ti_132, ti_136, ti_140, ti_141, ti_145, ti_255, ti_256, ti_257, ti_258, ti_259, ti_262, ti_263, ti_264, ti_265, ti_266, ti_267, ti_268, ti_276, ti_277, ti_400, ti_401, ti_408, ti_420, ti_840, ti_999, ti_1980, ti_2000, ti_9999, ti_10000, ti_10240, ti_1000000, ti_m1, ti_m2, ti_m3, ti_m4, ti_m5, ti_m6, ti_m7] at *; omega)))]))
    · refine r_aload_n rfl rfl ?_
      refine q_getfield rfl (cY_0 hy) rfl ?_
      refine r_iload_n rfl rfl ?_
      refine q_iald rfl (cY_3 hy) (ab_in4 c_7 c_12) ?_
      refine r_goto rfl ?_
      refine r_iret rfl rfl rfl ?_
      refine ⟨?_, rfl⟩
      unfold y_ce
      (repeat (first | rw [if_pos (by (first | omega | (simp only [Int32.lt_iff_toInt_lt, Int32.le_iff_toInt_le, ← Int32.toInt_inj, ti_0, ti_1, ti_2, ti_3, ti_4, ti_5, ti_6, ti_7, ti_8, ti_9, ti_10, ti_11, ti_12, ti_13, ti_14, ti_15, ti_16, ti_17, ti_18, ti_19, ti_20, ti_21, ti_22, ti_23, ti_24, ti_25, ti_26, ti_27, ti_28, ti_29, ti_30, ti_31, ti_32, ti_33, ti_34, ti_35, ti_36, ti_37, ti_38, ti_39, ti_40, ti_41, ti_42, ti_43, ti_44, ti_45, ti_46, ti_47, ti_48, ti_49, ti_50, ti_51, ti_52, ti_53, ti_54, ti_55, ti_56, ti_57, ti_58, ti_59, ti_60, ti_61, ti_62, ti_63, ti_64, ti_79, ti_80, ti_90, ti_96, ti_97, ti_99, ti_100, ti_122, ti_128, ti_132, ti_136, ti_140, ti_141, ti_145, ti_255, ti_256, ti_257, ti_258, ti_259, ti_262, ti_263, ti_264, ti_265, ti_266, ti_267, ti_268, ti_276, ti_277, ti_400, ti_401, ti_408, ti_420, ti_840, ti_999, ti_1980, ti_2000, ti_9999, ti_10000, ti_10240, ti_1000000, ti_m1, ti_m2, ti_m3, ti_m4, ti_m5, ti_m6, ti_m7] at *; omega)))] | rw [if_neg (by (first | omega | (simp only [Int32.lt_iff_toInt_lt, Int32.le_iff_toInt_le, ← Int32.toInt_inj, ti_0, ti_1, ti_2, ti_3, ti_4, ti_5, ti_6, ti_7, ti_8, ti_9, ti_10, ti_11, ti_12, ti_13, ti_14, ti_15, ti_16, ti_17, ti_18, ti_19, ti_20, ti_21, ti_22, ti_23, ti_24, ti_25, ti_26, ti_27, ti_28, ti_29, ti_30, ti_31, ti_32, ti_33, ti_34, ti_35, ti_36, ti_37, ti_38, ti_39, ti_40, ti_41, ti_42, ti_43, ti_44, ti_45, ti_46, ti_47, ti_48, ti_49, ti_50, ti_51, ti_52, ti_53, ti_54, ti_55, ti_56, ti_57, ti_58, ti_59, ti_60, ti_61, ti_62, ti_63, ti_64, ti_79, ti_80, ti_90, ti_96, ti_97, ti_99, ti_100, ti_122, ti_128, ti_132, ti_136, ti_140, ti_141, ti_145, ti_255, ti_256, ti_257, ti_258, ti_259, ti_262, ti_263, ti_264, ti_265, ti_266, ti_267, ti_268, ti_276, ti_277, ti_400, ti_401, ti_408, ti_420, ti_840, ti_999, ti_1980, ti_2000, ti_9999, ti_10000, ti_10240, ti_1000000, ti_m1, ti_m2, ti_m3, ti_m4, ti_m5, ti_m6, ti_m7] at *; omega)))]))

/-- a PIECE comes into a HAT -/
def y_pi (s : fl_I) (a : Nat) (i j : Int32) : fl_I :=
  let s1 := su s (a + 1) (upd (s (a + 1)) i.toNatClampNeg (80 + j))
  let s2 := su s1 (a + 2) (upd (s1 (a + 2)) i.toNatClampNeg 0)
  su s2 (a + 5) (upd (s2 (a + 5)) j.toNatClampNeg (s2 (a + 5) j.toNatClampNeg + 1))

set_option maxRecDepth 100000 in
set_option maxHeartbeats 4000000 in
theorem s_putInHat {G : ab_G} {d : Nat} {D : fl_D} {s : fl_I} {l : fl_L} {a : Nat} (hy : isY D a) {i j : Int32} (hi : vp_in i 32) (hj : vp_in j 4) : ab_C G d 0 0 M_X10_putInHat 0 (ab_ent [.ref a, .int i, .int j]) [] (hp D s l) (rt (none) (hp D (y_pi s a i j) l)) := by
  refine r_aload_n rfl rfl ?_
  refine q_getfield rfl (cY_0 hy) rfl ?_
  refine r_iload_n rfl rfl ?_
  refine r_bipush_ (a := 80) rfl (by decide) ?_
  refine r_iload_n rfl rfl ?_
  refine r_iadd rfl ?_
  refine w_iast rfl (cY_1 hy) hi ?_
  refine r_aload_n rfl rfl ?_
  refine q_getfield rfl (cY_0 hy) rfl ?_
  refine r_iload_n rfl rfl ?_
  refine r_iconst_ (a := 0) rfl (by decide) ?_
  refine w_iast rfl (cY_2 hy) hi ?_
  refine r_aload_n rfl rfl ?_
  refine q_getfield rfl (cY_0 hy) rfl ?_
  refine r_iload_n rfl rfl ?_
  refine r_dup2 rfl rfl rfl ?_
  refine q_iald rfl (cY_5 hy) hj ?_
  refine r_iconst_ (a := 1) rfl (by decide) ?_
  refine r_iadd rfl ?_
  refine w_iast rfl (cY_5 hy) hj ?_
  refine r_ret rfl rfl ?_
  exact ⟨rfl, rfl⟩

/-- a PIECE is laid down where its PICKER is -/
def y_ld (s : fl_I) (a : Nat) (i : Int32) : fl_I :=
  let j := y_ho (s (a + 1) i.toNatClampNeg)
  if 0 ≤ j ∧ j < 4 then
    let s1 := su s (a + 5) (upd (s (a + 5)) j.toNatClampNeg (s (a + 5) j.toNatClampNeg - 1))
    let s2 := su s1 (a + 1) (upd (s1 (a + 1)) i.toNatClampNeg (s1 (a + 3) j.toNatClampNeg))
    su s2 (a + 2) (upd (s2 (a + 2)) i.toNatClampNeg 0)
  else s

set_option maxRecDepth 100000 in
set_option maxHeartbeats 4000000 in
theorem s_layDown {G : ab_G} {d : Nat} {D : fl_D} {s : fl_I} {l : fl_L} {a : Nat} (hy : isY D a) {i : Int32} (hi : vp_in i 32) : ab_C G (d + 1) 0 0 M_X10_layDown 0 (ab_ent [.ref a, .int i]) [] (hp D s l) (rt (none) (hp D (y_ld s a i) l)) := by
  refine r_weak (L1 := [some (.ref a), some (.int i), none]) ⟨rfl, rfl, trivial⟩ ?_
  refine r_aload_n rfl rfl ?_
  refine r_iload_n rfl rfl ?_
  refine q_callV0 [_] _ rfl kY_X10_holder kT_X10_holder rfl rfl (Nat.le_of_ble_eq_true rfl) (Nat.le_of_ble_eq_true rfl) (cY_0 hy) (s_holder hy hi) (fun r h q => ?_)
  obtain ⟨rfl, rfl⟩ := q
  simp only [Option.toList, List.cons_append, List.nil_append]
  refine r_istore_n rfl (Nat.le_of_ble_eq_true rfl) rfl ?_
  refine r_iload_n rfl rfl ?_
  refine r_if_lt rfl (fun c_7 => ?_) (fun c_7 => ?_)
  · refine r_ret rfl rfl ?_
    refine ⟨rfl, ?_⟩
    unfold y_ld
    dsimp only
    (repeat (first | rw [if_pos (by (first | omega | (simp only [Int32.lt_iff_toInt_lt, Int32.le_iff_toInt_le, ← Int32.toInt_inj, ti_0, ti_1, ti_2, ti_3, ti_4, ti_5, ti_6, ti_7, ti_8, ti_9, ti_10, ti_11, ti_12, ti_13, ti_14, ti_15, ti_16, ti_17, ti_18, ti_19, ti_20, ti_21, ti_22, ti_23, ti_24, ti_25, ti_26, ti_27, ti_28, ti_29, ti_30, ti_31, ti_32, ti_33, ti_34, ti_35, ti_36, ti_37, ti_38, ti_39, ti_40, ti_41, ti_42, ti_43, ti_44, ti_45, ti_46, ti_47, ti_48, ti_49, ti_50, ti_51, ti_52, ti_53, ti_54, ti_55, ti_56, ti_57, ti_58, ti_59, ti_60, ti_61, ti_62, ti_63, ti_64, ti_79, ti_80, ti_90, ti_96, ti_97, ti_99, ti_100, ti_122, ti_128, ti_132, ti_136, ti_140, ti_141, ti_145, ti_255, ti_256, ti_257, ti_258, ti_259, ti_262, ti_263, ti_264, ti_265, ti_266, ti_267, ti_268, ti_276, ti_277, ti_400, ti_401, ti_408, ti_420, ti_840, ti_999, ti_1980, ti_2000, ti_9999, ti_10000, ti_10240, ti_1000000, ti_m1, ti_m2, ti_m3, ti_m4, ti_m5, ti_m6, ti_m7] at *; omega)))] | rw [if_neg (by (first | omega | (simp only [Int32.lt_iff_toInt_lt, Int32.le_iff_toInt_le, ← Int32.toInt_inj, ti_0, ti_1, ti_2, ti_3, ti_4, ti_5, ti_6, ti_7, ti_8, ti_9, ti_10, ti_11, ti_12, ti_13, ti_14, ti_15, ti_16, ti_17, ti_18, ti_19, ti_20, ti_21, ti_22, ti_23, ti_24, ti_25, ti_26, ti_27, ti_28, ti_29, ti_30, ti_31, ti_32, ti_33, ti_34, ti_35, ti_36, ti_37, ti_38, ti_39, ti_40, ti_41, ti_42, ti_43, ti_44, ti_45, ti_46, ti_47, ti_48, ti_49, ti_50, ti_51, ti_52, ti_53, ti_54, ti_55, ti_56, ti_57, ti_58, ti_59, ti_60, ti_61, ti_62, ti_63, ti_64, ti_79, ti_80, ti_90, ti_96, ti_97, ti_99, ti_100, ti_122, ti_128, ti_132, ti_136, ti_140, ti_141, ti_145, ti_255, ti_256, ti_257, ti_258, ti_259, ti_262, ti_263, ti_264, ti_265, ti_266, ti_267, ti_268, ti_276, ti_277, ti_400, ti_401, ti_408, ti_420, ti_840, ti_999, ti_1980, ti_2000, ti_9999, ti_10000, ti_10240, ti_1000000, ti_m1, ti_m2, ti_m3, ti_m4, ti_m5, ti_m6, ti_m7] at *; omega)))]))
  · refine r_iload_n rfl rfl ?_
    refine r_iconst_ (a := 4) rfl (by decide) ?_
    refine r_icmp_ge rfl (fun c_12 => ?_) (fun c_12 => ?_)
    · refine r_ret rfl rfl ?_
      refine ⟨rfl, ?_⟩
      unfold y_ld
      dsimp only
      (repeat (first | rw [if_pos (by (first | omega | (simp only [Int32.lt_iff_toInt_lt, Int32.le_iff_toInt_le, ← Int32.toInt_inj, ti_0, ti_1, ti_2, ti_3, ti_4, ti_5, ti_6, ti_7, ti_8, ti_9, ti_10, ti_11, ti_12, ti_13, ti_14, ti_15, ti_16, ti_17, ti_18, ti_19, ti_20, ti_21, ti_22, ti_23, ti_24, ti_25, ti_26, ti_27, ti_28, ti_29, ti_30, ti_31, ti_32, ti_33, ti_34, ti_35, ti_36, ti_37, ti_38, ti_39, ti_40, ti_41, ti_42, ti_43, ti_44, ti_45, ti_46, ti_47, ti_48, ti_49, ti_50, ti_51, ti_52, ti_53, ti_54, ti_55, ti_56, ti_57, ti_58, ti_59, ti_60, ti_61, ti_62, ti_63, ti_64, ti_79, ti_80, ti_90, ti_96, ti_97, ti_99, ti_100, ti_122, ti_128, ti_132, ti_136, ti_140, ti_141, ti_145, ti_255, ti_256, ti_257, ti_258, ti_259, ti_262, ti_263, ti_264, ti_265, ti_266, ti_267, ti_268, ti_276, ti_277, ti_400, ti_401, ti_408, ti_420, ti_840, ti_999, ti_1980, ti_2000, ti_9999, ti_10000, ti_10240, ti_1000000, ti_m1, ti_m2, ti_m3, ti_m4, ti_m5, ti_m6, ti_m7] at *; omega)))] | rw [if_neg (by (first | omega | (simp only [Int32.lt_iff_toInt_lt, Int32.le_iff_toInt_le, ← Int32.toInt_inj, ti_0, ti_1, ti_2, ti_3, ti_4, ti_5, ti_6, ti_7, ti_8, ti_9, ti_10, ti_11, ti_12, ti_13, ti_14, ti_15, ti_16, ti_17, ti_18, ti_19, ti_20, ti_21, ti_22, ti_23, ti_24, ti_25, ti_26, ti_27, ti_28, ti_29, ti_30, ti_31, ti_32, ti_33, ti_34, ti_35, ti_36, ti_37, ti_38, ti_39, ti_40, ti_41, ti_42, ti_43, ti_44, ti_45, ti_46, ti_47, ti_48, ti_49, ti_50, ti_51, ti_52, ti_53, ti_54, ti_55, ti_56, ti_57, ti_58, ti_59, ti_60, ti_61, ti_62, ti_63, ti_64, ti_79, ti_80, ti_90, ti_96, ti_97, ti_99, ti_100, ti_122, ti_128, ti_132, ti_136, ti_140, ti_141, ti_145, ti_255, ti_256, ti_257, ti_258, ti_259, ti_262, ti_263, ti_264, ti_265, ti_266, ti_267, ti_268, ti_276, ti_277, ti_400, ti_401, ti_408, ti_420, ti_840, ti_999, ti_1980, ti_2000, ti_9999, ti_10000, ti_10240, ti_1000000, ti_m1, ti_m2, ti_m3, ti_m4, ti_m5, ti_m6, ti_m7] at *; omega)))]))
    · refine r_aload_n rfl rfl ?_
      refine q_getfield rfl (cY_0 hy) rfl ?_
      refine r_iload_n rfl rfl ?_
      refine r_dup2 rfl rfl rfl ?_
      refine q_iald rfl (cY_5 hy) (ab_in4 c_7 c_12) ?_
      refine r_iconst_ (a := 1) rfl (by decide) ?_
      refine r_isub rfl ?_
      refine w_iast rfl (cY_5 hy) (ab_in4 c_7 c_12) ?_
      refine r_aload_n rfl rfl ?_
      refine q_getfield rfl (cY_0 hy) rfl ?_
      refine r_iload_n rfl rfl ?_
      refine r_aload_n rfl rfl ?_
      refine q_getfield rfl (cY_0 hy) rfl ?_
      refine r_iload_n rfl rfl ?_
      refine q_iald rfl (cY_3 hy) (ab_in4 c_7 c_12) ?_
      refine w_iast rfl (cY_1 hy) hi ?_
      refine r_aload_n rfl rfl ?_
      refine q_getfield rfl (cY_0 hy) rfl ?_
      refine r_iload_n rfl rfl ?_
      refine r_iconst_ (a := 0) rfl (by decide) ?_
      refine w_iast rfl (cY_2 hy) hi ?_
      refine r_ret rfl rfl ?_
      refine ⟨rfl, ?_⟩
      unfold y_ld
      dsimp only
      (repeat (first | rw [if_pos (by (first | omega | (simp only [Int32.lt_iff_toInt_lt, Int32.le_iff_toInt_le, ← Int32.toInt_inj, ti_0, ti_1, ti_2, ti_3, ti_4, ti_5, ti_6, ti_7, ti_8, ti_9, ti_10, ti_11, ti_12, ti_13, ti_14, ti_15, ti_16, ti_17, ti_18, ti_19, ti_20, ti_21, ti_22, ti_23, ti_24, ti_25, ti_26, ti_27, ti_28, ti_29, ti_30, ti_31, ti_32, ti_33, ti_34, ti_35, ti_36, ti_37, ti_38, ti_39, ti_40, ti_41, ti_42, ti_43, ti_44, ti_45, ti_46, ti_47, ti_48, ti_49, ti_50, ti_51, ti_52, ti_53, ti_54, ti_55, ti_56, ti_57, ti_58, ti_59, ti_60, ti_61, ti_62, ti_63, ti_64, ti_79, ti_80, ti_90, ti_96, ti_97, ti_99, ti_100, ti_122, ti_128, ti_132, ti_136, ti_140, ti_141, ti_145, ti_255, ti_256, ti_257, ti_258, ti_259, ti_262, ti_263, ti_264, ti_265, ti_266, ti_267, ti_268, ti_276, ti_277, ti_400, ti_401, ti_408, ti_420, ti_840, ti_999, ti_1980, ti_2000, ti_9999, ti_10000, ti_10240, ti_1000000, ti_m1, ti_m2, ti_m3, ti_m4, ti_m5, ti_m6, ti_m7] at *; omega)))] | rw [if_neg (by (first | omega | (simp only [Int32.lt_iff_toInt_lt, Int32.le_iff_toInt_le, ← Int32.toInt_inj, ti_0, ti_1, ti_2, ti_3, ti_4, ti_5, ti_6, ti_7, ti_8, ti_9, ti_10, ti_11, ti_12, ti_13, ti_14, ti_15, ti_16, ti_17, ti_18, ti_19, ti_20, ti_21, ti_22, ti_23, ti_24, ti_25, ti_26, ti_27, ti_28, ti_29, ti_30, ti_31, ti_32, ti_33, ti_34, ti_35, ti_36, ti_37, ti_38, ti_39, ti_40, ti_41, ti_42, ti_43, ti_44, ti_45, ti_46, ti_47, ti_48, ti_49, ti_50, ti_51, ti_52, ti_53, ti_54, ti_55, ti_56, ti_57, ti_58, ti_59, ti_60, ti_61, ti_62, ti_63, ti_64, ti_79, ti_80, ti_90, ti_96, ti_97, ti_99, ti_100, ti_122, ti_128, ti_132, ti_136, ti_140, ti_141, ti_145, ti_255, ti_256, ti_257, ti_258, ti_259, ti_262, ti_263, ti_264, ti_265, ti_266, ti_267, ti_268, ti_276, ti_277, ti_400, ti_401, ti_408, ti_420, ti_840, ti_999, ti_1980, ti_2000, ti_9999, ti_10000, ti_10240, ti_1000000, ti_m1, ti_m2, ti_m3, ti_m4, ti_m5, ti_m6, ti_m7] at *; omega)))]))

/-- how many lie: all but those in HATS -/
def y_cl (s : fl_I) (a : Nat) : Nat → Int32
  | 0 => s a 1
  | n + 1 => y_cl s a n - s (a + 5) n

set_option maxRecDepth 100000 in
set_option maxHeartbeats 4000000 in
theorem lp_countLying {G : ab_G} {d : Nat} {D : fl_D} {s : fl_I} {l : fl_L} {a : Nat} (hy : isY D a) {m : Nat} (hm : s a 2 = nI m) (hm4 : m ≤ 4) : ∀ (k n : Nat), n ≤ m → m < n + k → ab_C G d 0 0 M_X10_countLying 7 [some (.ref a), some (.int (y_cl s a n)), some (.int (nI n))] [] (hp D s l) (rt (some (.int (y_cl s a m))) (hp D s l)) := by
  intro k
  induction k with
  | zero => intro n h1 h2; omega
  | succ k ih =>
    intro n h1 h2
    refine r_iload_n rfl rfl ?_
    refine r_aload_n rfl rfl ?_
    refine q_getfield rfl (cY_0 hy) rfl ?_
    rw [hm]
    refine r_icmp_ge rfl (fun c_12 => ?_) (fun c_12 => ?_)
    · refine r_iload_n rfl rfl ?_
      refine r_iret rfl rfl rfl ?_
      have e2 : n = m := by have := nI_le_of c_12; omega
      subst e2
      exact ⟨rfl, rfl⟩
    · refine r_iload_n rfl rfl ?_
      refine r_aload_n rfl rfl ?_
      refine q_getfield rfl (cY_0 hy) rfl ?_
      refine r_iload_n rfl rfl ?_
      refine q_iald rfl (cY_5 hy) (vp_in_nI (Nat.lt_of_lt_of_le (nI_lt_of c_12) hm4) (by omega)) ?_
      refine r_isub rfl ?_
      refine r_istore_n rfl (Nat.le_of_ble_eq_true rfl) rfl ?_
      refine r_iinc rfl rfl (nI_1 n) (Nat.le_of_ble_eq_true rfl) rfl ?_
      refine r_goto rfl ?_
      have hlt : n < m := nI_lt_of c_12
      exact r_weak (L1 := [some (.ref a), some (.int (y_cl s a (n + 1))), some (.int (nI (n + 1)))]) ⟨rfl, by rw [y_cl]; simp [ab_s1, ab_kill, Value.category, nI_clamp (show n < 2 ^ 31 by omega)], rfl, trivial⟩ (ih (n + 1) (by omega) (by omega))

set_option maxRecDepth 100000 in
set_option maxHeartbeats 4000000 in
theorem s_countLying {G : ab_G} {d : Nat} {D : fl_D} {s : fl_I} {l : fl_L} {a : Nat} (hy : isY D a) {m : Nat} (hm : s a 2 = nI m) (hm4 : m ≤ 4) : ab_C G d 0 0 M_X10_countLying 0 (ab_ent [.ref a]) [] (hp D s l) (rt (some (.int (y_cl s a m))) (hp D s l)) := by
  refine r_weak (L1 := [some (.ref a), none, none]) ⟨rfl, trivial⟩ ?_
  refine r_aload_n rfl rfl ?_
  refine q_getfield rfl (cY_0 hy) rfl ?_
  refine r_istore_n rfl (Nat.le_of_ble_eq_true rfl) rfl ?_
  refine r_iconst_ (a := 0) rfl (by decide) ?_
  refine r_istore_n rfl (Nat.le_of_ble_eq_true rfl) rfl ?_
  refine r_weak ?_ (lp_countLying hy hm hm4 (m + 1) 0 (by omega) (by omega))
  exact ⟨rfl, rfl, rfl, trivial⟩

/-- how many of the first n lie at a cell -/
def y_ca (s : fl_I) (a : Nat) (c : Int32) : Nat → Int32
  | 0 => 0
  | n + 1 => if s (a + 1) n = c then y_ca s a c n + 1 else y_ca s a c n

set_option maxRecDepth 100000 in
set_option maxHeartbeats 4000000 in
theorem lp_countAt {G : ab_G} {d : Nat} {D : fl_D} {s : fl_I} {l : fl_L} {a : Nat} (hy : isY D a) {p : Nat} (hp1 : s a 1 = nI p) (hp2 : p ≤ 32) {c : Int32} : ∀ (k n : Nat), n ≤ p → p < n + k → ab_C G d 0 0 M_X10_countAt 4 [some (.ref a), some (.int c), some (.int (y_ca s a c n)), some (.int (nI n))] [] (hp D s l) (rt (some (.int (y_ca s a c p))) (hp D s l)) := by
  intro k
  induction k with
  | zero => intro n h1 h2; omega
  | succ k ih =>
    intro n h1 h2
    refine r_iload_n rfl rfl ?_
    refine r_aload_n rfl rfl ?_
    refine q_getfield rfl (cY_0 hy) rfl ?_
    rw [hp1]
    refine r_icmp_ge rfl (fun c_9 => ?_) (fun c_9 => ?_)
    · refine r_iload_n rfl rfl ?_
      refine r_iret rfl rfl rfl ?_
      have e2 : n = p := by have := nI_le_of c_9; omega
      subst e2
      exact ⟨rfl, rfl⟩
    · refine r_aload_n rfl rfl ?_
      refine q_getfield rfl (cY_0 hy) rfl ?_
      refine r_iload_n rfl rfl ?_
      refine q_iald rfl (cY_1 hy) (vp_in_nI (Nat.lt_of_lt_of_le (nI_lt_of c_9) hp2) (by omega)) ?_
      refine r_iload_n rfl rfl ?_
      rw [nI_clamp (show n < 2 ^ 31 by omega)]
      refine r_icmp_ne rfl (fun c_19 => ?_) (fun c_19 => ?_)
      · refine r_iinc rfl rfl (nI_1 n) (Nat.le_of_ble_eq_true rfl) rfl ?_
        refine r_goto rfl ?_
        have hlt : n < p := nI_lt_of c_9
        exact r_weak (L1 := [some (.ref a), some (.int c), some (.int (y_ca s a c (n + 1))), some (.int (nI (n + 1)))]) ⟨rfl, rfl, by rw [y_ca]; first | (rw [if_neg c_19]; rfl) | (rw [if_pos c_19]; rfl), rfl, trivial⟩ (ih (n + 1) (by omega) (by omega))
      · refine r_iinc rfl rfl rfl (Nat.le_of_ble_eq_true rfl) rfl ?_
        refine r_iinc rfl rfl (nI_1 n) (Nat.le_of_ble_eq_true rfl) rfl ?_
        refine r_goto rfl ?_
        have hlt : n < p := nI_lt_of c_9
        exact r_weak (L1 := [some (.ref a), some (.int c), some (.int (y_ca s a c (n + 1))), some (.int (nI (n + 1)))]) ⟨rfl, rfl, by rw [y_ca]; first | (rw [if_neg c_19]; rfl) | (rw [if_pos c_19]; rfl), rfl, trivial⟩ (ih (n + 1) (by omega) (by omega))

set_option maxRecDepth 100000 in
set_option maxHeartbeats 4000000 in
theorem s_countAt {G : ab_G} {d : Nat} {D : fl_D} {s : fl_I} {l : fl_L} {a : Nat} (hy : isY D a) {p : Nat} (hp1 : s a 1 = nI p) (hp2 : p ≤ 32) {c : Int32} : ab_C G d 0 0 M_X10_countAt 0 (ab_ent [.ref a, .int c]) [] (hp D s l) (rt (some (.int (y_ca s a c p))) (hp D s l)) := by
  refine r_weak (L1 := [some (.ref a), some (.int c), none, none]) ⟨rfl, rfl, trivial⟩ ?_
  refine r_iconst_ (a := 0) rfl (by decide) ?_
  refine r_istore_n rfl (Nat.le_of_ble_eq_true rfl) rfl ?_
  refine r_iconst_ (a := 0) rfl (by decide) ?_
  refine r_istore_n rfl (Nat.le_of_ble_eq_true rfl) rfl ?_
  refine r_weak ?_ (lp_countAt hy hp1 hp2 (p + 1) 0 (by omega) (by omega))
  exact ⟨rfl, rfl, rfl, rfl, trivial⟩

/-- how many of the first n lie at each cell, over what was there -/
def y_al (s : fl_I) (a : Nat) (b : Nat → Int32) : Nat → Nat → Int32
  | 0 => b
  | n + 1 => if 0 ≤ s (a + 1) n ∧ s (a + 1) n < 80 then upd (y_al s a b n) (s (a + 1) n).toNatClampNeg (y_al s a b n (s (a + 1) n).toNatClampNeg + 1) else y_al s a b n
theorem ab_in80 {x : Int32} (h1 : ¬ x < 0) (h2 : ¬ (80 : Int32) ≤ x) : vp_in x 80 := by
  obtain ⟨j, hj, rfl⟩ := nI_of h1
  refine vp_in_nI ?_ (by omega)
  rcases Nat.lt_or_ge j 80 with h | h
  · exact h
  · exact absurd (nI_le h hj) h2
theorem ne_80_0 {D : fl_D} {a q : Nat} (hy : isY D a) (hc : ∀ f g, cl D q f g = some (.inl (0, 80, .inl f))) : a ≠ q := by
  rintro rfl
  have h1 := (hc (fun _ => 0) (fun _ => 0)).symm.trans (cY_0 hy (fun _ => 0) (fun _ => 0))
  simp at h1
theorem ne_80_1 {D : fl_D} {a q : Nat} (hy : isY D a) (hc : ∀ f g, cl D q f g = some (.inl (0, 80, .inl f))) : a + 1 ≠ q := by
  rintro rfl
  have h1 := (hc (fun _ => 0) (fun _ => 0)).symm.trans (cY_1 hy (fun _ => 0) (fun _ => 0))
  simp at h1

set_option maxRecDepth 100000 in
set_option maxHeartbeats 4000000 in
theorem lp_countAll {G : ab_G} {d : Nat} {D : fl_D} {s : fl_I} {l : fl_L} {a : Nat} (hy : isY D a) {p : Nat} (hp1 : s a 1 = nI p) (hp2 : p ≤ 32) {q : Nat} (hc : ∀ f g, cl D q f g = some (.inl (0, 80, .inl f))) {b : Nat → Int32} : ∀ (k n : Nat), n ≤ p → p < n + k → ab_C G d 0 0 M_X10_countAll 7 [some (.ref a), some (.ref q), some (.int (nI n)), none] [] (hp D (su s q (y_al s a b n)) l) (rt none (hp D (su s q (y_al s a b p)) l)) := by
  intro k
  induction k with
  | zero => intro n h1 h2; omega
  | succ k ih =>
    intro n h1 h2
    refine r_iload_n rfl rfl ?_
    refine r_aload_n rfl rfl ?_
    refine q_getfield rfl (cY_0 hy) rfl ?_
    rw [su_ne _ _ (ne_80_0 hy hc), hp1]
    refine r_icmp_ge rfl (fun c_12 => ?_) (fun c_12 => ?_)
    · refine r_ret rfl rfl ?_
      have e2 : n = p := by have := nI_le_of c_12; omega
      subst e2
      exact ⟨rfl, rfl⟩
    · refine r_aload_n rfl rfl ?_
      refine q_getfield rfl (cY_0 hy) rfl ?_
      refine r_iload_n rfl rfl ?_
      refine q_iald rfl (cY_1 hy) (vp_in_nI (Nat.lt_of_lt_of_le (nI_lt_of c_12) hp2) (by omega)) ?_
      rw [su_ne _ _ (ne_80_1 hy hc), nI_clamp (show n < 2 ^ 31 by have := nI_lt_of c_12; omega)]
      refine r_istore_n rfl (Nat.le_of_ble_eq_true rfl) rfl ?_
      refine r_iload_n rfl rfl ?_
      refine r_if_lt rfl (fun c_23 => ?_) (fun c_23 => ?_)
      · refine r_iinc rfl rfl (nI_1 n) (Nat.le_of_ble_eq_true rfl) rfl ?_
        refine r_goto rfl ?_
        have hlt : n < p := nI_lt_of c_12
        have e1 : y_al s a b (n + 1) = if 0 ≤ s (a + 1) n ∧ s (a + 1) n < 80 then upd (y_al s a b n) (s (a + 1) n).toNatClampNeg (y_al s a b n (s (a + 1) n).toNatClampNeg + 1) else y_al s a b n := rfl
        have ih1 := ih (n + 1) (by omega) (by omega)
        rw [e1] at ih1
        first | rw [if_pos (show 0 ≤ s (a + 1) n ∧ s (a + 1) n < 80 from ⟨Int32.not_lt.mp c_23, Int32.not_le.mp c_29⟩)] at ih1 | rw [if_neg (show ¬ (0 ≤ s (a + 1) n ∧ s (a + 1) n < 80) from fun h => Int32.not_lt.mpr h.1 c_23)] at ih1 | rw [if_neg (show ¬ (0 ≤ s (a + 1) n ∧ s (a + 1) n < 80) from fun h => Int32.not_lt.mpr c_29 h.2)] at ih1
        try rw [su_su, su_same]
        refine r_weak ?_ ih1
        exact ⟨rfl, rfl, rfl, trivial⟩
      · refine r_iload_n rfl rfl ?_
        refine r_bipush_ (a := 80) rfl (by decide) ?_
        refine r_icmp_ge rfl (fun c_29 => ?_) (fun c_29 => ?_)
        · refine r_iinc rfl rfl (nI_1 n) (Nat.le_of_ble_eq_true rfl) rfl ?_
          refine r_goto rfl ?_
          have hlt : n < p := nI_lt_of c_12
          have e1 : y_al s a b (n + 1) = if 0 ≤ s (a + 1) n ∧ s (a + 1) n < 80 then upd (y_al s a b n) (s (a + 1) n).toNatClampNeg (y_al s a b n (s (a + 1) n).toNatClampNeg + 1) else y_al s a b n := rfl
          have ih1 := ih (n + 1) (by omega) (by omega)
          rw [e1] at ih1
          first | rw [if_pos (show 0 ≤ s (a + 1) n ∧ s (a + 1) n < 80 from ⟨Int32.not_lt.mp c_23, Int32.not_le.mp c_29⟩)] at ih1 | rw [if_neg (show ¬ (0 ≤ s (a + 1) n ∧ s (a + 1) n < 80) from fun h => Int32.not_lt.mpr h.1 c_23)] at ih1 | rw [if_neg (show ¬ (0 ≤ s (a + 1) n ∧ s (a + 1) n < 80) from fun h => Int32.not_lt.mpr c_29 h.2)] at ih1
          try rw [su_su, su_same]
          refine r_weak ?_ ih1
          exact ⟨rfl, rfl, rfl, trivial⟩
        · refine r_iload_n rfl rfl ?_
          refine r_aload_n rfl rfl ?_
          refine q_alen (v := 80) rfl hc (Nat.le_of_ble_eq_true rfl) rfl ?_
          refine r_icmp_ge rfl (fun c_35 => ?_) (fun c_35 => ?_)
          · exact absurd c_35 c_29
          · refine r_aload_n rfl rfl ?_
            refine r_iload_n rfl rfl ?_
            refine r_dup2 rfl rfl rfl ?_
            refine q_iald rfl hc (ab_in80 c_23 c_29) ?_
            refine r_iconst_ (a := 1) rfl (by decide) ?_
            refine r_iadd rfl ?_
            refine w_iast rfl hc (ab_in80 c_23 c_29) ?_
            refine r_iinc rfl rfl (nI_1 n) (Nat.le_of_ble_eq_true rfl) rfl ?_
            refine r_goto rfl ?_
            have hlt : n < p := nI_lt_of c_12
            have e1 : y_al s a b (n + 1) = if 0 ≤ s (a + 1) n ∧ s (a + 1) n < 80 then upd (y_al s a b n) (s (a + 1) n).toNatClampNeg (y_al s a b n (s (a + 1) n).toNatClampNeg + 1) else y_al s a b n := rfl
            have ih1 := ih (n + 1) (by omega) (by omega)
            rw [e1] at ih1
            first | rw [if_pos (show 0 ≤ s (a + 1) n ∧ s (a + 1) n < 80 from ⟨Int32.not_lt.mp c_23, Int32.not_le.mp c_29⟩)] at ih1 | rw [if_neg (show ¬ (0 ≤ s (a + 1) n ∧ s (a + 1) n < 80) from fun h => Int32.not_lt.mpr h.1 c_23)] at ih1 | rw [if_neg (show ¬ (0 ≤ s (a + 1) n ∧ s (a + 1) n < 80) from fun h => Int32.not_lt.mpr c_29 h.2)] at ih1
            try rw [su_su, su_same]
            refine r_weak ?_ ih1
            exact ⟨rfl, rfl, rfl, trivial⟩

set_option maxRecDepth 100000 in
set_option maxHeartbeats 4000000 in
theorem s_countAll {G : ab_G} {d : Nat} {D : fl_D} {s : fl_I} {l : fl_L} {a : Nat} (hy : isY D a) {p : Nat} (hp1 : s a 1 = nI p) (hp2 : p ≤ 32) {q : Nat} (hc : ∀ f g, cl D q f g = some (.inl (0, 80, .inl f))) : ab_C G (d + 1) 0 0 M_X10_countAll 0 (ab_ent [.ref a, .ref q]) [] (hp D s l) (rt (none) (hp D (su s q (y_al s a (fun j => if j < 80 then 0 else s q j) p)) l)) := by
  refine r_weak (L1 := [some (.ref a), some (.ref q), none, none]) ⟨rfl, rfl, trivial⟩ ?_
  refine r_aload_n rfl rfl ?_
  refine r_iconst_ (a := 0) rfl (by decide) ?_
  refine r_callS0 [_, _] _ rfl kY_J7_fill_53178 kT_J7_fill_53178 rfl rfl (Nat.le_of_ble_eq_true rfl) (Nat.le_of_ble_eq_true rfl) (s_fill hc (by omega)) (fun r h q => ?_)
  obtain ⟨rfl, rfl⟩ := q
  simp only [Option.toList, List.cons_append, List.nil_append]
  refine r_iconst_ (a := 0) rfl (by decide) ?_
  refine r_istore_n rfl (Nat.le_of_ble_eq_true rfl) rfl ?_
  refine r_weak ?_ (lp_countAll hy hp1 hp2 hc (b := fun j => if j < 80 then 0 else s q j) (p + 1) 0 (by omega) (by omega))
  exact ⟨rfl, rfl, rfl, trivial⟩

/-- a Yard is copied from b to a -/
def y_cp (s : fl_I) (a b : Nat) : fl_I :=
  let s1 := su s a (upd (s a) 0 (s b 0))
  let s2 := su s1 a (upd (s1 a) 1 (s1 b 1))
  let s3 := su s2 a (upd (s2 a) 2 (s2 b 2))
  let s4 := su s3 (a + 1) (va_cpy (s3 (b + 1)) (s3 (a + 1)) 0 0 32)
  let s5 := su s4 (a + 2) (va_cpy (s4 (b + 2)) (s4 (a + 2)) 0 0 32)
  let s6 := su s5 (a + 3) (va_cpy (s5 (b + 3)) (s5 (a + 3)) 0 0 4)
  let s7 := su s6 (a + 4) (va_cpy (s6 (b + 4)) (s6 (a + 4)) 0 0 4)
  su s7 (a + 5) (va_cpy (s7 (b + 5)) (s7 (a + 5)) 0 0 4)
/-- a Yard begins with a text -/
def y_be (s : fl_I) (a t : Nat) : fl_I :=
  let s1 := su s a (upd (s a) 0 0)
  let s2 := su s1 a (upd (s1 a) 1 (if s1 t 3 < 32 then s1 t 3 else 32))
  let s3 := su s2 a (upd (s2 a) 2 (if s2 t 2 < 4 then s2 t 2 else 4))
  let s4 := su s3 (a + 1) (va_cpy (s3 (t + 6)) (s3 (a + 1)) 0 0 32)
  let s5 := su s4 (a + 3) (va_cpy (s4 (t + 7)) (s4 (a + 3)) 0 0 4)
  let s6 := su s5 (a + 2) (fun j => if j < 32 then 0 else s5 (a + 2) j)
  let s7 := su s6 (a + 4) (fun j => if j < 4 then -2 else s6 (a + 4) j)
  su s7 (a + 5) (fun j => if j < 4 then 0 else s7 (a + 5) j)

set_option maxRecDepth 100000 in
set_option maxHeartbeats 4000000 in
theorem s_copy {G : ab_G} {d : Nat} {D : fl_D} {s : fl_I} {l : fl_L} {a : Nat} (hy : isY D a) {b : Nat} (hb : isY D b) : ab_C G d 0 0 M_X10_copy 0 (ab_ent [.ref a, .ref b]) [] (hp D s l) (rt (none) (hp D (y_cp s a b) l)) := by
  refine r_aload_n rfl rfl ?_
  refine r_aload_n rfl rfl ?_
  refine q_getfield rfl (cY_0 hb) rfl ?_
  refine w_put rfl (cY_0 hy) ff_10_0 ft_10_0 (Nat.le_of_ble_eq_true rfl) rfl ?_
  refine r_aload_n rfl rfl ?_
  refine r_aload_n rfl rfl ?_
  refine q_getfield rfl (cY_0 hb) rfl ?_
  refine w_put rfl (cY_0 hy) ff_10_1 ft_10_1 (Nat.le_of_ble_eq_true rfl) rfl ?_
  refine r_aload_n rfl rfl ?_
  refine r_aload_n rfl rfl ?_
  refine q_getfield rfl (cY_0 hb) rfl ?_
  refine w_put rfl (cY_0 hy) ff_10_2 ft_10_2 (Nat.le_of_ble_eq_true rfl) rfl ?_
  refine r_aload_n rfl rfl ?_
  refine q_getfield rfl (cY_0 hb) rfl ?_
  refine r_iconst_ (a := 0) rfl (by decide) ?_
  refine r_aload_n rfl rfl ?_
  refine q_getfield rfl (cY_0 hy) rfl ?_
  refine r_iconst_ (a := 0) rfl (by decide) ?_
  refine r_bipush_ (a := 32) rfl (by decide) ?_
  refine w_copy rfl (cY_1 hb) (cY_1 hy) (by decide) (by decide) (by decide) (Nat.le_of_ble_eq_true rfl) (Nat.le_of_ble_eq_true rfl) (Nat.le_of_ble_eq_true rfl) ?_
  refine r_aload_n rfl rfl ?_
  refine q_getfield rfl (cY_0 hb) rfl ?_
  refine r_iconst_ (a := 0) rfl (by decide) ?_
  refine r_aload_n rfl rfl ?_
  refine q_getfield rfl (cY_0 hy) rfl ?_
  refine r_iconst_ (a := 0) rfl (by decide) ?_
  refine r_bipush_ (a := 32) rfl (by decide) ?_
  refine w_copy rfl (cY_2 hb) (cY_2 hy) (by decide) (by decide) (by decide) (Nat.le_of_ble_eq_true rfl) (Nat.le_of_ble_eq_true rfl) (Nat.le_of_ble_eq_true rfl) ?_
  refine r_aload_n rfl rfl ?_
  refine q_getfield rfl (cY_0 hb) rfl ?_
  refine r_iconst_ (a := 0) rfl (by decide) ?_
  refine r_aload_n rfl rfl ?_
  refine q_getfield rfl (cY_0 hy) rfl ?_
  refine r_iconst_ (a := 0) rfl (by decide) ?_
  refine r_iconst_ (a := 4) rfl (by decide) ?_
  refine w_copy rfl (cY_3 hb) (cY_3 hy) (by decide) (by decide) (by decide) (Nat.le_of_ble_eq_true rfl) (Nat.le_of_ble_eq_true rfl) (Nat.le_of_ble_eq_true rfl) ?_
  refine r_aload_n rfl rfl ?_
  refine q_getfield rfl (cY_0 hb) rfl ?_
  refine r_iconst_ (a := 0) rfl (by decide) ?_
  refine r_aload_n rfl rfl ?_
  refine q_getfield rfl (cY_0 hy) rfl ?_
  refine r_iconst_ (a := 0) rfl (by decide) ?_
  refine r_iconst_ (a := 4) rfl (by decide) ?_
  refine w_copy rfl (cY_4 hb) (cY_4 hy) (by decide) (by decide) (by decide) (Nat.le_of_ble_eq_true rfl) (Nat.le_of_ble_eq_true rfl) (Nat.le_of_ble_eq_true rfl) ?_
  refine r_aload_n rfl rfl ?_
  refine q_getfield rfl (cY_0 hb) rfl ?_
  refine r_iconst_ (a := 0) rfl (by decide) ?_
  refine r_aload_n rfl rfl ?_
  refine q_getfield rfl (cY_0 hy) rfl ?_
  refine r_iconst_ (a := 0) rfl (by decide) ?_
  refine r_iconst_ (a := 4) rfl (by decide) ?_
  refine w_copy rfl (cY_5 hb) (cY_5 hy) (by decide) (by decide) (by decide) (Nat.le_of_ble_eq_true rfl) (Nat.le_of_ble_eq_true rfl) (Nat.le_of_ble_eq_true rfl) ?_
  refine r_ret rfl rfl ?_
  exact ⟨rfl, rfl⟩

set_option maxRecDepth 100000 in
set_option maxHeartbeats 4000000 in
theorem s_begin {G : ab_G} {d : Nat} {D : fl_D} {s : fl_I} {l : fl_L} {a : Nat} (hy : isY D a) {t : Nat} (ht : isT t) : ab_C G (d + 1) 0 0 M_X10_begin 0 (ab_ent [.ref a, .ref t]) [] (hp D s l) (rt (none) (hp D (y_be s a t) l)) := by
  refine r_aload_n rfl rfl ?_
  refine r_iconst_ (a := 0) rfl (by decide) ?_
  refine w_put rfl (cY_0 hy) ff_10_0 ft_10_0 (Nat.le_of_ble_eq_true rfl) rfl ?_
  refine r_aload_n rfl rfl ?_
  refine r_bipush_ (a := 32) rfl (by decide) ?_
  refine r_aload_n rfl rfl ?_
  refine q_getfield rfl (cT_0 ht) rfl ?_
  refine r_mmin rfl (Nat.le_of_ble_eq_true rfl) ?_
  refine w_put rfl (cY_0 hy) ff_10_1 ft_10_1 (Nat.le_of_ble_eq_true rfl) rfl ?_
  refine r_aload_n rfl rfl ?_
  refine r_iconst_ (a := 4) rfl (by decide) ?_
  refine r_aload_n rfl rfl ?_
  refine q_getfield rfl (cT_0 ht) rfl ?_
  refine r_mmin rfl (Nat.le_of_ble_eq_true rfl) ?_
  refine w_put rfl (cY_0 hy) ff_10_2 ft_10_2 (Nat.le_of_ble_eq_true rfl) rfl ?_
  refine r_aload_n rfl rfl ?_
  refine q_getfield rfl (cT_0 ht) rfl ?_
  refine r_iconst_ (a := 0) rfl (by decide) ?_
  refine r_aload_n rfl rfl ?_
  refine q_getfield rfl (cY_0 hy) rfl ?_
  refine r_iconst_ (a := 0) rfl (by decide) ?_
  refine r_bipush_ (a := 32) rfl (by decide) ?_
  refine w_copy rfl (cT_6 ht) (cY_1 hy) (by decide) (by decide) (by decide) (Nat.le_of_ble_eq_true rfl) (Nat.le_of_ble_eq_true rfl) (Nat.le_of_ble_eq_true rfl) ?_
  refine r_aload_n rfl rfl ?_
  refine q_getfield rfl (cT_0 ht) rfl ?_
  refine r_iconst_ (a := 0) rfl (by decide) ?_
  refine r_aload_n rfl rfl ?_
  refine q_getfield rfl (cY_0 hy) rfl ?_
  refine r_iconst_ (a := 0) rfl (by decide) ?_
  refine r_iconst_ (a := 4) rfl (by decide) ?_
  refine w_copy rfl (cT_7 ht) (cY_3 hy) (by decide) (by decide) (by decide) (Nat.le_of_ble_eq_true rfl) (Nat.le_of_ble_eq_true rfl) (Nat.le_of_ble_eq_true rfl) ?_
  refine r_aload_n rfl rfl ?_
  refine q_getfield rfl (cY_0 hy) rfl ?_
  refine r_iconst_ (a := 0) rfl (by decide) ?_
  refine r_callS0 [_, _] _ rfl kY_J7_fill_53178 kT_J7_fill_53178 rfl rfl (Nat.le_of_ble_eq_true rfl) (Nat.le_of_ble_eq_true rfl) (s_fill (cY_2 hy) (by omega)) (fun r h q => ?_)
  obtain ⟨rfl, rfl⟩ := q
  simp only [Option.toList, List.cons_append, List.nil_append]
  refine r_aload_n rfl rfl ?_
  refine q_getfield rfl (cY_0 hy) rfl ?_
  refine r_bipush_ (a := -2) rfl (by decide) ?_
  refine r_callS0 [_, _] _ rfl kY_J7_fill_53178 kT_J7_fill_53178 rfl rfl (Nat.le_of_ble_eq_true rfl) (Nat.le_of_ble_eq_true rfl) (s_fill (cY_4 hy) (by omega)) (fun r h q => ?_)
  obtain ⟨rfl, rfl⟩ := q
  simp only [Option.toList, List.cons_append, List.nil_append]
  refine r_aload_n rfl rfl ?_
  refine q_getfield rfl (cY_0 hy) rfl ?_
  refine r_iconst_ (a := 0) rfl (by decide) ?_
  refine r_callS0 [_, _] _ rfl kY_J7_fill_53178 kT_J7_fill_53178 rfl rfl (Nat.le_of_ble_eq_true rfl) (Nat.le_of_ble_eq_true rfl) (s_fill (cY_5 hy) (by omega)) (fun r h q => ?_)
  obtain ⟨rfl, rfl⟩ := q
  simp only [Option.toList, List.cons_append, List.nil_append]
  refine r_ret rfl rfl ?_
  exact ⟨rfl, rfl⟩

