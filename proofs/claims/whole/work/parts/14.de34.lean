def f_X11_piece (fu : Nat) (v0 : Int32) (v1 : Int32) (D : fl_D) (s : fl_I) (l : fl_L) : Int32 × fl_I × fl_L :=
  if ((f_X11_isPiece fu v0 s l) = 0) then ((-1 : Int32), s, l) else if (v1 = 0) then ((s ((if D.2.2.1 then 20 else 9) + 4) v0.toNatClampNeg), s, l) else if (v1 = 1) then ((s ((if D.2.2.1 then 20 else 9) + 5) v0.toNatClampNeg), s, l) else if (v1 = 2) then (((f_X10_cellOf fu v0 31 s l) - (f_X10_cellOf fu v0 31 s l) / (10 : Int32) * (10 : Int32)), s, l) else if (v1 = 3) then (((f_X10_cellOf fu v0 31 s l) / (10 : Int32)), s, l) else if (v1 = 4) then ((f_X10_holder fu v0 31 s l), s, l) else if (v1 = 5) then ((s 33 v0.toNatClampNeg), s, l) else if (v1 = 6) then if ((f_X10_isLying fu v0 31 s l) = 0) then ((0 : Int32), s, l) else if ((f_X9_lawOfPiece fu (0 : Int32) v0 (if D.2.2.1 then 20 else 9) 31 s l).1 ≤ 0) then ((0 : Int32), (f_X9_lawOfPiece fu (0 : Int32) v0 (if D.2.2.1 then 20 else 9) 31 s l).2.1, (f_X9_lawOfPiece fu (0 : Int32) v0 (if D.2.2.1 then 20 else 9) 31 s l).2.2) else ((1 : Int32), (f_X9_lawOfPiece fu (0 : Int32) v0 (if D.2.2.1 then 20 else 9) 31 s l).2.1, (f_X9_lawOfPiece fu (0 : Int32) v0 (if D.2.2.1 then 20 else 9) 31 s l).2.2) else if (v1 = 7) then if ((f_X10_isLying fu v0 31 s l) = 0) then ((0 : Int32), s, l) else ((f_X11_money fu (f_X9_lawOfPiece fu (1 : Int32) v0 (if D.2.2.1 then 20 else 9) 31 s l).1), (f_X9_lawOfPiece fu (1 : Int32) v0 (if D.2.2.1 then 20 else 9) 31 s l).2.1, (f_X9_lawOfPiece fu (1 : Int32) v0 (if D.2.2.1 then 20 else 9) 31 s l).2.2) else ((-1 : Int32), s, l)

def p_X11_piece (fu : Nat) (v0 : Int32) (v1 : Int32) (D : fl_D) (s : fl_I) (l : fl_L) : Prop :=
  (p_X11_isPiece fu v0 s l) ∧ ((((f_X11_isPiece fu v0 s l) = 0) → True) ∧ (¬ ((f_X11_isPiece fu v0 s l) = 0) → (p_X10_isLying fu v0 31 s l) ∧ (p_X10_cellOf fu v0 31 s l) ∧ (((v1 = 0) → (vp_in v0 32) ∧ True) ∧ (¬ (v1 = 0) → (((v1 = 1) → (vp_in v0 32) ∧ True) ∧ (¬ (v1 = 1) → (((v1 = 2) → True) ∧ (¬ (v1 = 2) → (((v1 = 3) → True) ∧ (¬ (v1 = 3) → (((v1 = 4) → (p_X10_holder fu v0 31 s l) ∧ True) ∧ (¬ (v1 = 4) → (((v1 = 5) → (vp_in v0 32) ∧ True) ∧ (¬ (v1 = 5) → (((v1 = 6) → ((((f_X10_isLying fu v0 31 s l) = 0) → True) ∧ (¬ ((f_X10_isLying fu v0 31 s l) = 0) → (p_X9_lawOfPiece fu (0 : Int32) v0 (if D.2.2.1 then 20 else 9) 31 s l) ∧ ((((f_X9_lawOfPiece fu (0 : Int32) v0 (if D.2.2.1 then 20 else 9) 31 s l).1 ≤ 0) → True) ∧ (¬ ((f_X9_lawOfPiece fu (0 : Int32) v0 (if D.2.2.1 then 20 else 9) 31 s l).1 ≤ 0) → True))))) ∧ (¬ (v1 = 6) → (((v1 = 7) → ((((f_X10_isLying fu v0 31 s l) = 0) → True) ∧ (¬ ((f_X10_isLying fu v0 31 s l) = 0) → (p_X9_lawOfPiece fu (1 : Int32) v0 (if D.2.2.1 then 20 else 9) 31 s l) ∧ (p_X11_money fu (f_X9_lawOfPiece fu (1 : Int32) v0 (if D.2.2.1 then 20 else 9) 31 s l).1) ∧ True))) ∧ (¬ (v1 = 7) → True))))))))))))))))))

set_option maxRecDepth 100000 in
set_option maxHeartbeats 1000000 in
theorem s_X11_piece {G : ab_G} {fu : Nat} {d : Nat} {D : fl_D} {s : fl_I} {l : fl_L} {v0 : Int32} {v1 : Int32} (hk : p_X11_piece fu v0 v1 D s l) : ab_C G (d + 4) 0 0 M_X11_piece 0 (ab_ent [.ref 0, .int v0, .int v1]) [] (hp D s l) (rt (some (.int (f_X11_piece fu v0 v1 D s l).1)) (hp D (f_X11_piece fu v0 v1 D s l).2.1 (f_X11_piece fu v0 v1 D s l).2.2)) := by
  generalize he : (f_X11_piece fu v0 v1 D s l) = res
  unfold f_X11_piece at he
  unfold p_X11_piece at hk
  refine r_weak (L1 := [some (.ref 0), some (.int v0), some (.int v1), none, none]) ⟨rfl, rfl, rfl, trivial⟩ ?_
  refine r_aload_n rfl rfl ?_
  refine r_iload_n rfl rfl ?_
  obtain ⟨hb0, hk⟩ := hk
  refine q_callV0 [_] _ rfl kY_X11_isPiece kT_X11_isPiece rfl rfl (Nat.le_of_ble_eq_true rfl) (Nat.le_of_ble_eq_true rfl) (cc_0 _) (s_X11_isPiece hb0) (fun r h q => ?_)
  obtain ⟨rfl, rfl⟩ := q
  simp only [Option.toList, List.cons_append, List.nil_append]
  refine r_if_ne rfl (fun c_5 => ?_) (fun c_5 => ?_)
  · rw [if_neg c_5] at he
    replace hk := hk.2 c_5
    refine r_aload_n rfl rfl ?_
    refine q_getfield rfl (cc_0 _) rfl ?_
    refine r_iload_n rfl rfl ?_
    obtain ⟨hb1, hk⟩ := hk
    refine q_callV0 [_] _ rfl kY_X10_isLying kT_X10_isLying rfl rfl (Nat.le_of_ble_eq_true rfl) (Nat.le_of_ble_eq_true rfl) (cc_31 _) (s_X10_isLying (Or.inl rfl) hb1) (fun r h q => ?_)
    obtain ⟨rfl, rfl⟩ := q
    simp only [Option.toList, List.cons_append, List.nil_append]
    refine r_istore_n rfl (Nat.le_of_ble_eq_true rfl) rfl ?_
    refine r_aload_n rfl rfl ?_
    refine q_getfield rfl (cc_0 _) rfl ?_
    refine r_iload_n rfl rfl ?_
    obtain ⟨hb2, hk⟩ := hk
    refine q_callV0 [_] _ rfl kY_X10_cellOf kT_X10_cellOf rfl rfl (Nat.le_of_ble_eq_true rfl) (Nat.le_of_ble_eq_true rfl) (cc_31 _) (s_X10_cellOf (Or.inl rfl) hb2) (fun r h q => ?_)
    obtain ⟨rfl, rfl⟩ := q
    simp only [Option.toList, List.cons_append, List.nil_append]
    refine r_istore rfl (Nat.le_of_ble_eq_true rfl) rfl ?_
    refine r_iload_n rfl rfl ?_
    by_cases c_30_0 : (v1 = 0)
    · rw [if_pos c_30_0] at he
      replace hk := hk.1 c_30_0
      refine r_tableIn (tgt := 76) rfl (by rw [c_30_0]; decide) (by rw [c_30_0]; decide) (by rw [c_30_0]; rfl) (by decide) ?_
      refine r_aload_n rfl rfl ?_
      refine q_getfield rfl (cc_0 _) rfl ?_
      refine q_getfield rfl (cT_0 (isT_l _)) rfl ?_
      refine r_iload_n rfl rfl ?_
      obtain ⟨hb3, hk⟩ := hk
      refine q_iald rfl (cT_4 (isT_l _)) hb3 ?_
      refine r_iret rfl rfl rfl ?_
      first | with_reducible exact fin_i he | exact fin_i he
    · rw [if_neg c_30_0] at he
      replace hk := hk.2 c_30_0
      by_cases c_30_1 : (v1 = 1)
      · rw [if_pos c_30_1] at he
        replace hk := hk.1 c_30_1
        refine r_tableIn (tgt := 86) rfl (by rw [c_30_1]; decide) (by rw [c_30_1]; decide) (by rw [c_30_1]; rfl) (by decide) ?_
        refine r_aload_n rfl rfl ?_
        refine q_getfield rfl (cc_0 _) rfl ?_
        refine q_getfield rfl (cT_0 (isT_l _)) rfl ?_
        refine r_iload_n rfl rfl ?_
        obtain ⟨hb4, hk⟩ := hk
        refine q_iald rfl (cT_5 (isT_l _)) hb4 ?_
        refine r_iret rfl rfl rfl ?_
        first | with_reducible exact fin_i he | exact fin_i he
      · rw [if_neg c_30_1] at he
        replace hk := hk.2 c_30_1
        by_cases c_30_2 : (v1 = 2)
        · rw [if_pos c_30_2] at he
          replace hk := hk.1 c_30_2
          refine r_tableIn (tgt := 96) rfl (by rw [c_30_2]; decide) (by rw [c_30_2]; decide) (by rw [c_30_2]; rfl) (by decide) ?_
          refine r_iload rfl rfl ?_
          refine r_bipush_ (a := 10) rfl (by decide) ?_
          refine r_irem rfl (by decide) ?_
          refine r_iret rfl rfl rfl ?_
          first | with_reducible exact fin_i he | exact fin_i he
        · rw [if_neg c_30_2] at he
          replace hk := hk.2 c_30_2
          by_cases c_30_3 : (v1 = 3)
          · rw [if_pos c_30_3] at he
            replace hk := hk.1 c_30_3
            refine r_tableIn (tgt := 102) rfl (by rw [c_30_3]; decide) (by rw [c_30_3]; decide) (by rw [c_30_3]; rfl) (by decide) ?_
            refine r_iload rfl rfl ?_
            refine r_bipush_ (a := 10) rfl (by decide) ?_
            refine r_idiv rfl (by decide) ?_
            refine r_iret rfl rfl rfl ?_
            first | with_reducible exact fin_i he | exact fin_i he
          · rw [if_neg c_30_3] at he
            replace hk := hk.2 c_30_3
            by_cases c_30_4 : (v1 = 4)
            · rw [if_pos c_30_4] at he
              replace hk := hk.1 c_30_4
              refine r_tableIn (tgt := 108) rfl (by rw [c_30_4]; decide) (by rw [c_30_4]; decide) (by rw [c_30_4]; rfl) (by decide) ?_
              refine r_aload_n rfl rfl ?_
              refine q_getfield rfl (cc_0 _) rfl ?_
              refine r_iload_n rfl rfl ?_
              obtain ⟨hb5, hk⟩ := hk
              refine q_callV0 [_] _ rfl kY_X10_holder kT_X10_holder rfl rfl (Nat.le_of_ble_eq_true rfl) (Nat.le_of_ble_eq_true rfl) (cc_31 _) (s_X10_holder (Or.inl rfl) hb5) (fun r h q => ?_)
              obtain ⟨rfl, rfl⟩ := q
              simp only [Option.toList, List.cons_append, List.nil_append]
              refine r_iret rfl rfl rfl ?_
              first | with_reducible exact fin_i he | exact fin_i he
            · rw [if_neg c_30_4] at he
              replace hk := hk.2 c_30_4
              by_cases c_30_5 : (v1 = 5)
              · rw [if_pos c_30_5] at he
                replace hk := hk.1 c_30_5
                refine r_tableIn (tgt := 117) rfl (by rw [c_30_5]; decide) (by rw [c_30_5]; decide) (by rw [c_30_5]; rfl) (by decide) ?_
                refine r_aload_n rfl rfl ?_
                refine q_getfield rfl (cc_0 _) rfl ?_
                refine q_getfield rfl (cc_31 _) rfl ?_
                refine r_iload_n rfl rfl ?_
                obtain ⟨hb6, hk⟩ := hk
                refine q_iald rfl (cc_33 _) hb6 ?_
                refine r_iret rfl rfl rfl ?_
                first | with_reducible exact fin_i he | exact fin_i he
              · rw [if_neg c_30_5] at he
                replace hk := hk.2 c_30_5
                by_cases c_30_6 : (v1 = 6)
                · rw [if_pos c_30_6] at he
                  replace hk := hk.1 c_30_6
                  refine r_tableIn (tgt := 127) rfl (by rw [c_30_6]; decide) (by rw [c_30_6]; decide) (by rw [c_30_6]; rfl) (by decide) ?_
                  refine r_iload_n rfl rfl ?_
                  refine r_if_eq rfl (fun c_128 => ?_) (fun c_128 => ?_)
                  · rw [if_pos c_128] at he
                    replace hk := hk.1 c_128
                    refine r_iconst_ (a := 0) rfl (by decide) ?_
                    refine r_iret rfl rfl rfl ?_
                    first | with_reducible exact fin_i he | exact fin_i he
                  · rw [if_neg c_128] at he
                    replace hk := hk.2 c_128
                    refine r_aload_n rfl rfl ?_
                    refine q_getfield rfl (cc_0 _) rfl ?_
                    refine r_iconst_ (a := 0) rfl (by decide) ?_
                    refine r_aload_n rfl rfl ?_
                    refine q_getfield rfl (cc_0 _) rfl ?_
                    refine r_aload_n rfl rfl ?_
                    refine q_getfield rfl (cc_0 _) rfl ?_
                    refine r_iload_n rfl rfl ?_
                    obtain ⟨hb7, hk⟩ := hk
                    refine q_callV0 [_, _, _, _] _ rfl kY_X9_lawOfPiece kT_X9_lawOfPiece rfl rfl (Nat.le_of_ble_eq_true rfl) (Nat.le_of_ble_eq_true rfl) (cc_46 _) (s_X9_lawOfPiece (isT_l _) (Or.inl rfl) hb7) (fun r h q => ?_)
                    obtain ⟨rfl, rfl⟩ := q
                    simp only [Option.toList, List.cons_append, List.nil_append]
                    refine r_if_le rfl (fun c_148 => ?_) (fun c_148 => ?_)
                    · rw [if_pos c_148] at he
                      replace hk := hk.1 c_148
                      refine r_iconst_ (a := 0) rfl (by decide) ?_
                      refine r_iret rfl rfl rfl ?_
                      first | with_reducible exact fin_i he | exact fin_i he
                    · rw [if_neg c_148] at he
                      replace hk := hk.2 c_148
                      refine r_iconst_ (a := 1) rfl (by decide) ?_
                      refine r_goto rfl ?_
                      refine r_iret rfl rfl rfl ?_
                      first | with_reducible exact fin_i he | exact fin_i he
                · rw [if_neg c_30_6] at he
                  replace hk := hk.2 c_30_6
                  by_cases c_30_7 : (v1 = 7)
                  · rw [if_pos c_30_7] at he
                    replace hk := hk.1 c_30_7
                    refine r_tableIn (tgt := 157) rfl (by rw [c_30_7]; decide) (by rw [c_30_7]; decide) (by rw [c_30_7]; rfl) (by decide) ?_
                    refine r_iload_n rfl rfl ?_
                    refine r_if_eq rfl (fun c_158 => ?_) (fun c_158 => ?_)
                    · rw [if_pos c_158] at he
                      replace hk := hk.1 c_158
                      refine r_iconst_ (a := 0) rfl (by decide) ?_
                      refine r_iret rfl rfl rfl ?_
                      first | with_reducible exact fin_i he | exact fin_i he
                    · rw [if_neg c_158] at he
                      replace hk := hk.2 c_158
                      refine r_aload_n rfl rfl ?_
                      refine q_getfield rfl (cc_0 _) rfl ?_
                      refine r_iconst_ (a := 1) rfl (by decide) ?_
                      refine r_aload_n rfl rfl ?_
                      refine q_getfield rfl (cc_0 _) rfl ?_
                      refine r_aload_n rfl rfl ?_
                      refine q_getfield rfl (cc_0 _) rfl ?_
                      refine r_iload_n rfl rfl ?_
                      obtain ⟨hb8, hk⟩ := hk
                      refine q_callV0 [_, _, _, _] _ rfl kY_X9_lawOfPiece kT_X9_lawOfPiece rfl rfl (Nat.le_of_ble_eq_true rfl) (Nat.le_of_ble_eq_true rfl) (cc_46 _) (s_X9_lawOfPiece (isT_l _) (Or.inl rfl) hb8) (fun r h q => ?_)
                      obtain ⟨rfl, rfl⟩ := q
                      simp only [Option.toList, List.cons_append, List.nil_append]
                      obtain ⟨hb9, hk⟩ := hk
                      refine r_callS0 [_] _ rfl kY_X11_money kT_X11_money rfl rfl (Nat.le_of_ble_eq_true rfl) (Nat.le_of_ble_eq_true rfl) (s_X11_money hb9) (fun r h q => ?_)
                      obtain ⟨rfl, rfl⟩ := q
                      simp only [Option.toList, List.cons_append, List.nil_append]
                      refine r_goto rfl ?_
                      refine r_iret rfl rfl rfl ?_
                      first | with_reducible exact fin_i he | exact fin_i he
                  · rw [if_neg c_30_7] at he
                    replace hk := hk.2 c_30_7
                    refine r_tableOut (tgt := 186) rfl (by simp only [Int32.lt_iff_toInt_lt, Int32.le_iff_toInt_le, ← Int32.toInt_inj, ti_0, ti_1, ti_2, ti_3, ti_4, ti_5, ti_6, ti_7, ti_8, ti_9, ti_10, ti_11, ti_12, ti_13, ti_14, ti_15, ti_16, ti_17, ti_18, ti_19, ti_20, ti_21, ti_22, ti_23, ti_24, ti_25, ti_26, ti_27, ti_28, ti_29, ti_30, ti_31, ti_32, ti_33, ti_34, ti_35, ti_36, ti_37, ti_38, ti_39, ti_40, ti_41, ti_42, ti_43, ti_44, ti_45, ti_46, ti_47, ti_48, ti_49, ti_50, ti_51, ti_52, ti_53, ti_54, ti_55, ti_56, ti_57, ti_58, ti_59, ti_60, ti_61, ti_62, ti_63, ti_64, ti_79, ti_80, ti_90, ti_96, ti_97, ti_99, ti_100, ti_122, ti_128, ti_132, ti_136, ti_140, ti_141, ti_145, ti_255, ti_256, ti_257, ti_258, ti_259, ti_260, ti_261, ti_262, ti_263, ti_264, ti_265, ti_266, ti_267, ti_268, ti_269, ti_270, ti_271, ti_272, ti_273, ti_274, ti_275, ti_276, ti_277, ti_278, ti_400, ti_401, ti_408, ti_420, ti_840, ti_999, ti_1980, ti_2000, ti_9999, ti_10000, ti_10240, ti_1000000, ti_m1, ti_m2, ti_m3, ti_m4, ti_m5, ti_m6, ti_m7] at c_30_0 c_30_1 c_30_2 c_30_3 c_30_4 c_30_5 c_30_6 c_30_7; omega) (by decide) ?_
                    refine r_iconst_ (a := -1) rfl (by decide) ?_
                    refine r_iret rfl rfl rfl ?_
                    first | with_reducible exact fin_i he | exact fin_i he
  · rw [if_pos c_5] at he
    replace hk := hk.1 c_5
    refine r_iconst_ (a := -1) rfl (by decide) ?_
    refine r_iret rfl rfl rfl ?_
    first | with_reducible exact fin_i he | exact fin_i he

def f_X11_stand_38 (fu : Nat) : Nat → Int32 → Int32 → Int32 → Int32 → Int32 → fl_D → fl_I → fl_L → Int32 × fl_I × fl_L
  | 0, x1, x2, x3, x4, x5, D, s, l => (0, s, l)
  | n + 1, x1, x2, x3, x4, x5, D, s, l =>
    if ((80 : Int32) ≤ x5) then if (x3 = 0) then ((x4 - x4 / (80 : Int32) * (80 : Int32)), s, l) else ((x4 / (80 : Int32)), s, l) else if (x4 < (80 : Int32)) then if (x3 = 0) then ((x4 - x4 / (80 : Int32) * (80 : Int32)), s, l) else ((x4 / (80 : Int32)), s, l) else if (x5 = ((f_X10_copy fu 37 31 s l).1 34 x1.toNatClampNeg)) then f_X11_stand_38 fu n x1 x2 x3 (i_min x4 (((f_X9_takesOfAll fu (if D.2.2.1 then 20 else 9) 37 (f_X9_goOn fu x2 (-1 : Int32) (if D.2.2.1 then 20 else 9) 37 (wi (f_X10_copy fu 37 31 s l).1 41 x1.toNatClampNeg (-2 : Int32)) (f_X10_copy fu 37 31 s l).2).1 (f_X9_goOn fu x2 (-1 : Int32) (if D.2.2.1 then 20 else 9) 37 (wi (f_X10_copy fu 37 31 s l).1 41 x1.toNatClampNeg (-2 : Int32)) (f_X10_copy fu 37 31 s l).2).2).1 * (80 : Int32)) + x5)) (x5 + 1) D (f_X9_takesOfAll fu (if D.2.2.1 then 20 else 9) 37 (f_X9_goOn fu x2 (-1 : Int32) (if D.2.2.1 then 20 else 9) 37 (wi (f_X10_copy fu 37 31 s l).1 41 x1.toNatClampNeg (-2 : Int32)) (f_X10_copy fu 37 31 s l).2).1 (f_X9_goOn fu x2 (-1 : Int32) (if D.2.2.1 then 20 else 9) 37 (wi (f_X10_copy fu 37 31 s l).1 41 x1.toNatClampNeg (-2 : Int32)) (f_X10_copy fu 37 31 s l).2).2).2.1 (f_X9_takesOfAll fu (if D.2.2.1 then 20 else 9) 37 (f_X9_goOn fu x2 (-1 : Int32) (if D.2.2.1 then 20 else 9) 37 (wi (f_X10_copy fu 37 31 s l).1 41 x1.toNatClampNeg (-2 : Int32)) (f_X10_copy fu 37 31 s l).2).1 (f_X9_goOn fu x2 (-1 : Int32) (if D.2.2.1 then 20 else 9) 37 (wi (f_X10_copy fu 37 31 s l).1 41 x1.toNatClampNeg (-2 : Int32)) (f_X10_copy fu 37 31 s l).2).2).2.2 else f_X11_stand_38 fu n x1 x2 x3 (i_min x4 (((f_X9_takesOfAll fu (if D.2.2.1 then 20 else 9) 37 (f_X9_goOn fu x2 (-1 : Int32) (if D.2.2.1 then 20 else 9) 37 (wi (f_X10_copy fu 37 31 s l).1 41 x1.toNatClampNeg x5) (f_X10_copy fu 37 31 s l).2).1 (f_X9_goOn fu x2 (-1 : Int32) (if D.2.2.1 then 20 else 9) 37 (wi (f_X10_copy fu 37 31 s l).1 41 x1.toNatClampNeg x5) (f_X10_copy fu 37 31 s l).2).2).1 * (80 : Int32)) + x5)) (x5 + 1) D (f_X9_takesOfAll fu (if D.2.2.1 then 20 else 9) 37 (f_X9_goOn fu x2 (-1 : Int32) (if D.2.2.1 then 20 else 9) 37 (wi (f_X10_copy fu 37 31 s l).1 41 x1.toNatClampNeg x5) (f_X10_copy fu 37 31 s l).2).1 (f_X9_goOn fu x2 (-1 : Int32) (if D.2.2.1 then 20 else 9) 37 (wi (f_X10_copy fu 37 31 s l).1 41 x1.toNatClampNeg x5) (f_X10_copy fu 37 31 s l).2).2).2.1 (f_X9_takesOfAll fu (if D.2.2.1 then 20 else 9) 37 (f_X9_goOn fu x2 (-1 : Int32) (if D.2.2.1 then 20 else 9) 37 (wi (f_X10_copy fu 37 31 s l).1 41 x1.toNatClampNeg x5) (f_X10_copy fu 37 31 s l).2).1 (f_X9_goOn fu x2 (-1 : Int32) (if D.2.2.1 then 20 else 9) 37 (wi (f_X10_copy fu 37 31 s l).1 41 x1.toNatClampNeg x5) (f_X10_copy fu 37 31 s l).2).2).2.2

def p_X11_stand_38 (fu : Nat) : Nat → Int32 → Int32 → Int32 → Int32 → Int32 → fl_D → fl_I → fl_L → Prop
  | 0, _, _, _, _, _, _, _, _ => False
  | n + 1, x1, x2, x3, x4, x5, D, s, l =>
    ((((80 : Int32) ≤ x5) → (((x3 = 0) → True) ∧ (¬ (x3 = 0) → True))) ∧ (¬ ((80 : Int32) ≤ x5) → (((x4 < (80 : Int32)) → (((x3 = 0) → True) ∧ (¬ (x3 = 0) → True))) ∧ (¬ (x4 < (80 : Int32)) → (p_X10_copy fu 37 31 s l) ∧ (vp_in x1 4) ∧ (((x5 = ((f_X10_copy fu 37 31 s l).1 34 x1.toNatClampNeg)) → (vp_in x1 4) ∧ (p_X9_goOn fu x2 (-1 : Int32) (if D.2.2.1 then 20 else 9) 37 (wi (f_X10_copy fu 37 31 s l).1 41 x1.toNatClampNeg (-2 : Int32)) (f_X10_copy fu 37 31 s l).2) ∧ (p_X9_takesOfAll fu (if D.2.2.1 then 20 else 9) 37 (f_X9_goOn fu x2 (-1 : Int32) (if D.2.2.1 then 20 else 9) 37 (wi (f_X10_copy fu 37 31 s l).1 41 x1.toNatClampNeg (-2 : Int32)) (f_X10_copy fu 37 31 s l).2).1 (f_X9_goOn fu x2 (-1 : Int32) (if D.2.2.1 then 20 else 9) 37 (wi (f_X10_copy fu 37 31 s l).1 41 x1.toNatClampNeg (-2 : Int32)) (f_X10_copy fu 37 31 s l).2).2) ∧ p_X11_stand_38 fu n x1 x2 x3 (i_min x4 (((f_X9_takesOfAll fu (if D.2.2.1 then 20 else 9) 37 (f_X9_goOn fu x2 (-1 : Int32) (if D.2.2.1 then 20 else 9) 37 (wi (f_X10_copy fu 37 31 s l).1 41 x1.toNatClampNeg (-2 : Int32)) (f_X10_copy fu 37 31 s l).2).1 (f_X9_goOn fu x2 (-1 : Int32) (if D.2.2.1 then 20 else 9) 37 (wi (f_X10_copy fu 37 31 s l).1 41 x1.toNatClampNeg (-2 : Int32)) (f_X10_copy fu 37 31 s l).2).2).1 * (80 : Int32)) + x5)) (x5 + 1) D (f_X9_takesOfAll fu (if D.2.2.1 then 20 else 9) 37 (f_X9_goOn fu x2 (-1 : Int32) (if D.2.2.1 then 20 else 9) 37 (wi (f_X10_copy fu 37 31 s l).1 41 x1.toNatClampNeg (-2 : Int32)) (f_X10_copy fu 37 31 s l).2).1 (f_X9_goOn fu x2 (-1 : Int32) (if D.2.2.1 then 20 else 9) 37 (wi (f_X10_copy fu 37 31 s l).1 41 x1.toNatClampNeg (-2 : Int32)) (f_X10_copy fu 37 31 s l).2).2).2.1 (f_X9_takesOfAll fu (if D.2.2.1 then 20 else 9) 37 (f_X9_goOn fu x2 (-1 : Int32) (if D.2.2.1 then 20 else 9) 37 (wi (f_X10_copy fu 37 31 s l).1 41 x1.toNatClampNeg (-2 : Int32)) (f_X10_copy fu 37 31 s l).2).1 (f_X9_goOn fu x2 (-1 : Int32) (if D.2.2.1 then 20 else 9) 37 (wi (f_X10_copy fu 37 31 s l).1 41 x1.toNatClampNeg (-2 : Int32)) (f_X10_copy fu 37 31 s l).2).2).2.2) ∧ (¬ (x5 = ((f_X10_copy fu 37 31 s l).1 34 x1.toNatClampNeg)) → (vp_in x1 4) ∧ (p_X9_goOn fu x2 (-1 : Int32) (if D.2.2.1 then 20 else 9) 37 (wi (f_X10_copy fu 37 31 s l).1 41 x1.toNatClampNeg x5) (f_X10_copy fu 37 31 s l).2) ∧ (p_X9_takesOfAll fu (if D.2.2.1 then 20 else 9) 37 (f_X9_goOn fu x2 (-1 : Int32) (if D.2.2.1 then 20 else 9) 37 (wi (f_X10_copy fu 37 31 s l).1 41 x1.toNatClampNeg x5) (f_X10_copy fu 37 31 s l).2).1 (f_X9_goOn fu x2 (-1 : Int32) (if D.2.2.1 then 20 else 9) 37 (wi (f_X10_copy fu 37 31 s l).1 41 x1.toNatClampNeg x5) (f_X10_copy fu 37 31 s l).2).2) ∧ p_X11_stand_38 fu n x1 x2 x3 (i_min x4 (((f_X9_takesOfAll fu (if D.2.2.1 then 20 else 9) 37 (f_X9_goOn fu x2 (-1 : Int32) (if D.2.2.1 then 20 else 9) 37 (wi (f_X10_copy fu 37 31 s l).1 41 x1.toNatClampNeg x5) (f_X10_copy fu 37 31 s l).2).1 (f_X9_goOn fu x2 (-1 : Int32) (if D.2.2.1 then 20 else 9) 37 (wi (f_X10_copy fu 37 31 s l).1 41 x1.toNatClampNeg x5) (f_X10_copy fu 37 31 s l).2).2).1 * (80 : Int32)) + x5)) (x5 + 1) D (f_X9_takesOfAll fu (if D.2.2.1 then 20 else 9) 37 (f_X9_goOn fu x2 (-1 : Int32) (if D.2.2.1 then 20 else 9) 37 (wi (f_X10_copy fu 37 31 s l).1 41 x1.toNatClampNeg x5) (f_X10_copy fu 37 31 s l).2).1 (f_X9_goOn fu x2 (-1 : Int32) (if D.2.2.1 then 20 else 9) 37 (wi (f_X10_copy fu 37 31 s l).1 41 x1.toNatClampNeg x5) (f_X10_copy fu 37 31 s l).2).2).2.1 (f_X9_takesOfAll fu (if D.2.2.1 then 20 else 9) 37 (f_X9_goOn fu x2 (-1 : Int32) (if D.2.2.1 then 20 else 9) 37 (wi (f_X10_copy fu 37 31 s l).1 41 x1.toNatClampNeg x5) (f_X10_copy fu 37 31 s l).2).1 (f_X9_goOn fu x2 (-1 : Int32) (if D.2.2.1 then 20 else 9) 37 (wi (f_X10_copy fu 37 31 s l).1 41 x1.toNatClampNeg x5) (f_X10_copy fu 37 31 s l).2).2).2.2))))))

set_option maxRecDepth 100000 in
set_option maxHeartbeats 1000000 in
theorem lp_X11_stand_38 {G : ab_G} {fu : Nat} {d : Nat} {D : fl_D} : ∀ (n : Nat) (x1 : Int32) (x2 : Int32) (x3 : Int32) (x4 : Int32) (x5 : Int32) (s : fl_I) (l : fl_L), p_X11_stand_38 fu n x1 x2 x3 x4 x5 D s l → ab_C G (d + 5) 0 0 M_X11_stand 38 [some (.ref 0), some (.int x1), some (.int x2), some (.int x3), some (.int x4), some (.int x5)] [] (hp D s l) (rt (some (.int (f_X11_stand_38 fu n x1 x2 x3 x4 x5 D s l).1)) (hp D (f_X11_stand_38 fu n x1 x2 x3 x4 x5 D s l).2.1 (f_X11_stand_38 fu n x1 x2 x3 x4 x5 D s l).2.2)) := by
  intro n
  induction n with
  | zero => intro x1 x2 x3 x4 x5 s l hk; exact hk.elim
  | succ n ih =>
    intro x1 x2 x3 x4 x5 s l hk
    generalize he : f_X11_stand_38 fu (n + 1) x1 x2 x3 x4 x5 D s l = res
    unfold f_X11_stand_38 at he
    unfold p_X11_stand_38 at hk
    refine r_iload rfl rfl ?_
    refine r_bipush_ (a := 80) rfl (by decide) ?_
    refine r_icmp_ge rfl (fun c_42 => ?_) (fun c_42 => ?_)
    · rw [if_pos c_42] at he
      replace hk := hk.1 c_42
      refine r_iload_n rfl rfl ?_
      refine r_if_ne rfl (fun c_145 => ?_) (fun c_145 => ?_)
      · rw [if_neg c_145] at he
        replace hk := hk.2 c_145
        refine r_iload rfl rfl ?_
        refine r_bipush_ (a := 80) rfl (by decide) ?_
        refine r_idiv rfl (by decide) ?_
        refine r_iret rfl rfl rfl ?_
        first | with_reducible exact fin_i he | exact fin_i he
      · rw [if_pos c_145] at he
        replace hk := hk.1 c_145
        refine r_iload rfl rfl ?_
        refine r_bipush_ (a := 80) rfl (by decide) ?_
        refine r_irem rfl (by decide) ?_
        refine r_goto rfl ?_
        refine r_iret rfl rfl rfl ?_
        first | with_reducible exact fin_i he | exact fin_i he
    · rw [if_neg c_42] at he
      replace hk := hk.2 c_42
      refine r_iload rfl rfl ?_
      refine r_bipush_ (a := 80) rfl (by decide) ?_
      refine r_icmp_lt rfl (fun c_49 => ?_) (fun c_49 => ?_)
      · rw [if_pos c_49] at he
        replace hk := hk.1 c_49
        refine r_iload_n rfl rfl ?_
        refine r_if_ne rfl (fun c_145 => ?_) (fun c_145 => ?_)
        · rw [if_neg c_145] at he
          replace hk := hk.2 c_145
          refine r_iload rfl rfl ?_
          refine r_bipush_ (a := 80) rfl (by decide) ?_
          refine r_idiv rfl (by decide) ?_
          refine r_iret rfl rfl rfl ?_
          first | with_reducible exact fin_i he | exact fin_i he
        · rw [if_pos c_145] at he
          replace hk := hk.1 c_145
          refine r_iload rfl rfl ?_
          refine r_bipush_ (a := 80) rfl (by decide) ?_
          refine r_irem rfl (by decide) ?_
          refine r_goto rfl ?_
          refine r_iret rfl rfl rfl ?_
          first | with_reducible exact fin_i he | exact fin_i he
      · rw [if_neg c_49] at he
        replace hk := hk.2 c_49
        refine r_aload_n rfl rfl ?_
        refine q_getfield rfl (cc_0 _) rfl ?_
        refine r_aload_n rfl rfl ?_
        refine q_getfield rfl (cc_0 _) rfl ?_
        obtain ⟨hb1, hk⟩ := hk
        refine q_callV0 [_] _ rfl kY_X10_copy kT_X10_copy rfl rfl (Nat.le_of_ble_eq_true rfl) (Nat.le_of_ble_eq_true rfl) (cc_37 _) (s_X10_copy (Or.inr (Or.inl rfl)) (Or.inl rfl) hb1) (fun r h q => ?_)
        obtain ⟨rfl, rfl⟩ := q
        simp only [Option.toList, List.cons_append, List.nil_append]
        refine r_aload_n rfl rfl ?_
        refine q_getfield rfl (cc_0 _) rfl ?_
        refine q_getfield rfl (cc_37 _) rfl ?_
        refine r_iload_n rfl rfl ?_
        refine r_iload rfl rfl ?_
        refine r_aload_n rfl rfl ?_
        refine q_getfield rfl (cc_0 _) rfl ?_
        refine q_getfield rfl (cc_31 _) rfl ?_
        refine r_iload_n rfl rfl ?_
        obtain ⟨hb2, hk⟩ := hk
        refine q_iald rfl (cc_34 _) hb2 ?_
        refine r_icmp_ne rfl (fun c_82 => ?_) (fun c_82 => ?_)
        · rw [if_neg c_82] at he
          replace hk := hk.2 c_82
          refine r_iload rfl rfl ?_
          obtain ⟨hb3, hk⟩ := hk
          refine w_iast rfl (cc_41 _) hb3 ?_
          refine r_aload_n rfl rfl ?_
          refine q_getfield rfl (cc_0 _) rfl ?_
          refine r_aload_n rfl rfl ?_
          refine q_getfield rfl (cc_0 _) rfl ?_
          refine r_aload_n rfl rfl ?_
          refine q_getfield rfl (cc_0 _) rfl ?_
          refine r_iload_n rfl rfl ?_
          refine r_iconst_ (a := -1) rfl (by decide) ?_
          obtain ⟨hb4, hk⟩ := hk
          refine q_callV0 [_, _, _, _] _ rfl kY_X9_goOn kT_X9_goOn rfl rfl (Nat.le_of_ble_eq_true rfl) (Nat.le_of_ble_eq_true rfl) (cc_46 _) (s_X9_goOn (isT_l _) (Or.inr (Or.inl rfl)) hb4) (fun r h q => ?_)
          obtain ⟨rfl, rfl⟩ := q
          simp only [Option.toList, List.cons_append, List.nil_append]
          refine r_iload rfl rfl ?_
          refine r_aload_n rfl rfl ?_
          refine q_getfield rfl (cc_0 _) rfl ?_
          refine r_aload_n rfl rfl ?_
          refine q_getfield rfl (cc_0 _) rfl ?_
          refine r_aload_n rfl rfl ?_
          refine q_getfield rfl (cc_0 _) rfl ?_
          obtain ⟨hb5, hk⟩ := hk
          refine q_callV0 [_, _] _ rfl kY_X9_takesOfAll kT_X9_takesOfAll rfl rfl (Nat.le_of_ble_eq_true rfl) (Nat.le_of_ble_eq_true rfl) (cc_46 _) (s_X9_takesOfAll (isT_l _) (Or.inr (Or.inl rfl)) hb5) (fun r h q => ?_)
          obtain ⟨rfl, rfl⟩ := q
          simp only [Option.toList, List.cons_append, List.nil_append]
          refine r_bipush_ (a := 80) rfl (by decide) ?_
          refine r_imul rfl ?_
          refine r_iload rfl rfl ?_
          refine r_iadd rfl ?_
          refine r_mmin rfl (Nat.le_of_ble_eq_true rfl) ?_
          refine r_istore rfl (Nat.le_of_ble_eq_true rfl) rfl ?_
          refine r_iinc (b := x5 + 1) rfl rfl rfl (Nat.le_of_ble_eq_true rfl) rfl ?_
          refine r_goto rfl ?_
          subst he
          exact r_weak (L1 := [some (.ref 0), some (.int x1), some (.int x2), some (.int x3), some (.int (i_min x4 (((f_X9_takesOfAll fu (if D.2.2.1 then 20 else 9) 37 (f_X9_goOn fu x2 (-1 : Int32) (if D.2.2.1 then 20 else 9) 37 (wi (f_X10_copy fu 37 31 s l).1 41 x1.toNatClampNeg x5) (f_X10_copy fu 37 31 s l).2).1 (f_X9_goOn fu x2 (-1 : Int32) (if D.2.2.1 then 20 else 9) 37 (wi (f_X10_copy fu 37 31 s l).1 41 x1.toNatClampNeg x5) (f_X10_copy fu 37 31 s l).2).2).1 * (80 : Int32)) + x5))), some (.int (x5 + 1))]) ⟨rfl, rfl, rfl, rfl, rfl, rfl, trivial⟩ (ih _ _ _ _ _ _ _ hk)
        · rw [if_pos c_82] at he
          replace hk := hk.1 c_82
          refine r_bipush_ (a := -2) rfl (by decide) ?_
          refine r_goto rfl ?_
          obtain ⟨hb6, hk⟩ := hk
          refine w_iast rfl (cc_41 _) hb6 ?_
          refine r_aload_n rfl rfl ?_
          refine q_getfield rfl (cc_0 _) rfl ?_
          refine r_aload_n rfl rfl ?_
          refine q_getfield rfl (cc_0 _) rfl ?_
          refine r_aload_n rfl rfl ?_
          refine q_getfield rfl (cc_0 _) rfl ?_
          refine r_iload_n rfl rfl ?_
          refine r_iconst_ (a := -1) rfl (by decide) ?_
          obtain ⟨hb7, hk⟩ := hk
          refine q_callV0 [_, _, _, _] _ rfl kY_X9_goOn kT_X9_goOn rfl rfl (Nat.le_of_ble_eq_true rfl) (Nat.le_of_ble_eq_true rfl) (cc_46 _) (s_X9_goOn (isT_l _) (Or.inr (Or.inl rfl)) hb7) (fun r h q => ?_)
          obtain ⟨rfl, rfl⟩ := q
          simp only [Option.toList, List.cons_append, List.nil_append]
          refine r_iload rfl rfl ?_
          refine r_aload_n rfl rfl ?_
          refine q_getfield rfl (cc_0 _) rfl ?_
          refine r_aload_n rfl rfl ?_
          refine q_getfield rfl (cc_0 _) rfl ?_
          refine r_aload_n rfl rfl ?_
          refine q_getfield rfl (cc_0 _) rfl ?_
          obtain ⟨hb8, hk⟩ := hk
          refine q_callV0 [_, _] _ rfl kY_X9_takesOfAll kT_X9_takesOfAll rfl rfl (Nat.le_of_ble_eq_true rfl) (Nat.le_of_ble_eq_true rfl) (cc_46 _) (s_X9_takesOfAll (isT_l _) (Or.inr (Or.inl rfl)) hb8) (fun r h q => ?_)
          obtain ⟨rfl, rfl⟩ := q
          simp only [Option.toList, List.cons_append, List.nil_append]
          refine r_bipush_ (a := 80) rfl (by decide) ?_
          refine r_imul rfl ?_
          refine r_iload rfl rfl ?_
          refine r_iadd rfl ?_
          refine r_mmin rfl (Nat.le_of_ble_eq_true rfl) ?_
          refine r_istore rfl (Nat.le_of_ble_eq_true rfl) rfl ?_
          refine r_iinc (b := x5 + 1) rfl rfl rfl (Nat.le_of_ble_eq_true rfl) rfl ?_
          refine r_goto rfl ?_
          subst he
          exact r_weak (L1 := [some (.ref 0), some (.int x1), some (.int x2), some (.int x3), some (.int (i_min x4 (((f_X9_takesOfAll fu (if D.2.2.1 then 20 else 9) 37 (f_X9_goOn fu x2 (-1 : Int32) (if D.2.2.1 then 20 else 9) 37 (wi (f_X10_copy fu 37 31 s l).1 41 x1.toNatClampNeg (-2 : Int32)) (f_X10_copy fu 37 31 s l).2).1 (f_X9_goOn fu x2 (-1 : Int32) (if D.2.2.1 then 20 else 9) 37 (wi (f_X10_copy fu 37 31 s l).1 41 x1.toNatClampNeg (-2 : Int32)) (f_X10_copy fu 37 31 s l).2).2).1 * (80 : Int32)) + x5))), some (.int (x5 + 1))]) ⟨rfl, rfl, rfl, rfl, rfl, rfl, trivial⟩ (ih _ _ _ _ _ _ _ hk)

def f_X11_stand (fu : Nat) (v0 : Int32) (v1 : Int32) (v2 : Int32) (D : fl_D) (s : fl_I) (l : fl_L) : Int32 × fl_I × fl_L :=
  if ((f_X11_isPicker fu v0 s l) = 0) then ((-1 : Int32), s, l) else if (v1 < (1 : Int32)) then ((-1 : Int32), s, l) else if ((12 : Int32) < v1) then ((-1 : Int32), s, l) else if (v2 < 0) then ((-1 : Int32), s, l) else if (v2 ≤ (1 : Int32)) then f_X11_stand_38 fu fu v0 v1 v2 (1000000 : Int32) (0 : Int32) D s l else ((-1 : Int32), s, l)

def p_X11_stand (fu : Nat) (v0 : Int32) (v1 : Int32) (v2 : Int32) (D : fl_D) (s : fl_I) (l : fl_L) : Prop :=
  (p_X11_isPicker fu v0 s l) ∧ ((((f_X11_isPicker fu v0 s l) = 0) → True) ∧ (¬ ((f_X11_isPicker fu v0 s l) = 0) → (((v1 < (1 : Int32)) → True) ∧ (¬ (v1 < (1 : Int32)) → ((((12 : Int32) < v1) → True) ∧ (¬ ((12 : Int32) < v1) → (((v2 < 0) → True) ∧ (¬ (v2 < 0) → (((v2 ≤ (1 : Int32)) → p_X11_stand_38 fu fu v0 v1 v2 (1000000 : Int32) (0 : Int32) D s l) ∧ (¬ (v2 ≤ (1 : Int32)) → True))))))))))

set_option maxRecDepth 100000 in
set_option maxHeartbeats 1000000 in
theorem s_X11_stand {G : ab_G} {fu : Nat} {d : Nat} {D : fl_D} {s : fl_I} {l : fl_L} {v0 : Int32} {v1 : Int32} {v2 : Int32} (hk : p_X11_stand fu v0 v1 v2 D s l) : ab_C G (d + 5) 0 0 M_X11_stand 0 (ab_ent [.ref 0, .int v0, .int v1, .int v2]) [] (hp D s l) (rt (some (.int (f_X11_stand fu v0 v1 v2 D s l).1)) (hp D (f_X11_stand fu v0 v1 v2 D s l).2.1 (f_X11_stand fu v0 v1 v2 D s l).2.2)) := by
  generalize he : (f_X11_stand fu v0 v1 v2 D s l) = res
  unfold f_X11_stand at he
  unfold p_X11_stand at hk
  refine r_weak (L1 := [some (.ref 0), some (.int v0), some (.int v1), some (.int v2), none, none]) ⟨rfl, rfl, rfl, rfl, trivial⟩ ?_
  refine r_aload_n rfl rfl ?_
  refine r_iload_n rfl rfl ?_
  obtain ⟨hb0, hk⟩ := hk
  refine q_callV0 [_] _ rfl kY_X11_isPicker kT_X11_isPicker rfl rfl (Nat.le_of_ble_eq_true rfl) (Nat.le_of_ble_eq_true rfl) (cc_0 _) (s_X11_isPicker hb0) (fun r h q => ?_)
  obtain ⟨rfl, rfl⟩ := q
  simp only [Option.toList, List.cons_append, List.nil_append]
  refine r_if_eq rfl (fun c_5 => ?_) (fun c_5 => ?_)
  · rw [if_pos c_5] at he
    replace hk := hk.1 c_5
    refine r_iconst_ (a := -1) rfl (by decide) ?_
    refine r_iret rfl rfl rfl ?_
    first | with_reducible exact fin_i he | exact fin_i he
  · rw [if_neg c_5] at he
    replace hk := hk.2 c_5
    refine r_iload_n rfl rfl ?_
    refine r_iconst_ (a := 1) rfl (by decide) ?_
    refine r_icmp_lt rfl (fun c_10 => ?_) (fun c_10 => ?_)
    · rw [if_pos c_10] at he
      replace hk := hk.1 c_10
      refine r_iconst_ (a := -1) rfl (by decide) ?_
      refine r_iret rfl rfl rfl ?_
      first | with_reducible exact fin_i he | exact fin_i he
    · rw [if_neg c_10] at he
      replace hk := hk.2 c_10
      refine r_iload_n rfl rfl ?_
      refine r_bipush_ (a := 12) rfl (by decide) ?_
      refine r_icmp_gt rfl (fun c_16 => ?_) (fun c_16 => ?_)
      · rw [if_pos c_16] at he
        replace hk := hk.1 c_16
        refine r_iconst_ (a := -1) rfl (by decide) ?_
        refine r_iret rfl rfl rfl ?_
        first | with_reducible exact fin_i he | exact fin_i he
      · rw [if_neg c_16] at he
        replace hk := hk.2 c_16
        refine r_iload_n rfl rfl ?_
        refine r_if_lt rfl (fun c_20 => ?_) (fun c_20 => ?_)
        · rw [if_pos c_20] at he
          replace hk := hk.1 c_20
          refine r_iconst_ (a := -1) rfl (by decide) ?_
          refine r_iret rfl rfl rfl ?_
          first | with_reducible exact fin_i he | exact fin_i he
        · rw [if_neg c_20] at he
          replace hk := hk.2 c_20
          refine r_iload_n rfl rfl ?_
          refine r_iconst_ (a := 1) rfl (by decide) ?_
          refine r_icmp_le rfl (fun c_25 => ?_) (fun c_25 => ?_)
          · rw [if_pos c_25] at he
            replace hk := hk.1 c_25
            refine r_ldc_w rfl ?_
            refine r_istore rfl (Nat.le_of_ble_eq_true rfl) rfl ?_
            refine r_iconst_ (a := 0) rfl (by decide) ?_
            refine r_istore rfl (Nat.le_of_ble_eq_true rfl) rfl ?_
            subst he
            exact r_weak (L1 := [some (.ref 0), some (.int v0), some (.int v1), some (.int v2), some (.int (1000000 : Int32)), some (.int (0 : Int32))]) ⟨rfl, rfl, rfl, rfl, rfl, rfl, trivial⟩ (lp_X11_stand_38 fu _ _ _ _ _ _ _ hk)
          · rw [if_neg c_25] at he
            replace hk := hk.2 c_25
            refine r_iconst_ (a := -1) rfl (by decide) ?_
            refine r_iret rfl rfl rfl ?_
            first | with_reducible exact fin_i he | exact fin_i he

