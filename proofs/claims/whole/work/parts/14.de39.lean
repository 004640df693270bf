def f_X11_count (fu : Nat) (v0 : Int32) (D : fl_D) (s : fl_I) (l : fl_L) : Int32 × fl_I × fl_L :=
  if (v0 = 0) then ((s (if D.2.2.1 then 20 else 9) 0), s, l) else if (v0 = 1) then ((s (if D.2.2.1 then 20 else 9) 3), s, l) else if (v0 = 2) then ((s (if D.2.2.1 then 20 else 9) 1), s, l) else if (v0 = 3) then ((s (if D.2.2.1 then 20 else 9) 2), s, l) else if (v0 = 4) then ((s 31 0), s, l) else if (v0 = 5) then ((f_X10_countLying fu 31 s l), s, l) else if (v0 = 6) then ((f_X10_countCells fu 31 59 s l).1, (f_X10_countCells fu 31 59 s l).2.1, (f_X10_countCells fu 31 59 s l).2.2) else if (v0 = 7) then ((f_X11_owedToAll fu D s l).1, (f_X11_owedToAll fu D s l).2.1, (f_X11_owedToAll fu D s l).2.2) else if (v0 = 8) then ((s 1 1), s, l) else if (v0 = 9) then ((s 43 0), s, l) else if (v0 = 10) then ((s 57 0), s, l) else if (v0 = 11) then ((f_J6_bitCount_0f7a4 fu (s 0 8)), s, l) else if (v0 = 12) then if ((f_X11_rains fu (s (if D.2.2.1 then 20 else 9) 18) (s 31 0) (if D.2.2.1 then 20 else 9) s l) = 0) then ((0 : Int32), s, l) else ((1 : Int32), s, l) else if (v0 = 13) then ((f_X11_pickersWithGoal fu s l), s, l) else if (v0 = 14) then ((f_X11_pickersWithFullHat fu D s l), s, l) else ((-1 : Int32), s, l)

def p_X11_count (fu : Nat) (v0 : Int32) (D : fl_D) (s : fl_I) (l : fl_L) : Prop :=
  (((v0 = 0) → True) ∧ (¬ (v0 = 0) → (((v0 = 1) → True) ∧ (¬ (v0 = 1) → (((v0 = 2) → True) ∧ (¬ (v0 = 2) → (((v0 = 3) → True) ∧ (¬ (v0 = 3) → (((v0 = 4) → True) ∧ (¬ (v0 = 4) → (((v0 = 5) → (p_X10_countLying fu 31 s l) ∧ True) ∧ (¬ (v0 = 5) → (((v0 = 6) → (p_X10_countCells fu 31 59 s l) ∧ True) ∧ (¬ (v0 = 6) → (((v0 = 7) → (p_X11_owedToAll fu D s l) ∧ True) ∧ (¬ (v0 = 7) → (((v0 = 8) → True) ∧ (¬ (v0 = 8) → (((v0 = 9) → True) ∧ (¬ (v0 = 9) → (((v0 = 10) → True) ∧ (¬ (v0 = 10) → (((v0 = 11) → (p_J6_bitCount_0f7a4 fu (s 0 8)) ∧ True) ∧ (¬ (v0 = 11) → (((v0 = 12) → (p_X11_rains fu (s (if D.2.2.1 then 20 else 9) 18) (s 31 0) (if D.2.2.1 then 20 else 9) s l) ∧ ((((f_X11_rains fu (s (if D.2.2.1 then 20 else 9) 18) (s 31 0) (if D.2.2.1 then 20 else 9) s l) = 0) → True) ∧ (¬ ((f_X11_rains fu (s (if D.2.2.1 then 20 else 9) 18) (s 31 0) (if D.2.2.1 then 20 else 9) s l) = 0) → True))) ∧ (¬ (v0 = 12) → (((v0 = 13) → (p_X11_pickersWithGoal fu s l) ∧ True) ∧ (¬ (v0 = 13) → (((v0 = 14) → (p_X11_pickersWithFullHat fu D s l) ∧ True) ∧ (¬ (v0 = 14) → True))))))))))))))))))))))))))))))

set_option maxRecDepth 100000 in
set_option maxHeartbeats 1000000 in
theorem s_X11_count {G : ab_G} {fu : Nat} {d : Nat} {D : fl_D} {s : fl_I} {l : fl_L} {v0 : Int32} (hk : p_X11_count fu v0 D s l) : ab_C G (d + 5) 0 0 M_X11_count 0 (ab_ent [.ref 0, .int v0]) [] (hp D s l) (rt (some (.int (f_X11_count fu v0 D s l).1)) (hp D (f_X11_count fu v0 D s l).2.1 (f_X11_count fu v0 D s l).2.2)) := by
  generalize he : (f_X11_count fu v0 D s l) = res
  unfold f_X11_count at he
  unfold p_X11_count at hk
  refine r_weak (L1 := [some (.ref 0), some (.int v0)]) ⟨rfl, rfl, trivial⟩ ?_
  refine r_iload_n rfl rfl ?_
  by_cases c_1_0 : (v0 = 0)
  · rw [if_pos c_1_0] at he
    replace hk := hk.1 c_1_0
    refine r_tableIn (tgt := 76) rfl (by rw [c_1_0]; decide) (by rw [c_1_0]; decide) (by rw [c_1_0]; rfl) (by decide) ?_
    refine r_aload_n rfl rfl ?_
    refine q_getfield rfl (cc_0 _) rfl ?_
    refine q_getfield rfl (cT_0 (isT_l _)) rfl ?_
    refine r_iret rfl rfl rfl ?_
    first | with_reducible exact fin_i he | exact fin_i he
  · rw [if_neg c_1_0] at he
    replace hk := hk.2 c_1_0
    by_cases c_1_1 : (v0 = 1)
    · rw [if_pos c_1_1] at he
      replace hk := hk.1 c_1_1
      refine r_tableIn (tgt := 84) rfl (by rw [c_1_1]; decide) (by rw [c_1_1]; decide) (by rw [c_1_1]; rfl) (by decide) ?_
      refine r_aload_n rfl rfl ?_
      refine q_getfield rfl (cc_0 _) rfl ?_
      refine q_getfield rfl (cT_0 (isT_l _)) rfl ?_
      refine r_iret rfl rfl rfl ?_
      first | with_reducible exact fin_i he | exact fin_i he
    · rw [if_neg c_1_1] at he
      replace hk := hk.2 c_1_1
      by_cases c_1_2 : (v0 = 2)
      · rw [if_pos c_1_2] at he
        replace hk := hk.1 c_1_2
        refine r_tableIn (tgt := 92) rfl (by rw [c_1_2]; decide) (by rw [c_1_2]; decide) (by rw [c_1_2]; rfl) (by decide) ?_
        refine r_aload_n rfl rfl ?_
        refine q_getfield rfl (cc_0 _) rfl ?_
        refine q_getfield rfl (cT_0 (isT_l _)) rfl ?_
        refine r_iret rfl rfl rfl ?_
        first | with_reducible exact fin_i he | exact fin_i he
      · rw [if_neg c_1_2] at he
        replace hk := hk.2 c_1_2
        by_cases c_1_3 : (v0 = 3)
        · rw [if_pos c_1_3] at he
          replace hk := hk.1 c_1_3
          refine r_tableIn (tgt := 100) rfl (by rw [c_1_3]; decide) (by rw [c_1_3]; decide) (by rw [c_1_3]; rfl) (by decide) ?_
          refine r_aload_n rfl rfl ?_
          refine q_getfield rfl (cc_0 _) rfl ?_
          refine q_getfield rfl (cT_0 (isT_l _)) rfl ?_
          refine r_iret rfl rfl rfl ?_
          first | with_reducible exact fin_i he | exact fin_i he
        · rw [if_neg c_1_3] at he
          replace hk := hk.2 c_1_3
          by_cases c_1_4 : (v0 = 4)
          · rw [if_pos c_1_4] at he
            replace hk := hk.1 c_1_4
            refine r_tableIn (tgt := 108) rfl (by rw [c_1_4]; decide) (by rw [c_1_4]; decide) (by rw [c_1_4]; rfl) (by decide) ?_
            refine r_aload_n rfl rfl ?_
            refine q_getfield rfl (cc_0 _) rfl ?_
            refine q_getfield rfl (cc_31 _) rfl ?_
            refine r_iret rfl rfl rfl ?_
            first | with_reducible exact fin_i he | exact fin_i he
          · rw [if_neg c_1_4] at he
            replace hk := hk.2 c_1_4
            by_cases c_1_5 : (v0 = 5)
            · rw [if_pos c_1_5] at he
              replace hk := hk.1 c_1_5
              refine r_tableIn (tgt := 116) rfl (by rw [c_1_5]; decide) (by rw [c_1_5]; decide) (by rw [c_1_5]; rfl) (by decide) ?_
              refine r_aload_n rfl rfl ?_
              refine q_getfield rfl (cc_0 _) rfl ?_
              obtain ⟨hb0, hk⟩ := hk
              refine q_callV0 [] _ rfl kY_X10_countLying kT_X10_countLying rfl rfl (Nat.le_of_ble_eq_true rfl) (Nat.le_of_ble_eq_true rfl) (cc_31 _) (s_X10_countLying (Or.inl rfl) hb0) (fun r h q => ?_)
              obtain ⟨rfl, rfl⟩ := q
              simp only [Option.toList, List.cons_append, List.nil_append]
              refine r_iret rfl rfl rfl ?_
              first | with_reducible exact fin_i he | exact fin_i he
            · rw [if_neg c_1_5] at he
              replace hk := hk.2 c_1_5
              by_cases c_1_6 : (v0 = 6)
              · rw [if_pos c_1_6] at he
                replace hk := hk.1 c_1_6
                refine r_tableIn (tgt := 124) rfl (by rw [c_1_6]; decide) (by rw [c_1_6]; decide) (by rw [c_1_6]; rfl) (by decide) ?_
                refine r_aload_n rfl rfl ?_
                refine q_getfield rfl (cc_0 _) rfl ?_
                refine r_aload_n rfl rfl ?_
                refine q_getfield rfl (cc_0 _) rfl ?_
                obtain ⟨hb1, hk⟩ := hk
                refine q_callV0 [_] _ rfl kY_X10_countCells kT_X10_countCells rfl rfl (Nat.le_of_ble_eq_true rfl) (Nat.le_of_ble_eq_true rfl) (cc_31 _) (s_X10_countCells (Or.inl rfl) (cc_59 _) hb1) (fun r h q => ?_)
                obtain ⟨rfl, rfl⟩ := q
                simp only [Option.toList, List.cons_append, List.nil_append]
                refine r_iret rfl rfl rfl ?_
                first | with_reducible exact fin_i he | exact fin_i he
              · rw [if_neg c_1_6] at he
                replace hk := hk.2 c_1_6
                by_cases c_1_7 : (v0 = 7)
                · rw [if_pos c_1_7] at he
                  replace hk := hk.1 c_1_7
                  refine r_tableIn (tgt := 136) rfl (by rw [c_1_7]; decide) (by rw [c_1_7]; decide) (by rw [c_1_7]; rfl) (by decide) ?_
                  refine r_aload_n rfl rfl ?_
                  obtain ⟨hb2, hk⟩ := hk
                  refine q_callV0 [] _ rfl kY_X11_owedToAll kT_X11_owedToAll rfl rfl (Nat.le_of_ble_eq_true rfl) (Nat.le_of_ble_eq_true rfl) (cc_0 _) (s_X11_owedToAll hb2) (fun r h q => ?_)
                  obtain ⟨rfl, rfl⟩ := q
                  simp only [Option.toList, List.cons_append, List.nil_append]
                  refine r_iret rfl rfl rfl ?_
                  first | with_reducible exact fin_i he | exact fin_i he
                · rw [if_neg c_1_7] at he
                  replace hk := hk.2 c_1_7
                  by_cases c_1_8 : (v0 = 8)
                  · rw [if_pos c_1_8] at he
                    replace hk := hk.1 c_1_8
                    refine r_tableIn (tgt := 141) rfl (by rw [c_1_8]; decide) (by rw [c_1_8]; decide) (by rw [c_1_8]; rfl) (by decide) ?_
                    refine r_aload_n rfl rfl ?_
                    refine q_getfield rfl (cc_0 _) rfl ?_
                    refine q_getfield rfl (cc_1 _) rfl ?_
                    refine r_iret rfl rfl rfl ?_
                    first | with_reducible exact fin_i he | exact fin_i he
                  · rw [if_neg c_1_8] at he
                    replace hk := hk.2 c_1_8
                    by_cases c_1_9 : (v0 = 9)
                    · rw [if_pos c_1_9] at he
                      replace hk := hk.1 c_1_9
                      refine r_tableIn (tgt := 149) rfl (by rw [c_1_9]; decide) (by rw [c_1_9]; decide) (by rw [c_1_9]; rfl) (by decide) ?_
                      refine r_aload_n rfl rfl ?_
                      refine q_getfield rfl (cc_0 _) rfl ?_
                      refine q_getfield rfl (cc_43 _) rfl ?_
                      refine r_iret rfl rfl rfl ?_
                      first | with_reducible exact fin_i he | exact fin_i he
                    · rw [if_neg c_1_9] at he
                      replace hk := hk.2 c_1_9
                      by_cases c_1_10 : (v0 = 10)
                      · rw [if_pos c_1_10] at he
                        replace hk := hk.1 c_1_10
                        refine r_tableIn (tgt := 157) rfl (by rw [c_1_10]; decide) (by rw [c_1_10]; decide) (by rw [c_1_10]; rfl) (by decide) ?_
                        refine r_aload_n rfl rfl ?_
                        refine q_getfield rfl (cc_0 _) rfl ?_
                        refine q_getfield rfl (cc_57 _) rfl ?_
                        refine r_iret rfl rfl rfl ?_
                        first | with_reducible exact fin_i he | exact fin_i he
                      · rw [if_neg c_1_10] at he
                        replace hk := hk.2 c_1_10
                        by_cases c_1_11 : (v0 = 11)
                        · rw [if_pos c_1_11] at he
                          replace hk := hk.1 c_1_11
                          refine r_tableIn (tgt := 165) rfl (by rw [c_1_11]; decide) (by rw [c_1_11]; decide) (by rw [c_1_11]; rfl) (by decide) ?_
                          refine r_aload_n rfl rfl ?_
                          refine q_getfield rfl (cc_0 _) rfl ?_
                          obtain ⟨hb3, hk⟩ := hk
                          refine r_callS0 [_] _ rfl kY_J6_bitCount_0f7a4 kT_J6_bitCount_0f7a4 rfl rfl (Nat.le_of_ble_eq_true rfl) (Nat.le_of_ble_eq_true rfl) (s_J6_bitCount_0f7a4 hb3) (fun r h q => ?_)
                          obtain ⟨rfl, rfl⟩ := q
                          simp only [Option.toList, List.cons_append, List.nil_append]
                          refine r_iret rfl rfl rfl ?_
                          first | with_reducible exact fin_i he | exact fin_i he
                        · rw [if_neg c_1_11] at he
                          replace hk := hk.2 c_1_11
                          by_cases c_1_12 : (v0 = 12)
                          · rw [if_pos c_1_12] at he
                            replace hk := hk.1 c_1_12
                            refine r_tableIn (tgt := 173) rfl (by rw [c_1_12]; decide) (by rw [c_1_12]; decide) (by rw [c_1_12]; rfl) (by decide) ?_
                            refine r_aload_n rfl rfl ?_
                            refine q_getfield rfl (cc_0 _) rfl ?_
                            refine r_aload_n rfl rfl ?_
                            refine q_getfield rfl (cc_0 _) rfl ?_
                            refine q_getfield rfl (cT_0 (isT_l _)) rfl ?_
                            refine r_aload_n rfl rfl ?_
                            refine q_getfield rfl (cc_0 _) rfl ?_
                            refine q_getfield rfl (cc_31 _) rfl ?_
                            obtain ⟨hb4, hk⟩ := hk
                            refine r_callS0 [_, _, _] _ rfl kY_X11_rains kT_X11_rains rfl rfl (Nat.le_of_ble_eq_true rfl) (Nat.le_of_ble_eq_true rfl) (s_X11_rains (isT_l _) hb4) (fun r h q => ?_)
                            obtain ⟨rfl, rfl⟩ := q
                            simp only [Option.toList, List.cons_append, List.nil_append]
                            refine r_if_eq rfl (fun c_194 => ?_) (fun c_194 => ?_)
                            · rw [if_pos c_194] at he
                              replace hk := hk.1 c_194
                              refine r_iconst_ (a := 0) rfl (by decide) ?_
                              refine r_iret rfl rfl rfl ?_
                              first | with_reducible exact fin_i he | exact fin_i he
                            · rw [if_neg c_194] at he
                              replace hk := hk.2 c_194
                              refine r_iconst_ (a := 1) rfl (by decide) ?_
                              refine r_goto rfl ?_
                              refine r_iret rfl rfl rfl ?_
                              first | with_reducible exact fin_i he | exact fin_i he
                          · rw [if_neg c_1_12] at he
                            replace hk := hk.2 c_1_12
                            by_cases c_1_13 : (v0 = 13)
                            · rw [if_pos c_1_13] at he
                              replace hk := hk.1 c_1_13
                              refine r_tableIn (tgt := 203) rfl (by rw [c_1_13]; decide) (by rw [c_1_13]; decide) (by rw [c_1_13]; rfl) (by decide) ?_
                              refine r_aload_n rfl rfl ?_
                              obtain ⟨hb5, hk⟩ := hk
                              refine q_callV0 [] _ rfl kY_X11_pickersWithGoal kT_X11_pickersWithGoal rfl rfl (Nat.le_of_ble_eq_true rfl) (Nat.le_of_ble_eq_true rfl) (cc_0 _) (s_X11_pickersWithGoal hb5) (fun r h q => ?_)
                              obtain ⟨rfl, rfl⟩ := q
                              simp only [Option.toList, List.cons_append, List.nil_append]
                              refine r_iret rfl rfl rfl ?_
                              first | with_reducible exact fin_i he | exact fin_i he
                            · rw [if_neg c_1_13] at he
                              replace hk := hk.2 c_1_13
                              by_cases c_1_14 : (v0 = 14)
                              · rw [if_pos c_1_14] at he
                                replace hk := hk.1 c_1_14
                                refine r_tableIn (tgt := 208) rfl (by rw [c_1_14]; decide) (by rw [c_1_14]; decide) (by rw [c_1_14]; rfl) (by decide) ?_
                                refine r_aload_n rfl rfl ?_
                                obtain ⟨hb6, hk⟩ := hk
                                refine q_callV0 [] _ rfl kY_X11_pickersWithFullHat kT_X11_pickersWithFullHat rfl rfl (Nat.le_of_ble_eq_true rfl) (Nat.le_of_ble_eq_true rfl) (cc_0 _) (s_X11_pickersWithFullHat hb6) (fun r h q => ?_)
                                obtain ⟨rfl, rfl⟩ := q
                                simp only [Option.toList, List.cons_append, List.nil_append]
                                refine r_iret rfl rfl rfl ?_
                                first | with_reducible exact fin_i he | exact fin_i he
                              · rw [if_neg c_1_14] at he
                                replace hk := hk.2 c_1_14
                                refine r_tableOut (tgt := 213) rfl (by simp only [Int32.lt_iff_toInt_lt, Int32.le_iff_toInt_le, ← Int32.toInt_inj, ti_0, ti_1, ti_2, ti_3, ti_4, ti_5, ti_6, ti_7, ti_8, ti_9, ti_10, ti_11, ti_12, ti_13, ti_14, ti_15, ti_16, ti_17, ti_18, ti_19, ti_20, ti_21, ti_22, ti_23, ti_24, ti_25, ti_26, ti_27, ti_28, ti_29, ti_30, ti_31, ti_32, ti_33, ti_34, ti_35, ti_36, ti_37, ti_38, ti_39, ti_40, ti_41, ti_42, ti_43, ti_44, ti_45, ti_46, ti_47, ti_48, ti_49, ti_50, ti_51, ti_52, ti_53, ti_54, ti_55, ti_56, ti_57, ti_58, ti_59, ti_60, ti_61, ti_62, ti_63, ti_64, ti_79, ti_80, ti_90, ti_96, ti_97, ti_99, ti_100, ti_122, ti_128, ti_132, ti_136, ti_140, ti_141, ti_145, ti_255, ti_256, ti_257, ti_258, ti_259, ti_260, ti_261, ti_262, ti_263, ti_264, ti_265, ti_266, ti_267, ti_268, ti_269, ti_270, ti_271, ti_272, ti_273, ti_274, ti_275, ti_276, ti_277, ti_278, ti_400, ti_401, ti_408, ti_420, ti_840, ti_999, ti_1980, ti_2000, ti_9999, ti_10000, ti_10240, ti_1000000, ti_m1, ti_m2, ti_m3, ti_m4, ti_m5, ti_m6, ti_m7] at c_1_0 c_1_1 c_1_2 c_1_3 c_1_4 c_1_5 c_1_6 c_1_7 c_1_8 c_1_9 c_1_10 c_1_11 c_1_12 c_1_13 c_1_14; omega) (by decide) ?_
                                refine r_iconst_ (a := -1) rfl (by decide) ?_
                                refine r_iret rfl rfl rfl ?_
                                first | with_reducible exact fin_i he | exact fin_i he

