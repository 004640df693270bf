def f_J6_compare_7cf53 (fu : Nat) (v0 : Int32) (v1 : Int32) : Int32 :=
  if (v1 ≤ v0) then if (v0 = v1) then (0 : Int32) else (1 : Int32) else (-1 : Int32)

def p_J6_compare_7cf53 (fu : Nat) (v0 : Int32) (v1 : Int32) : Prop :=
  (((v1 ≤ v0) → (((v0 = v1) → True) ∧ (¬ (v0 = v1) → True))) ∧ (¬ (v1 ≤ v0) → True))

set_option maxRecDepth 100000 in
set_option maxHeartbeats 1000000 in
theorem s_J6_compare_7cf53 {G : ab_G} {fu : Nat} {d : Nat} {h : ab_H} {v0 : Int32} {v1 : Int32} (hk : p_J6_compare_7cf53 fu v0 v1) : ab_C G d 0 0 M_J6_compare_7cf53 0 (ab_ent [.int v0, .int v1]) [] h (rt (some (.int (f_J6_compare_7cf53 fu v0 v1))) h) := by
  generalize he : (f_J6_compare_7cf53 fu v0 v1) = res
  unfold f_J6_compare_7cf53 at he
  unfold p_J6_compare_7cf53 at hk
  refine r_weak (L1 := [some (.int v0), some (.int v1)]) ⟨rfl, rfl, trivial⟩ ?_
  refine r_iload_n rfl rfl ?_
  refine r_iload_n rfl rfl ?_
  refine r_icmp_ge rfl (fun c_2 => ?_) (fun c_2 => ?_)
  · rw [if_pos c_2] at he
    replace hk := hk.1 c_2
    refine r_iload_n rfl rfl ?_
    refine r_iload_n rfl rfl ?_
    refine r_icmp_ne rfl (fun c_11 => ?_) (fun c_11 => ?_)
    · rw [if_neg c_11] at he
      replace hk := hk.2 c_11
      refine r_iconst_ (a := 1) rfl (by decide) ?_
      refine r_iret rfl rfl rfl ?_
      first | with_reducible exact fin_ri he | exact fin_ri he
    · rw [if_pos c_11] at he
      replace hk := hk.1 c_11
      refine r_iconst_ (a := 0) rfl (by decide) ?_
      refine r_goto rfl ?_
      refine r_iret rfl rfl rfl ?_
      first | with_reducible exact fin_ri he | exact fin_ri he
  · rw [if_neg c_2] at he
    replace hk := hk.2 c_2
    refine r_iconst_ (a := -1) rfl (by decide) ?_
    refine r_goto rfl ?_
    refine r_iret rfl rfl rfl ?_
    first | with_reducible exact fin_ri he | exact fin_ri he

def f_J6_bitCount_0f7a4 (fu : Nat) (v0 : Int32) : Int32 :=
  ((((((((v0 - ((i_ushr v0 (1 : Int32)) &&& (1431655765 : Int32))) &&& (858993459 : Int32)) + ((i_ushr (v0 - ((i_ushr v0 (1 : Int32)) &&& (1431655765 : Int32))) (2 : Int32)) &&& (858993459 : Int32))) + (i_ushr (((v0 - ((i_ushr v0 (1 : Int32)) &&& (1431655765 : Int32))) &&& (858993459 : Int32)) + ((i_ushr (v0 - ((i_ushr v0 (1 : Int32)) &&& (1431655765 : Int32))) (2 : Int32)) &&& (858993459 : Int32))) (4 : Int32))) &&& (252645135 : Int32)) + (i_ushr (((((v0 - ((i_ushr v0 (1 : Int32)) &&& (1431655765 : Int32))) &&& (858993459 : Int32)) + ((i_ushr (v0 - ((i_ushr v0 (1 : Int32)) &&& (1431655765 : Int32))) (2 : Int32)) &&& (858993459 : Int32))) + (i_ushr (((v0 - ((i_ushr v0 (1 : Int32)) &&& (1431655765 : Int32))) &&& (858993459 : Int32)) + ((i_ushr (v0 - ((i_ushr v0 (1 : Int32)) &&& (1431655765 : Int32))) (2 : Int32)) &&& (858993459 : Int32))) (4 : Int32))) &&& (252645135 : Int32)) (8 : Int32))) + (i_ushr ((((((v0 - ((i_ushr v0 (1 : Int32)) &&& (1431655765 : Int32))) &&& (858993459 : Int32)) + ((i_ushr (v0 - ((i_ushr v0 (1 : Int32)) &&& (1431655765 : Int32))) (2 : Int32)) &&& (858993459 : Int32))) + (i_ushr (((v0 - ((i_ushr v0 (1 : Int32)) &&& (1431655765 : Int32))) &&& (858993459 : Int32)) + ((i_ushr (v0 - ((i_ushr v0 (1 : Int32)) &&& (1431655765 : Int32))) (2 : Int32)) &&& (858993459 : Int32))) (4 : Int32))) &&& (252645135 : Int32)) + (i_ushr (((((v0 - ((i_ushr v0 (1 : Int32)) &&& (1431655765 : Int32))) &&& (858993459 : Int32)) + ((i_ushr (v0 - ((i_ushr v0 (1 : Int32)) &&& (1431655765 : Int32))) (2 : Int32)) &&& (858993459 : Int32))) + (i_ushr (((v0 - ((i_ushr v0 (1 : Int32)) &&& (1431655765 : Int32))) &&& (858993459 : Int32)) + ((i_ushr (v0 - ((i_ushr v0 (1 : Int32)) &&& (1431655765 : Int32))) (2 : Int32)) &&& (858993459 : Int32))) (4 : Int32))) &&& (252645135 : Int32)) (8 : Int32))) (16 : Int32))) &&& (63 : Int32))

def p_J6_bitCount_0f7a4 (fu : Nat) (v0 : Int32) : Prop :=
  True

set_option maxRecDepth 100000 in
set_option maxHeartbeats 1000000 in
theorem s_J6_bitCount_0f7a4 {G : ab_G} {fu : Nat} {d : Nat} {h : ab_H} {v0 : Int32} (hk : p_J6_bitCount_0f7a4 fu v0) : ab_C G d 0 0 M_J6_bitCount_0f7a4 0 (ab_ent [.int v0]) [] h (rt (some (.int (f_J6_bitCount_0f7a4 fu v0))) h) := by
  generalize he : (f_J6_bitCount_0f7a4 fu v0) = res
  unfold f_J6_bitCount_0f7a4 at he
  unfold p_J6_bitCount_0f7a4 at hk
  refine r_weak (L1 := [some (.int v0)]) ⟨rfl, trivial⟩ ?_
  refine r_iload_n rfl rfl ?_
  refine r_iload_n rfl rfl ?_
  refine r_iconst_ (a := 1) rfl (by decide) ?_
  refine r_iushr rfl ?_
  refine r_ldc_w rfl ?_
  refine r_iand rfl ?_
  refine r_isub rfl ?_
  refine r_istore_n rfl (Nat.le_of_ble_eq_true rfl) rfl ?_
  refine r_iload_n rfl rfl ?_
  refine r_ldc_w rfl ?_
  refine r_iand rfl ?_
  refine r_iload_n rfl rfl ?_
  refine r_iconst_ (a := 2) rfl (by decide) ?_
  refine r_iushr rfl ?_
  refine r_ldc_w rfl ?_
  refine r_iand rfl ?_
  refine r_iadd rfl ?_
  refine r_istore_n rfl (Nat.le_of_ble_eq_true rfl) rfl ?_
  refine r_iload_n rfl rfl ?_
  refine r_iload_n rfl rfl ?_
  refine r_iconst_ (a := 4) rfl (by decide) ?_
  refine r_iushr rfl ?_
  refine r_iadd rfl ?_
  refine r_ldc_w rfl ?_
  refine r_iand rfl ?_
  refine r_istore_n rfl (Nat.le_of_ble_eq_true rfl) rfl ?_
  refine r_iload_n rfl rfl ?_
  refine r_iload_n rfl rfl ?_
  refine r_bipush_ (a := 8) rfl (by decide) ?_
  refine r_iushr rfl ?_
  refine r_iadd rfl ?_
  refine r_istore_n rfl (Nat.le_of_ble_eq_true rfl) rfl ?_
  refine r_iload_n rfl rfl ?_
  refine r_iload_n rfl rfl ?_
  refine r_bipush_ (a := 16) rfl (by decide) ?_
  refine r_iushr rfl ?_
  refine r_iadd rfl ?_
  refine r_istore_n rfl (Nat.le_of_ble_eq_true rfl) rfl ?_
  refine r_iload_n rfl rfl ?_
  refine r_bipush_ (a := 63) rfl (by decide) ?_
  refine r_iand rfl ?_
  refine r_iret rfl rfl rfl ?_
  first | with_reducible exact fin_ri he | exact fin_ri he

def f_X11_place (fu : Nat) (s : fl_I) (l : fl_L) : Int32 :=
  (s 0 14)

def p_X11_place (fu : Nat) (s : fl_I) (l : fl_L) : Prop :=
  True

set_option maxRecDepth 100000 in
set_option maxHeartbeats 1000000 in
theorem s_X11_place {G : ab_G} {fu : Nat} {d : Nat} {D : fl_D} {s : fl_I} {l : fl_L}  (hk : p_X11_place fu s l) : ab_C G d 0 0 M_X11_place 0 (ab_ent [.ref 0]) [] (hp D s l) (rt (some (.int (f_X11_place fu s l))) (hp D s l)) := by
  generalize he : (f_X11_place fu s l) = res
  unfold f_X11_place at he
  unfold p_X11_place at hk
  refine r_weak (L1 := [some (.ref 0)]) ⟨rfl, trivial⟩ ?_
  refine r_aload_n rfl rfl ?_
  refine q_getfield rfl (cc_0 _) rfl ?_
  refine r_iret rfl rfl rfl ?_
  first | with_reducible exact fin_ri he | exact fin_ri he

def f_X12_place (fu : Nat) (s : fl_I) (l : fl_L) : Int32 :=
  (s 60 17)

def p_X12_place (fu : Nat) (s : fl_I) (l : fl_L) : Prop :=
  True

set_option maxRecDepth 100000 in
set_option maxHeartbeats 1000000 in
theorem s_X12_place {G : ab_G} {fu : Nat} {d : Nat} {D : fl_D} {s : fl_I} {l : fl_L}  (hk : p_X12_place fu s l) : ab_C G d 0 0 M_X12_place 0 (ab_ent [.ref 60]) [] (hp D s l) (rt (some (.int (f_X12_place fu s l))) (hp D s l)) := by
  generalize he : (f_X12_place fu s l) = res
  unfold f_X12_place at he
  unfold p_X12_place at hk
  refine r_weak (L1 := [some (.ref 60)]) ⟨rfl, trivial⟩ ?_
  refine r_aload_n rfl rfl ?_
  refine q_getfield rfl (cc_60 _) rfl ?_
  refine r_iret rfl rfl rfl ?_
  first | with_reducible exact fin_ri he | exact fin_ri he

def f_X6_isSign (fu : Nat) (v0 : Int32) : Int32 :=
  if (v0 = 40) then (1 : Int32) else if (v0 = 41) then (1 : Int32) else if (v0 = 42) then (1 : Int32) else if (v0 = 43) then (1 : Int32) else if (v0 = 44) then (0 : Int32) else if (v0 = 45) then (1 : Int32) else if (v0 = 46) then (0 : Int32) else if (v0 = 47) then (1 : Int32) else if (v0 = 48) then (0 : Int32) else if (v0 = 49) then (0 : Int32) else if (v0 = 50) then (0 : Int32) else if (v0 = 51) then (0 : Int32) else if (v0 = 52) then (0 : Int32) else if (v0 = 53) then (0 : Int32) else if (v0 = 54) then (0 : Int32) else if (v0 = 55) then (0 : Int32) else if (v0 = 56) then (0 : Int32) else if (v0 = 57) then (0 : Int32) else if (v0 = 58) then (0 : Int32) else if (v0 = 59) then (1 : Int32) else if (v0 = 60) then (1 : Int32) else if (v0 = 61) then (1 : Int32) else (0 : Int32)

def p_X6_isSign (fu : Nat) (v0 : Int32) : Prop :=
  (((v0 = 40) → True) ∧ (¬ (v0 = 40) → (((v0 = 41) → True) ∧ (¬ (v0 = 41) → (((v0 = 42) → True) ∧ (¬ (v0 = 42) → (((v0 = 43) → True) ∧ (¬ (v0 = 43) → (((v0 = 44) → True) ∧ (¬ (v0 = 44) → (((v0 = 45) → True) ∧ (¬ (v0 = 45) → (((v0 = 46) → True) ∧ (¬ (v0 = 46) → (((v0 = 47) → True) ∧ (¬ (v0 = 47) → (((v0 = 48) → True) ∧ (¬ (v0 = 48) → (((v0 = 49) → True) ∧ (¬ (v0 = 49) → (((v0 = 50) → True) ∧ (¬ (v0 = 50) → (((v0 = 51) → True) ∧ (¬ (v0 = 51) → (((v0 = 52) → True) ∧ (¬ (v0 = 52) → (((v0 = 53) → True) ∧ (¬ (v0 = 53) → (((v0 = 54) → True) ∧ (¬ (v0 = 54) → (((v0 = 55) → True) ∧ (¬ (v0 = 55) → (((v0 = 56) → True) ∧ (¬ (v0 = 56) → (((v0 = 57) → True) ∧ (¬ (v0 = 57) → (((v0 = 58) → True) ∧ (¬ (v0 = 58) → (((v0 = 59) → True) ∧ (¬ (v0 = 59) → (((v0 = 60) → True) ∧ (¬ (v0 = 60) → (((v0 = 61) → True) ∧ (¬ (v0 = 61) → True))))))))))))))))))))))))))))))))))))))))))))

set_option maxRecDepth 100000 in
set_option maxHeartbeats 1000000 in
theorem s_X6_isSign {G : ab_G} {fu : Nat} {d : Nat} {h : ab_H} {v0 : Int32} (hk : p_X6_isSign fu v0) : ab_C G d 0 0 M_X6_isSign 0 (ab_ent [.int v0]) [] h (rt (some (.int (f_X6_isSign fu v0))) h) := by
  generalize he : (f_X6_isSign fu v0) = res
  unfold f_X6_isSign at he
  unfold p_X6_isSign at hk
  refine r_weak (L1 := [some (.int v0)]) ⟨rfl, trivial⟩ ?_
  refine r_iload_n rfl rfl ?_
  by_cases c_1_40 : (v0 = 40)
  · rw [if_pos c_1_40] at he
    replace hk := hk.1 c_1_40
    refine r_tableIn (tgt := 104) rfl (by rw [c_1_40]; decide) (by rw [c_1_40]; decide) (by rw [c_1_40]; rfl) (by decide) ?_
    refine r_iconst_ (a := 1) rfl (by decide) ?_
    refine r_iret rfl rfl rfl ?_
    first | with_reducible exact fin_ri he | exact fin_ri he
  · rw [if_neg c_1_40] at he
    replace hk := hk.2 c_1_40
    by_cases c_1_41 : (v0 = 41)
    · rw [if_pos c_1_41] at he
      replace hk := hk.1 c_1_41
      refine r_tableIn (tgt := 104) rfl (by rw [c_1_41]; decide) (by rw [c_1_41]; decide) (by rw [c_1_41]; rfl) (by decide) ?_
      refine r_iconst_ (a := 1) rfl (by decide) ?_
      refine r_iret rfl rfl rfl ?_
      first | with_reducible exact fin_ri he | exact fin_ri he
    · rw [if_neg c_1_41] at he
      replace hk := hk.2 c_1_41
      by_cases c_1_42 : (v0 = 42)
      · rw [if_pos c_1_42] at he
        replace hk := hk.1 c_1_42
        refine r_tableIn (tgt := 104) rfl (by rw [c_1_42]; decide) (by rw [c_1_42]; decide) (by rw [c_1_42]; rfl) (by decide) ?_
        refine r_iconst_ (a := 1) rfl (by decide) ?_
        refine r_iret rfl rfl rfl ?_
        first | with_reducible exact fin_ri he | exact fin_ri he
      · rw [if_neg c_1_42] at he
        replace hk := hk.2 c_1_42
        by_cases c_1_43 : (v0 = 43)
        · rw [if_pos c_1_43] at he
          replace hk := hk.1 c_1_43
          refine r_tableIn (tgt := 104) rfl (by rw [c_1_43]; decide) (by rw [c_1_43]; decide) (by rw [c_1_43]; rfl) (by decide) ?_
          refine r_iconst_ (a := 1) rfl (by decide) ?_
          refine r_iret rfl rfl rfl ?_
          first | with_reducible exact fin_ri he | exact fin_ri he
        · rw [if_neg c_1_43] at he
          replace hk := hk.2 c_1_43
          by_cases c_1_44 : (v0 = 44)
          · rw [if_pos c_1_44] at he
            replace hk := hk.1 c_1_44
            refine r_tableIn (tgt := 106) rfl (by rw [c_1_44]; decide) (by rw [c_1_44]; decide) (by rw [c_1_44]; rfl) (by decide) ?_
            refine r_iconst_ (a := 0) rfl (by decide) ?_
            refine r_iret rfl rfl rfl ?_
            first | with_reducible exact fin_ri he | exact fin_ri he
          · rw [if_neg c_1_44] at he
            replace hk := hk.2 c_1_44
            by_cases c_1_45 : (v0 = 45)
            · rw [if_pos c_1_45] at he
              replace hk := hk.1 c_1_45
              refine r_tableIn (tgt := 104) rfl (by rw [c_1_45]; decide) (by rw [c_1_45]; decide) (by rw [c_1_45]; rfl) (by decide) ?_
              refine r_iconst_ (a := 1) rfl (by decide) ?_
              refine r_iret rfl rfl rfl ?_
              first | with_reducible exact fin_ri he | exact fin_ri he
            · rw [if_neg c_1_45] at he
              replace hk := hk.2 c_1_45
              by_cases c_1_46 : (v0 = 46)
              · rw [if_pos c_1_46] at he
                replace hk := hk.1 c_1_46
                refine r_tableIn (tgt := 106) rfl (by rw [c_1_46]; decide) (by rw [c_1_46]; decide) (by rw [c_1_46]; rfl) (by decide) ?_
                refine r_iconst_ (a := 0) rfl (by decide) ?_
                refine r_iret rfl rfl rfl ?_
                first | with_reducible exact fin_ri he | exact fin_ri he
              · rw [if_neg c_1_46] at he
                replace hk := hk.2 c_1_46
                by_cases c_1_47 : (v0 = 47)
                · rw [if_pos c_1_47] at he
                  replace hk := hk.1 c_1_47
                  refine r_tableIn (tgt := 104) rfl (by rw [c_1_47]; decide) (by rw [c_1_47]; decide) (by rw [c_1_47]; rfl) (by decide) ?_
                  refine r_iconst_ (a := 1) rfl (by decide) ?_
                  refine r_iret rfl rfl rfl ?_
                  first | with_reducible exact fin_ri he | exact fin_ri he
                · rw [if_neg c_1_47] at he
                  replace hk := hk.2 c_1_47
                  by_cases c_1_48 : (v0 = 48)
                  · rw [if_pos c_1_48] at he
                    replace hk := hk.1 c_1_48
                    refine r_tableIn (tgt := 106) rfl (by rw [c_1_48]; decide) (by rw [c_1_48]; decide) (by rw [c_1_48]; rfl) (by decide) ?_
                    refine r_iconst_ (a := 0) rfl (by decide) ?_
                    refine r_iret rfl rfl rfl ?_
                    first | with_reducible exact fin_ri he | exact fin_ri he
                  · rw [if_neg c_1_48] at he
                    replace hk := hk.2 c_1_48
                    by_cases c_1_49 : (v0 = 49)
                    · rw [if_pos c_1_49] at he
                      replace hk := hk.1 c_1_49
                      refine r_tableIn (tgt := 106) rfl (by rw [c_1_49]; decide) (by rw [c_1_49]; decide) (by rw [c_1_49]; rfl) (by decide) ?_
                      refine r_iconst_ (a := 0) rfl (by decide) ?_
                      refine r_iret rfl rfl rfl ?_
                      first | with_reducible exact fin_ri he | exact fin_ri he
                    · rw [if_neg c_1_49] at he
                      replace hk := hk.2 c_1_49
                      by_cases c_1_50 : (v0 = 50)
                      · rw [if_pos c_1_50] at he
                        replace hk := hk.1 c_1_50
                        refine r_tableIn (tgt := 106) rfl (by rw [c_1_50]; decide) (by rw [c_1_50]; decide) (by rw [c_1_50]; rfl) (by decide) ?_
                        refine r_iconst_ (a := 0) rfl (by decide) ?_
                        refine r_iret rfl rfl rfl ?_
                        first | with_reducible exact fin_ri he | exact fin_ri he
                      · rw [if_neg c_1_50] at he
                        replace hk := hk.2 c_1_50
                        by_cases c_1_51 : (v0 = 51)
                        · rw [if_pos c_1_51] at he
                          replace hk := hk.1 c_1_51
                          refine r_tableIn (tgt := 106) rfl (by rw [c_1_51]; decide) (by rw [c_1_51]; decide) (by rw [c_1_51]; rfl) (by decide) ?_
                          refine r_iconst_ (a := 0) rfl (by decide) ?_
                          refine r_iret rfl rfl rfl ?_
                          first | with_reducible exact fin_ri he | exact fin_ri he
                        · rw [if_neg c_1_51] at he
                          replace hk := hk.2 c_1_51
                          by_cases c_1_52 : (v0 = 52)
                          · rw [if_pos c_1_52] at he
                            replace hk := hk.1 c_1_52
                            refine r_tableIn (tgt := 106) rfl (by rw [c_1_52]; decide) (by rw [c_1_52]; decide) (by rw [c_1_52]; rfl) (by decide) ?_
                            refine r_iconst_ (a := 0) rfl (by decide) ?_
                            refine r_iret rfl rfl rfl ?_
                            first | with_reducible exact fin_ri he | exact fin_ri he
                          · rw [if_neg c_1_52] at he
                            replace hk := hk.2 c_1_52
                            by_cases c_1_53 : (v0 = 53)
                            · rw [if_pos c_1_53] at he
                              replace hk := hk.1 c_1_53
                              refine r_tableIn (tgt := 106) rfl (by rw [c_1_53]; decide) (by rw [c_1_53]; decide) (by rw [c_1_53]; rfl) (by decide) ?_
                              refine r_iconst_ (a := 0) rfl (by decide) ?_
                              refine r_iret rfl rfl rfl ?_
                              first | with_reducible exact fin_ri he | exact fin_ri he
                            · rw [if_neg c_1_53] at he
                              replace hk := hk.2 c_1_53
                              by_cases c_1_54 : (v0 = 54)
                              · rw [if_pos c_1_54] at he
                                replace hk := hk.1 c_1_54
                                refine r_tableIn (tgt := 106) rfl (by rw [c_1_54]; decide) (by rw [c_1_54]; decide) (by rw [c_1_54]; rfl) (by decide) ?_
                                refine r_iconst_ (a := 0) rfl (by decide) ?_
                                refine r_iret rfl rfl rfl ?_
                                first | with_reducible exact fin_ri he | exact fin_ri he
                              · rw [if_neg c_1_54] at he
                                replace hk := hk.2 c_1_54
                                by_cases c_1_55 : (v0 = 55)
                                · rw [if_pos c_1_55] at he
                                  replace hk := hk.1 c_1_55
                                  refine r_tableIn (tgt := 106) rfl (by rw [c_1_55]; decide) (by rw [c_1_55]; decide) (by rw [c_1_55]; rfl) (by decide) ?_
                                  refine r_iconst_ (a := 0) rfl (by decide) ?_
                                  refine r_iret rfl rfl rfl ?_
                                  first | with_reducible exact fin_ri he | exact fin_ri he
                                · rw [if_neg c_1_55] at he
                                  replace hk := hk.2 c_1_55
                                  by_cases c_1_56 : (v0 = 56)
                                  · rw [if_pos c_1_56] at he
                                    replace hk := hk.1 c_1_56
                                    refine r_tableIn (tgt := 106) rfl (by rw [c_1_56]; decide) (by rw [c_1_56]; decide) (by rw [c_1_56]; rfl) (by decide) ?_
                                    refine r_iconst_ (a := 0) rfl (by decide) ?_
                                    refine r_iret rfl rfl rfl ?_
                                    first | with_reducible exact fin_ri he | exact fin_ri he
                                  · rw [if_neg c_1_56] at he
                                    replace hk := hk.2 c_1_56
                                    by_cases c_1_57 : (v0 = 57)
                                    · rw [if_pos c_1_57] at he
                                      replace hk := hk.1 c_1_57
                                      refine r_tableIn (tgt := 106) rfl (by rw [c_1_57]; decide) (by rw [c_1_57]; decide) (by rw [c_1_57]; rfl) (by decide) ?_
                                      refine r_iconst_ (a := 0) rfl (by decide) ?_
                                      refine r_iret rfl rfl rfl ?_
                                      first | with_reducible exact fin_ri he | exact fin_ri he
                                    · rw [if_neg c_1_57] at he
                                      replace hk := hk.2 c_1_57
                                      by_cases c_1_58 : (v0 = 58)
                                      · rw [if_pos c_1_58] at he
                                        replace hk := hk.1 c_1_58
                                        refine r_tableIn (tgt := 106) rfl (by rw [c_1_58]; decide) (by rw [c_1_58]; decide) (by rw [c_1_58]; rfl) (by decide) ?_
                                        refine r_iconst_ (a := 0) rfl (by decide) ?_
                                        refine r_iret rfl rfl rfl ?_
                                        first | with_reducible exact fin_ri he | exact fin_ri he
                                      · rw [if_neg c_1_58] at he
                                        replace hk := hk.2 c_1_58
                                        by_cases c_1_59 : (v0 = 59)
                                        · rw [if_pos c_1_59] at he
                                          replace hk := hk.1 c_1_59
                                          refine r_tableIn (tgt := 104) rfl (by rw [c_1_59]; decide) (by rw [c_1_59]; decide) (by rw [c_1_59]; rfl) (by decide) ?_
                                          refine r_iconst_ (a := 1) rfl (by decide) ?_
                                          refine r_iret rfl rfl rfl ?_
                                          first | with_reducible exact fin_ri he | exact fin_ri he
                                        · rw [if_neg c_1_59] at he
                                          replace hk := hk.2 c_1_59
                                          by_cases c_1_60 : (v0 = 60)
                                          · rw [if_pos c_1_60] at he
                                            replace hk := hk.1 c_1_60
                                            refine r_tableIn (tgt := 104) rfl (by rw [c_1_60]; decide) (by rw [c_1_60]; decide) (by rw [c_1_60]; rfl) (by decide) ?_
                                            refine r_iconst_ (a := 1) rfl (by decide) ?_
                                            refine r_iret rfl rfl rfl ?_
                                            first | with_reducible exact fin_ri he | exact fin_ri he
                                          · rw [if_neg c_1_60] at he
                                            replace hk := hk.2 c_1_60
                                            by_cases c_1_61 : (v0 = 61)
                                            · rw [if_pos c_1_61] at he
                                              replace hk := hk.1 c_1_61
                                              refine r_tableIn (tgt := 104) rfl (by rw [c_1_61]; decide) (by rw [c_1_61]; decide) (by rw [c_1_61]; rfl) (by decide) ?_
                                              refine r_iconst_ (a := 1) rfl (by decide) ?_
                                              refine r_iret rfl rfl rfl ?_
                                              first | with_reducible exact fin_ri he | exact fin_ri he
                                            · rw [if_neg c_1_61] at he
                                              replace hk := hk.2 c_1_61
                                              refine r_tableOut (tgt := 106) rfl (by simp only [Int32.lt_iff_toInt_lt, Int32.le_iff_toInt_le, ← Int32.toInt_inj, ti_0, ti_1, ti_2, ti_3, ti_4, ti_5, ti_6, ti_7, ti_8, ti_9, ti_10, ti_11, ti_12, ti_13, ti_14, ti_15, ti_16, ti_17, ti_18, ti_19, ti_20, ti_21, ti_22, ti_23, ti_24, ti_25, ti_26, ti_27, ti_28, ti_29, ti_30, ti_31, ti_32, ti_33, ti_34, ti_35, ti_36, ti_37, ti_38, ti_39, ti_40, ti_41, ti_42, ti_43, ti_44, ti_45, ti_46, ti_47, ti_48, ti_49, ti_50, ti_51, ti_52, ti_53, ti_54, ti_55, ti_56, ti_57, ti_58, ti_59, ti_60, ti_61, ti_62, ti_63, ti_64, ti_79, ti_80, ti_90, ti_96, ti_97, ti_99, ti_100, ti_122, ti_128, ti_132, ti_136, ti_140, ti_141, ti_145, ti_255, ti_256, ti_257, ti_258, ti_259, ti_260, ti_261, ti_262, ti_263, ti_264, ti_265, ti_266, ti_267, ti_268, ti_269, ti_270, ti_271, ti_272, ti_273, ti_274, ti_275, ti_276, ti_277, ti_278, ti_400, ti_401, ti_408, ti_420, ti_840, ti_999, ti_1980, ti_2000, ti_9999, ti_10000, ti_10240, ti_1000000, ti_m1, ti_m2, ti_m3, ti_m4, ti_m5, ti_m6, ti_m7] at c_1_40 c_1_41 c_1_42 c_1_43 c_1_44 c_1_45 c_1_46 c_1_47 c_1_48 c_1_49 c_1_50 c_1_51 c_1_52 c_1_53 c_1_54 c_1_55 c_1_56 c_1_57 c_1_58 c_1_59 c_1_60 c_1_61; omega) (by decide) ?_
                                              refine r_iconst_ (a := 0) rfl (by decide) ?_
                                              refine r_iret rfl rfl rfl ?_
                                              first | with_reducible exact fin_ri he | exact fin_ri he

def f_X8_index (fu : Nat) (v0 : Int32) (v1 : Int32) : Int32 :=
  ((v0 * (10 : Int32)) + v1)

def p_X8_index (fu : Nat) (v0 : Int32) (v1 : Int32) : Prop :=
  True

set_option maxRecDepth 100000 in
set_option maxHeartbeats 1000000 in
theorem s_X8_index {G : ab_G} {fu : Nat} {d : Nat} {h : ab_H} {v0 : Int32} {v1 : Int32} (hk : p_X8_index fu v0 v1) : ab_C G d 0 0 M_X8_index 0 (ab_ent [.int v0, .int v1]) [] h (rt (some (.int (f_X8_index fu v0 v1))) h) := by
  generalize he : (f_X8_index fu v0 v1) = res
  unfold f_X8_index at he
  unfold p_X8_index at hk
  refine r_weak (L1 := [some (.int v0), some (.int v1)]) ⟨rfl, rfl, trivial⟩ ?_
  refine r_iload_n rfl rfl ?_
  refine r_bipush_ (a := 10) rfl (by decide) ?_
  refine r_imul rfl ?_
  refine r_iload_n rfl rfl ?_
  refine r_iadd rfl ?_
  refine r_iret rfl rfl rfl ?_
  first | with_reducible exact fin_ri he | exact fin_ri he

def f_X11_held (fu : Nat) (v0 : Int32) (v1 : Int32) : Int32 :=
  (i_max (0 : Int32) (i_min v1 v0))

def p_X11_held (fu : Nat) (v0 : Int32) (v1 : Int32) : Prop :=
  True

set_option maxRecDepth 100000 in
set_option maxHeartbeats 1000000 in
theorem s_X11_held {G : ab_G} {fu : Nat} {d : Nat} {h : ab_H} {v0 : Int32} {v1 : Int32} (hk : p_X11_held fu v0 v1) : ab_C G d 0 0 M_X11_held 0 (ab_ent [.int v0, .int v1]) [] h (rt (some (.int (f_X11_held fu v0 v1))) h) := by
  generalize he : (f_X11_held fu v0 v1) = res
  unfold f_X11_held at he
  unfold p_X11_held at hk
  refine r_weak (L1 := [some (.int v0), some (.int v1)]) ⟨rfl, rfl, trivial⟩ ?_
  refine r_iconst_ (a := 0) rfl (by decide) ?_
  refine r_iload_n rfl rfl ?_
  refine r_iload_n rfl rfl ?_
  refine r_mmin rfl (Nat.le_of_ble_eq_true rfl) ?_
  refine r_mmax rfl (Nat.le_of_ble_eq_true rfl) ?_
  refine r_iret rfl rfl rfl ?_
  first | with_reducible exact fin_ri he | exact fin_ri he

def f_X8_all (fu : Nat) (s : fl_I) (l : fl_L) : Int32 :=
  (((1 : Int32) <<< ((s 51 0) &&& 31)) - (1 : Int32))

def p_X8_all (fu : Nat) (s : fl_I) (l : fl_L) : Prop :=
  True

set_option maxRecDepth 100000 in
set_option maxHeartbeats 1000000 in
theorem s_X8_all {G : ab_G} {fu : Nat} {d : Nat} {D : fl_D} {s : fl_I} {l : fl_L}  (hk : p_X8_all fu s l) : ab_C G d 0 0 M_X8_all 0 (ab_ent [.ref 51]) [] (hp D s l) (rt (some (.int (f_X8_all fu s l))) (hp D s l)) := by
  generalize he : (f_X8_all fu s l) = res
  unfold f_X8_all at he
  unfold p_X8_all at hk
  refine r_weak (L1 := [some (.ref 51)]) ⟨rfl, trivial⟩ ?_
  refine r_iconst_ (a := 1) rfl (by decide) ?_
  refine r_aload_n rfl rfl ?_
  refine q_getfield rfl (cc_51 _) rfl ?_
  refine r_ishl rfl ?_
  refine r_iconst_ (a := 1) rfl (by decide) ?_
  refine r_isub rfl ?_
  refine r_iret rfl rfl rfl ?_
  first | with_reducible exact fin_ri he | exact fin_ri he

def f_X12_forget (fu : Nat) (s : fl_I) (l : fl_L) : Int32 × fl_I × fl_L :=
  ((s 60 65), (wi s 60 65 (0 : Int32)), l)

def p_X12_forget (fu : Nat) (s : fl_I) (l : fl_L) : Prop :=
  True

set_option maxRecDepth 100000 in
set_option maxHeartbeats 1000000 in
theorem s_X12_forget {G : ab_G} {fu : Nat} {d : Nat} {D : fl_D} {s : fl_I} {l : fl_L}  (hk : p_X12_forget fu s l) : ab_C G d 0 0 M_X12_forget 0 (ab_ent [.ref 60]) [] (hp D s l) (rt (some (.int (f_X12_forget fu s l).1)) (hp D (f_X12_forget fu s l).2.1 (f_X12_forget fu s l).2.2)) := by
  generalize he : (f_X12_forget fu s l) = res
  unfold f_X12_forget at he
  unfold p_X12_forget at hk
  refine r_weak (L1 := [some (.ref 60), none]) ⟨rfl, trivial⟩ ?_
  refine r_aload_n rfl rfl ?_
  refine q_getfield rfl (cc_60 _) rfl ?_
  refine r_istore_n rfl (Nat.le_of_ble_eq_true rfl) rfl ?_
  refine r_aload_n rfl rfl ?_
  refine r_iconst_ (a := 0) rfl (by decide) ?_
  refine w_put rfl (cc_60 _) ff_12_65 ft_12_65 (fun _ _ => (Nat.le_of_ble_eq_true rfl)) (fun _ _ => rfl) ?_
  refine r_iload_n rfl rfl ?_
  refine r_iret rfl rfl rfl ?_
  first | with_reducible exact fin_i he | exact fin_i he

def f_X6_isLetter (fu : Nat) (v0 : Int32) : Int32 :=
  if (v0 < (97 : Int32)) then (0 : Int32) else if ((122 : Int32) < v0) then (0 : Int32) else (1 : Int32)

def p_X6_isLetter (fu : Nat) (v0 : Int32) : Prop :=
  (((v0 < (97 : Int32)) → True) ∧ (¬ (v0 < (97 : Int32)) → ((((122 : Int32) < v0) → True) ∧ (¬ ((122 : Int32) < v0) → True))))

set_option maxRecDepth 100000 in
set_option maxHeartbeats 1000000 in
theorem s_X6_isLetter {G : ab_G} {fu : Nat} {d : Nat} {h : ab_H} {v0 : Int32} (hk : p_X6_isLetter fu v0) : ab_C G d 0 0 M_X6_isLetter 0 (ab_ent [.int v0]) [] h (rt (some (.int (f_X6_isLetter fu v0))) h) := by
  generalize he : (f_X6_isLetter fu v0) = res
  unfold f_X6_isLetter at he
  unfold p_X6_isLetter at hk
  refine r_weak (L1 := [some (.int v0)]) ⟨rfl, trivial⟩ ?_
  refine r_iload_n rfl rfl ?_
  refine r_bipush_ (a := 97) rfl (by decide) ?_
  refine r_icmp_lt rfl (fun c_3 => ?_) (fun c_3 => ?_)
  · rw [if_pos c_3] at he
    replace hk := hk.1 c_3
    refine r_iconst_ (a := 0) rfl (by decide) ?_
    refine r_iret rfl rfl rfl ?_
    first | with_reducible exact fin_ri he | exact fin_ri he
  · rw [if_neg c_3] at he
    replace hk := hk.2 c_3
    refine r_iload_n rfl rfl ?_
    refine r_bipush_ (a := 122) rfl (by decide) ?_
    refine r_icmp_gt rfl (fun c_9 => ?_) (fun c_9 => ?_)
    · rw [if_pos c_9] at he
      replace hk := hk.1 c_9
      refine r_iconst_ (a := 0) rfl (by decide) ?_
      refine r_iret rfl rfl rfl ?_
      first | with_reducible exact fin_ri he | exact fin_ri he
    · rw [if_neg c_9] at he
      replace hk := hk.2 c_9
      refine r_iconst_ (a := 1) rfl (by decide) ?_
      refine r_goto rfl ?_
      refine r_iret rfl rfl rfl ?_
      first | with_reducible exact fin_ri he | exact fin_ri he

def f_X6_isDigit (fu : Nat) (v0 : Int32) : Int32 :=
  if (v0 < (48 : Int32)) then (0 : Int32) else if ((57 : Int32) < v0) then (0 : Int32) else (1 : Int32)

def p_X6_isDigit (fu : Nat) (v0 : Int32) : Prop :=
  (((v0 < (48 : Int32)) → True) ∧ (¬ (v0 < (48 : Int32)) → ((((57 : Int32) < v0) → True) ∧ (¬ ((57 : Int32) < v0) → True))))

set_option maxRecDepth 100000 in
set_option maxHeartbeats 1000000 in
theorem s_X6_isDigit {G : ab_G} {fu : Nat} {d : Nat} {h : ab_H} {v0 : Int32} (hk : p_X6_isDigit fu v0) : ab_C G d 0 0 M_X6_isDigit 0 (ab_ent [.int v0]) [] h (rt (some (.int (f_X6_isDigit fu v0))) h) := by
  generalize he : (f_X6_isDigit fu v0) = res
  unfold f_X6_isDigit at he
  unfold p_X6_isDigit at hk
  refine r_weak (L1 := [some (.int v0)]) ⟨rfl, trivial⟩ ?_
  refine r_iload_n rfl rfl ?_
  refine r_bipush_ (a := 48) rfl (by decide) ?_
  refine r_icmp_lt rfl (fun c_3 => ?_) (fun c_3 => ?_)
  · rw [if_pos c_3] at he
    replace hk := hk.1 c_3
    refine r_iconst_ (a := 0) rfl (by decide) ?_
    refine r_iret rfl rfl rfl ?_
    first | with_reducible exact fin_ri he | exact fin_ri he
  · rw [if_neg c_3] at he
    replace hk := hk.2 c_3
    refine r_iload_n rfl rfl ?_
    refine r_bipush_ (a := 57) rfl (by decide) ?_
    refine r_icmp_gt rfl (fun c_9 => ?_) (fun c_9 => ?_)
    · rw [if_pos c_9] at he
      replace hk := hk.1 c_9
      refine r_iconst_ (a := 0) rfl (by decide) ?_
      refine r_iret rfl rfl rfl ?_
      first | with_reducible exact fin_ri he | exact fin_ri he
    · rw [if_neg c_9] at he
      replace hk := hk.2 c_9
      refine r_iconst_ (a := 1) rfl (by decide) ?_
      refine r_goto rfl ?_
      refine r_iret rfl rfl rfl ?_
      first | with_reducible exact fin_ri he | exact fin_ri he

def f_X10_isLying (fu : Nat) (v0 : Int32) (a : Nat) (s : fl_I) (l : fl_L) : Int32 :=
  if ((80 : Int32) ≤ (s (a + 1) v0.toNatClampNeg)) then (0 : Int32) else (1 : Int32)

def p_X10_isLying (fu : Nat) (v0 : Int32) (a : Nat) (s : fl_I) (l : fl_L) : Prop :=
  (vp_in v0 32) ∧ ((((80 : Int32) ≤ (s (a + 1) v0.toNatClampNeg)) → True) ∧ (¬ ((80 : Int32) ≤ (s (a + 1) v0.toNatClampNeg)) → True))

set_option maxRecDepth 100000 in
set_option maxHeartbeats 1000000 in
theorem s_X10_isLying {G : ab_G} {fu : Nat} {d : Nat} {D : fl_D} {s : fl_I} {l : fl_L} {a : Nat} (hya : isY D a) {v0 : Int32} (hk : p_X10_isLying fu v0 a s l) : ab_C G d 0 0 M_X10_isLying 0 (ab_ent [.ref a, .int v0]) [] (hp D s l) (rt (some (.int (f_X10_isLying fu v0 a s l))) (hp D s l)) := by
  generalize he : (f_X10_isLying fu v0 a s l) = res
  unfold f_X10_isLying at he
  unfold p_X10_isLying at hk
  refine r_weak (L1 := [some (.ref a), some (.int v0)]) ⟨rfl, rfl, trivial⟩ ?_
  refine r_aload_n rfl rfl ?_
  refine q_getfield rfl (cY_0 hya) rfl ?_
  refine r_iload_n rfl rfl ?_
  obtain ⟨hb0, hk⟩ := hk
  refine q_iald rfl (cY_1 hya) hb0 ?_
  refine r_bipush_ (a := 80) rfl (by decide) ?_
  refine r_icmp_ge rfl (fun c_8 => ?_) (fun c_8 => ?_)
  · rw [if_pos c_8] at he
    replace hk := hk.1 c_8
    refine r_iconst_ (a := 0) rfl (by decide) ?_
    refine r_iret rfl rfl rfl ?_
    first | with_reducible exact fin_ri he | exact fin_ri he
  · rw [if_neg c_8] at he
    replace hk := hk.2 c_8
    refine r_iconst_ (a := 1) rfl (by decide) ?_
    refine r_goto rfl ?_
    refine r_iret rfl rfl rfl ?_
    first | with_reducible exact fin_ri he | exact fin_ri he

def f_X11_forget (fu : Nat) (s : fl_I) (l : fl_L) : Int32 × fl_I × fl_L :=
  ((s 57 0), (wi s 57 0 (0 : Int32)), l)

def p_X11_forget (fu : Nat) (s : fl_I) (l : fl_L) : Prop :=
  True

set_option maxRecDepth 100000 in
set_option maxHeartbeats 1000000 in
theorem s_X11_forget {G : ab_G} {fu : Nat} {d : Nat} {D : fl_D} {s : fl_I} {l : fl_L}  (hk : p_X11_forget fu s l) : ab_C G d 0 0 M_X11_forget 0 (ab_ent [.ref 0]) [] (hp D s l) (rt (some (.int (f_X11_forget fu s l).1)) (hp D (f_X11_forget fu s l).2.1 (f_X11_forget fu s l).2.2)) := by
  generalize he : (f_X11_forget fu s l) = res
  unfold f_X11_forget at he
  unfold p_X11_forget at hk
  refine r_weak (L1 := [some (.ref 0), none]) ⟨rfl, trivial⟩ ?_
  refine r_aload_n rfl rfl ?_
  refine q_getfield rfl (cc_0 _) rfl ?_
  refine q_getfield rfl (cc_57 _) rfl ?_
  refine r_istore_n rfl (Nat.le_of_ble_eq_true rfl) rfl ?_
  refine r_aload_n rfl rfl ?_
  refine q_getfield rfl (cc_0 _) rfl ?_
  refine r_iconst_ (a := 0) rfl (by decide) ?_
  refine w_put rfl (cc_57 _) ff_7_0 ft_7_0 (fun _ _ => (Nat.le_of_ble_eq_true rfl)) (fun _ _ => rfl) ?_
  refine r_iload_n rfl rfl ?_
  refine r_iret rfl rfl rfl ?_
  first | with_reducible exact fin_i he | exact fin_i he

def f_X12_isDigit (fu : Nat) (v0 : Int32) : Int32 :=
  if (v0 < (48 : Int32)) then (0 : Int32) else if ((57 : Int32) < v0) then (0 : Int32) else (1 : Int32)

def p_X12_isDigit (fu : Nat) (v0 : Int32) : Prop :=
  (((v0 < (48 : Int32)) → True) ∧ (¬ (v0 < (48 : Int32)) → ((((57 : Int32) < v0) → True) ∧ (¬ ((57 : Int32) < v0) → True))))

set_option maxRecDepth 100000 in
set_option maxHeartbeats 1000000 in
theorem s_X12_isDigit {G : ab_G} {fu : Nat} {d : Nat} {h : ab_H} {v0 : Int32} (hk : p_X12_isDigit fu v0) : ab_C G d 0 0 M_X12_isDigit 0 (ab_ent [.int v0]) [] h (rt (some (.int (f_X12_isDigit fu v0))) h) := by
  generalize he : (f_X12_isDigit fu v0) = res
  unfold f_X12_isDigit at he
  unfold p_X12_isDigit at hk
  refine r_weak (L1 := [some (.int v0)]) ⟨rfl, trivial⟩ ?_
  refine r_iload_n rfl rfl ?_
  refine r_bipush_ (a := 48) rfl (by decide) ?_
  refine r_icmp_lt rfl (fun c_3 => ?_) (fun c_3 => ?_)
  · rw [if_pos c_3] at he
    replace hk := hk.1 c_3
    refine r_iconst_ (a := 0) rfl (by decide) ?_
    refine r_iret rfl rfl rfl ?_
    first | with_reducible exact fin_ri he | exact fin_ri he
  · rw [if_neg c_3] at he
    replace hk := hk.2 c_3
    refine r_iload_n rfl rfl ?_
    refine r_bipush_ (a := 57) rfl (by decide) ?_
    refine r_icmp_gt rfl (fun c_9 => ?_) (fun c_9 => ?_)
    · rw [if_pos c_9] at he
      replace hk := hk.1 c_9
      refine r_iconst_ (a := 0) rfl (by decide) ?_
      refine r_iret rfl rfl rfl ?_
      first | with_reducible exact fin_ri he | exact fin_ri he
    · rw [if_neg c_9] at he
      replace hk := hk.2 c_9
      refine r_iconst_ (a := 1) rfl (by decide) ?_
      refine r_goto rfl ?_
      refine r_iret rfl rfl rfl ?_
      first | with_reducible exact fin_ri he | exact fin_ri he

def f_X12_isLetter (fu : Nat) (v0 : Int32) : Int32 :=
  if (v0 < (97 : Int32)) then (0 : Int32) else if ((122 : Int32) < v0) then (0 : Int32) else (1 : Int32)

def p_X12_isLetter (fu : Nat) (v0 : Int32) : Prop :=
  (((v0 < (97 : Int32)) → True) ∧ (¬ (v0 < (97 : Int32)) → ((((122 : Int32) < v0) → True) ∧ (¬ ((122 : Int32) < v0) → True))))

set_option maxRecDepth 100000 in
set_option maxHeartbeats 1000000 in
theorem s_X12_isLetter {G : ab_G} {fu : Nat} {d : Nat} {h : ab_H} {v0 : Int32} (hk : p_X12_isLetter fu v0) : ab_C G d 0 0 M_X12_isLetter 0 (ab_ent [.int v0]) [] h (rt (some (.int (f_X12_isLetter fu v0))) h) := by
  generalize he : (f_X12_isLetter fu v0) = res
  unfold f_X12_isLetter at he
  unfold p_X12_isLetter at hk
  refine r_weak (L1 := [some (.int v0)]) ⟨rfl, trivial⟩ ?_
  refine r_iload_n rfl rfl ?_
  refine r_bipush_ (a := 97) rfl (by decide) ?_
  refine r_icmp_lt rfl (fun c_3 => ?_) (fun c_3 => ?_)
  · rw [if_pos c_3] at he
    replace hk := hk.1 c_3
    refine r_iconst_ (a := 0) rfl (by decide) ?_
    refine r_iret rfl rfl rfl ?_
    first | with_reducible exact fin_ri he | exact fin_ri he
  · rw [if_neg c_3] at he
    replace hk := hk.2 c_3
    refine r_iload_n rfl rfl ?_
    refine r_bipush_ (a := 122) rfl (by decide) ?_
    refine r_icmp_gt rfl (fun c_9 => ?_) (fun c_9 => ?_)
    · rw [if_pos c_9] at he
      replace hk := hk.1 c_9
      refine r_iconst_ (a := 0) rfl (by decide) ?_
      refine r_iret rfl rfl rfl ?_
      first | with_reducible exact fin_ri he | exact fin_ri he
    · rw [if_neg c_9] at he
      replace hk := hk.2 c_9
      refine r_iconst_ (a := 1) rfl (by decide) ?_
      refine r_goto rfl ?_
      refine r_iret rfl rfl rfl ?_
      first | with_reducible exact fin_ri he | exact fin_ri he

def f_X12_in (fu : Nat) (v0 : Int32) (v1 : Int32) (v2 : Int32) : Int32 :=
  if (v0 < v1) then (0 : Int32) else if (v2 < v0) then (0 : Int32) else (1 : Int32)

def p_X12_in (fu : Nat) (v0 : Int32) (v1 : Int32) (v2 : Int32) : Prop :=
  (((v0 < v1) → True) ∧ (¬ (v0 < v1) → (((v2 < v0) → True) ∧ (¬ (v2 < v0) → True))))

set_option maxRecDepth 100000 in
set_option maxHeartbeats 1000000 in
theorem s_X12_in {G : ab_G} {fu : Nat} {d : Nat} {h : ab_H} {v0 : Int32} {v1 : Int32} {v2 : Int32} (hk : p_X12_in fu v0 v1 v2) : ab_C G d 0 0 M_X12_in 0 (ab_ent [.int v0, .int v1, .int v2]) [] h (rt (some (.int (f_X12_in fu v0 v1 v2))) h) := by
  generalize he : (f_X12_in fu v0 v1 v2) = res
  unfold f_X12_in at he
  unfold p_X12_in at hk
  refine r_weak (L1 := [some (.int v0), some (.int v1), some (.int v2)]) ⟨rfl, rfl, rfl, trivial⟩ ?_
  refine r_iload_n rfl rfl ?_
  refine r_iload_n rfl rfl ?_
  refine r_icmp_lt rfl (fun c_2 => ?_) (fun c_2 => ?_)
  · rw [if_pos c_2] at he
    replace hk := hk.1 c_2
    refine r_iconst_ (a := 0) rfl (by decide) ?_
    refine r_iret rfl rfl rfl ?_
    first | with_reducible exact fin_ri he | exact fin_ri he
  · rw [if_neg c_2] at he
    replace hk := hk.2 c_2
    refine r_iload_n rfl rfl ?_
    refine r_iload_n rfl rfl ?_
    refine r_icmp_gt rfl (fun c_7 => ?_) (fun c_7 => ?_)
    · rw [if_pos c_7] at he
      replace hk := hk.1 c_7
      refine r_iconst_ (a := 0) rfl (by decide) ?_
      refine r_iret rfl rfl rfl ?_
      first | with_reducible exact fin_ri he | exact fin_ri he
    · rw [if_neg c_7] at he
      replace hk := hk.2 c_7
      refine r_iconst_ (a := 1) rfl (by decide) ?_
      refine r_goto rfl ?_
      refine r_iret rfl rfl rfl ?_
      first | with_reducible exact fin_ri he | exact fin_ri he

def f_X12_wordAt (fu : Nat) (v0 : Int32) (s : fl_I) (l : fl_L) : Int64 :=
  (l 73 (((8 : Int32) * (s 60 18)) + v0).toNatClampNeg)

def p_X12_wordAt (fu : Nat) (v0 : Int32) (s : fl_I) (l : fl_L) : Prop :=
  (vp_in (((8 : Int32) * (s 60 18)) + v0) 16) ∧ True

set_option maxRecDepth 100000 in
set_option maxHeartbeats 1000000 in
theorem s_X12_wordAt {G : ab_G} {fu : Nat} {d : Nat} {D : fl_D} {s : fl_I} {l : fl_L} {v0 : Int32} (hk : p_X12_wordAt fu v0 s l) : ab_C G d 0 0 M_X12_wordAt 0 (ab_ent [.ref 60, .int v0]) [] (hp D s l) (rt (some (.long (f_X12_wordAt fu v0 s l))) (hp D s l)) := by
  generalize he : (f_X12_wordAt fu v0 s l) = res
  unfold f_X12_wordAt at he
  unfold p_X12_wordAt at hk
  refine r_weak (L1 := [some (.ref 60), some (.int v0)]) ⟨rfl, rfl, trivial⟩ ?_
  refine r_aload_n rfl rfl ?_
  refine q_getfield rfl (cc_60 _) rfl ?_
  refine r_bipush_ (a := 8) rfl (by decide) ?_
  refine r_aload_n rfl rfl ?_
  refine q_getfield rfl (cc_60 _) rfl ?_
  refine r_imul rfl ?_
  refine r_iload_n rfl rfl ?_
  refine r_iadd rfl ?_
  obtain ⟨hb0, hk⟩ := hk
  refine q_lald rfl (cc_73 _) hb0 ?_
  refine r_lret rfl rfl ?_
  first | with_reducible exact fin_rl he | exact fin_rl he

def f_X5_setCode (fu : Nat) (v0 : Int32) (v1 : Int32) (t : Nat) (s : fl_I) (l : fl_L) : fl_I × fl_L :=
  if (v0 < 0) then (s, l) else if ((408 : Int32) ≤ v0) then (s, l) else ((wi s (t + 9) v0.toNatClampNeg v1), l)

def p_X5_setCode (fu : Nat) (v0 : Int32) (v1 : Int32) (t : Nat) (s : fl_I) (l : fl_L) : Prop :=
  (((v0 < 0) → True) ∧ (¬ (v0 < 0) → ((((408 : Int32) ≤ v0) → True) ∧ (¬ ((408 : Int32) ≤ v0) → (vp_in v0 408) ∧ True))))

set_option maxRecDepth 100000 in
set_option maxHeartbeats 1000000 in
theorem s_X5_setCode {G : ab_G} {fu : Nat} {d : Nat} {D : fl_D} {s : fl_I} {l : fl_L} {t : Nat} (htt : isT t) {v0 : Int32} {v1 : Int32} (hk : p_X5_setCode fu v0 v1 t s l) : ab_C G d 0 0 M_X5_setCode 0 (ab_ent [.ref t, .int v0, .int v1]) [] (hp D s l) (rt none (hp D (f_X5_setCode fu v0 v1 t s l).1 (f_X5_setCode fu v0 v1 t s l).2)) := by
  generalize he : (f_X5_setCode fu v0 v1 t s l) = res
  unfold f_X5_setCode at he
  unfold p_X5_setCode at hk
  refine r_weak (L1 := [some (.ref t), some (.int v0), some (.int v1)]) ⟨rfl, rfl, rfl, trivial⟩ ?_
  refine r_iload_n rfl rfl ?_
  refine r_if_lt rfl (fun c_1 => ?_) (fun c_1 => ?_)
  · rw [if_pos c_1] at he
    replace hk := hk.1 c_1
    refine r_ret rfl rfl ?_
    first | with_reducible exact fin_v he | exact fin_v he
  · rw [if_neg c_1] at he
    replace hk := hk.2 c_1
    refine r_iload_n rfl rfl ?_
    refine r_sipush_ (a := 408) rfl (by decide) ?_
    refine r_icmp_ge rfl (fun c_8 => ?_) (fun c_8 => ?_)
    · rw [if_pos c_8] at he
      replace hk := hk.1 c_8
      refine r_ret rfl rfl ?_
      first | with_reducible exact fin_v he | exact fin_v he
    · rw [if_neg c_8] at he
      replace hk := hk.2 c_8
      refine r_aload_n rfl rfl ?_
      refine q_getfield rfl (cT_0 htt) rfl ?_
      refine r_iload_n rfl rfl ?_
      refine r_iload_n rfl rfl ?_
      obtain ⟨hb0, hk⟩ := hk
      refine w_iast rfl (cT_9 htt) hb0 ?_
      refine r_ret rfl rfl ?_
      first | with_reducible exact fin_v he | exact fin_v he

def f_X11_isPiece (fu : Nat) (v0 : Int32) (s : fl_I) (l : fl_L) : Int32 :=
  if (v0 < 0) then (0 : Int32) else if ((s 31 1) ≤ v0) then (0 : Int32) else (1 : Int32)

def p_X11_isPiece (fu : Nat) (v0 : Int32) (s : fl_I) (l : fl_L) : Prop :=
  (((v0 < 0) → True) ∧ (¬ (v0 < 0) → ((((s 31 1) ≤ v0) → True) ∧ (¬ ((s 31 1) ≤ v0) → True))))

set_option maxRecDepth 100000 in
set_option maxHeartbeats 1000000 in
theorem s_X11_isPiece {G : ab_G} {fu : Nat} {d : Nat} {D : fl_D} {s : fl_I} {l : fl_L} {v0 : Int32} (hk : p_X11_isPiece fu v0 s l) : ab_C G d 0 0 M_X11_isPiece 0 (ab_ent [.ref 0, .int v0]) [] (hp D s l) (rt (some (.int (f_X11_isPiece fu v0 s l))) (hp D s l)) := by
  generalize he : (f_X11_isPiece fu v0 s l) = res
  unfold f_X11_isPiece at he
  unfold p_X11_isPiece at hk
  refine r_weak (L1 := [some (.ref 0), some (.int v0)]) ⟨rfl, rfl, trivial⟩ ?_
  refine r_iload_n rfl rfl ?_
  refine r_if_lt rfl (fun c_1 => ?_) (fun c_1 => ?_)
  · rw [if_pos c_1] at he
    replace hk := hk.1 c_1
    refine r_iconst_ (a := 0) rfl (by decide) ?_
    refine r_iret rfl rfl rfl ?_
    first | with_reducible exact fin_ri he | exact fin_ri he
  · rw [if_neg c_1] at he
    replace hk := hk.2 c_1
    refine r_iload_n rfl rfl ?_
    refine r_aload_n rfl rfl ?_
    refine q_getfield rfl (cc_0 _) rfl ?_
    refine q_getfield rfl (cc_31 _) rfl ?_
    refine r_icmp_ge rfl (fun c_12 => ?_) (fun c_12 => ?_)
    · rw [if_pos c_12] at he
      replace hk := hk.1 c_12
      refine r_iconst_ (a := 0) rfl (by decide) ?_
      refine r_iret rfl rfl rfl ?_
      first | with_reducible exact fin_ri he | exact fin_ri he
    · rw [if_neg c_12] at he
      replace hk := hk.2 c_12
      refine r_iconst_ (a := 1) rfl (by decide) ?_
      refine r_goto rfl ?_
      refine r_iret rfl rfl rfl ?_
      first | with_reducible exact fin_ri he | exact fin_ri he

def f_X11_isPicker (fu : Nat) (v0 : Int32) (s : fl_I) (l : fl_L) : Int32 :=
  if (v0 < 0) then (0 : Int32) else if ((s 31 2) ≤ v0) then (0 : Int32) else (1 : Int32)

def p_X11_isPicker (fu : Nat) (v0 : Int32) (s : fl_I) (l : fl_L) : Prop :=
  (((v0 < 0) → True) ∧ (¬ (v0 < 0) → ((((s 31 2) ≤ v0) → True) ∧ (¬ ((s 31 2) ≤ v0) → True))))

set_option maxRecDepth 100000 in
set_option maxHeartbeats 1000000 in
theorem s_X11_isPicker {G : ab_G} {fu : Nat} {d : Nat} {D : fl_D} {s : fl_I} {l : fl_L} {v0 : Int32} (hk : p_X11_isPicker fu v0 s l) : ab_C G d 0 0 M_X11_isPicker 0 (ab_ent [.ref 0, .int v0]) [] (hp D s l) (rt (some (.int (f_X11_isPicker fu v0 s l))) (hp D s l)) := by
  generalize he : (f_X11_isPicker fu v0 s l) = res
  unfold f_X11_isPicker at he
  unfold p_X11_isPicker at hk
  refine r_weak (L1 := [some (.ref 0), some (.int v0)]) ⟨rfl, rfl, trivial⟩ ?_
  refine r_iload_n rfl rfl ?_
  refine r_if_lt rfl (fun c_1 => ?_) (fun c_1 => ?_)
  · rw [if_pos c_1] at he
    replace hk := hk.1 c_1
    refine r_iconst_ (a := 0) rfl (by decide) ?_
    refine r_iret rfl rfl rfl ?_
    first | with_reducible exact fin_ri he | exact fin_ri he
  · rw [if_neg c_1] at he
    replace hk := hk.2 c_1
    refine r_iload_n rfl rfl ?_
    refine r_aload_n rfl rfl ?_
    refine q_getfield rfl (cc_0 _) rfl ?_
    refine q_getfield rfl (cc_31 _) rfl ?_
    refine r_icmp_ge rfl (fun c_12 => ?_) (fun c_12 => ?_)
    · rw [if_pos c_12] at he
      replace hk := hk.1 c_12
      refine r_iconst_ (a := 0) rfl (by decide) ?_
      refine r_iret rfl rfl rfl ?_
      first | with_reducible exact fin_ri he | exact fin_ri he
    · rw [if_neg c_12] at he
      replace hk := hk.2 c_12
      refine r_iconst_ (a := 1) rfl (by decide) ?_
      refine r_goto rfl ?_
      refine r_iret rfl rfl rfl ?_
      first | with_reducible exact fin_ri he | exact fin_ri he

def f_X12_off (fu : Nat) (v0 : Int32) (v1 : Int32) : Int32 :=
  if (v1 ≤ v0) then (v0 - v1) else (v1 - v0)

def p_X12_off (fu : Nat) (v0 : Int32) (v1 : Int32) : Prop :=
  (((v1 ≤ v0) → True) ∧ (¬ (v1 ≤ v0) → True))

set_option maxRecDepth 100000 in
set_option maxHeartbeats 1000000 in
theorem s_X12_off {G : ab_G} {fu : Nat} {d : Nat} {h : ab_H} {v0 : Int32} {v1 : Int32} (hk : p_X12_off fu v0 v1) : ab_C G d 0 0 M_X12_off 0 (ab_ent [.int v0, .int v1]) [] h (rt (some (.int (f_X12_off fu v0 v1))) h) := by
  generalize he : (f_X12_off fu v0 v1) = res
  unfold f_X12_off at he
  unfold p_X12_off at hk
  refine r_weak (L1 := [some (.int v0), some (.int v1)]) ⟨rfl, rfl, trivial⟩ ?_
  refine r_iload_n rfl rfl ?_
  refine r_iload_n rfl rfl ?_
  refine r_icmp_ge rfl (fun c_2 => ?_) (fun c_2 => ?_)
  · rw [if_pos c_2] at he
    replace hk := hk.1 c_2
    refine r_iload_n rfl rfl ?_
    refine r_iload_n rfl rfl ?_
    refine r_isub rfl ?_
    refine r_iret rfl rfl rfl ?_
    first | with_reducible exact fin_ri he | exact fin_ri he
  · rw [if_neg c_2] at he
    replace hk := hk.2 c_2
    refine r_iload_n rfl rfl ?_
    refine r_iload_n rfl rfl ?_
    refine r_isub rfl ?_
    refine r_goto rfl ?_
    refine r_iret rfl rfl rfl ?_
    first | with_reducible exact fin_ri he | exact fin_ri he

def f_X12_isPicker (fu : Nat) (v0 : Int32) (s : fl_I) (l : fl_L) : Int32 :=
  (f_X12_in fu v0 (0 : Int32) ((s 74 (s 60 18).toNatClampNeg) - (1 : Int32)))

def p_X12_isPicker (fu : Nat) (v0 : Int32) (s : fl_I) (l : fl_L) : Prop :=
  (vp_in (s 60 18) 2) ∧ (p_X12_in fu v0 (0 : Int32) ((s 74 (s 60 18).toNatClampNeg) - (1 : Int32))) ∧ ((f_X12_in fu v0 (0 : Int32) ((s 74 (s 60 18).toNatClampNeg) - (1 : Int32))) = 0 ∨ (f_X12_in fu v0 (0 : Int32) ((s 74 (s 60 18).toNatClampNeg) - (1 : Int32))) = 1) ∧ True

set_option maxRecDepth 100000 in
set_option maxHeartbeats 1000000 in
theorem s_X12_isPicker {G : ab_G} {fu : Nat} {d : Nat} {D : fl_D} {s : fl_I} {l : fl_L} {v0 : Int32} (hk : p_X12_isPicker fu v0 s l) : ab_C G (d + 1) 0 0 M_X12_isPicker 0 (ab_ent [.ref 60, .int v0]) [] (hp D s l) (rt (some (.int (f_X12_isPicker fu v0 s l))) (hp D s l)) := by
  generalize he : (f_X12_isPicker fu v0 s l) = res
  unfold f_X12_isPicker at he
  unfold p_X12_isPicker at hk
  refine r_weak (L1 := [some (.ref 60), some (.int v0)]) ⟨rfl, rfl, trivial⟩ ?_
  refine r_iload_n rfl rfl ?_
  refine r_iconst_ (a := 0) rfl (by decide) ?_
  refine r_aload_n rfl rfl ?_
  refine q_getfield rfl (cc_60 _) rfl ?_
  refine r_aload_n rfl rfl ?_
  refine q_getfield rfl (cc_60 _) rfl ?_
  obtain ⟨hb0, hk⟩ := hk
  refine q_iald rfl (cc_74 _) hb0 ?_
  refine r_iconst_ (a := 1) rfl (by decide) ?_
  refine r_isub rfl ?_
  obtain ⟨hb1, hk⟩ := hk
  refine r_callS0 [_, _, _] _ rfl kY_X12_in kT_X12_in rfl rfl (Nat.le_of_ble_eq_true rfl) (Nat.le_of_ble_eq_true rfl) (s_X12_in hb1) (fun r h q => ?_)
  obtain ⟨rfl, rfl⟩ := q
  simp only [Option.toList, List.cons_append, List.nil_append]
  obtain ⟨hb2, hk⟩ := hk
  refine r_iret rfl rfl (nar_b hb2) ?_
  first | with_reducible exact fin_ri he | exact fin_ri he

def f_X12_isWord (fu : Nat) (v0 : Int32) (s : fl_I) (l : fl_L) : Int32 :=
  (f_X12_in fu v0 (0 : Int32) ((s 72 (s 60 18).toNatClampNeg) - (1 : Int32)))

def p_X12_isWord (fu : Nat) (v0 : Int32) (s : fl_I) (l : fl_L) : Prop :=
  (vp_in (s 60 18) 2) ∧ (p_X12_in fu v0 (0 : Int32) ((s 72 (s 60 18).toNatClampNeg) - (1 : Int32))) ∧ ((f_X12_in fu v0 (0 : Int32) ((s 72 (s 60 18).toNatClampNeg) - (1 : Int32))) = 0 ∨ (f_X12_in fu v0 (0 : Int32) ((s 72 (s 60 18).toNatClampNeg) - (1 : Int32))) = 1) ∧ True

set_option maxRecDepth 100000 in
set_option maxHeartbeats 1000000 in
theorem s_X12_isWord {G : ab_G} {fu : Nat} {d : Nat} {D : fl_D} {s : fl_I} {l : fl_L} {v0 : Int32} (hk : p_X12_isWord fu v0 s l) : ab_C G (d + 1) 0 0 M_X12_isWord 0 (ab_ent [.ref 60, .int v0]) [] (hp D s l) (rt (some (.int (f_X12_isWord fu v0 s l))) (hp D s l)) := by
  generalize he : (f_X12_isWord fu v0 s l) = res
  unfold f_X12_isWord at he
  unfold p_X12_isWord at hk
  refine r_weak (L1 := [some (.ref 60), some (.int v0)]) ⟨rfl, rfl, trivial⟩ ?_
  refine r_iload_n rfl rfl ?_
  refine r_iconst_ (a := 0) rfl (by decide) ?_
  refine r_aload_n rfl rfl ?_
  refine q_getfield rfl (cc_60 _) rfl ?_
  refine r_aload_n rfl rfl ?_
  refine q_getfield rfl (cc_60 _) rfl ?_
  obtain ⟨hb0, hk⟩ := hk
  refine q_iald rfl (cc_72 _) hb0 ?_
  refine r_iconst_ (a := 1) rfl (by decide) ?_
  refine r_isub rfl ?_
  obtain ⟨hb1, hk⟩ := hk
  refine r_callS0 [_, _, _] _ rfl kY_X12_in kT_X12_in rfl rfl (Nat.le_of_ble_eq_true rfl) (Nat.le_of_ble_eq_true rfl) (s_X12_in hb1) (fun r h q => ?_)
  obtain ⟨rfl, rfl⟩ := q
  simp only [Option.toList, List.cons_append, List.nil_append]
  obtain ⟨hb2, hk⟩ := hk
  refine r_iret rfl rfl (nar_b hb2) ?_
  first | with_reducible exact fin_ri he | exact fin_ri he

def f_X12_doesLie (fu : Nat) (v0 : Int32) (s : fl_I) (l : fl_L) : Int32 :=
  if (0 ≤ (s 95 ((64 : Int32) + v0).toNatClampNeg)) then (0 : Int32) else (1 : Int32)

def p_X12_doesLie (fu : Nat) (v0 : Int32) (s : fl_I) (l : fl_L) : Prop :=
  (vp_in ((64 : Int32) + v0) 141) ∧ (((0 ≤ (s 95 ((64 : Int32) + v0).toNatClampNeg)) → True) ∧ (¬ (0 ≤ (s 95 ((64 : Int32) + v0).toNatClampNeg)) → True))

set_option maxRecDepth 100000 in
set_option maxHeartbeats 1000000 in
theorem s_X12_doesLie {G : ab_G} {fu : Nat} {d : Nat} {D : fl_D} {s : fl_I} {l : fl_L} {v0 : Int32} (hk : p_X12_doesLie fu v0 s l) : ab_C G d 0 0 M_X12_doesLie 0 (ab_ent [.ref 60, .int v0]) [] (hp D s l) (rt (some (.int (f_X12_doesLie fu v0 s l))) (hp D s l)) := by
  generalize he : (f_X12_doesLie fu v0 s l) = res
  unfold f_X12_doesLie at he
  unfold p_X12_doesLie at hk
  refine r_weak (L1 := [some (.ref 60), some (.int v0)]) ⟨rfl, rfl, trivial⟩ ?_
  refine r_aload_n rfl rfl ?_
  refine q_getfield rfl (cc_60 _) rfl ?_
  refine r_bipush_ (a := 64) rfl (by decide) ?_
  refine r_iload_n rfl rfl ?_
  refine r_iadd rfl ?_
  obtain ⟨hb0, hk⟩ := hk
  refine q_iald rfl (cc_95 _) hb0 ?_
  refine r_if_ge rfl (fun c_9 => ?_) (fun c_9 => ?_)
  · rw [if_pos c_9] at he
    replace hk := hk.1 c_9
    refine r_iconst_ (a := 0) rfl (by decide) ?_
    refine r_iret rfl rfl rfl ?_
    first | with_reducible exact fin_ri he | exact fin_ri he
  · rw [if_neg c_9] at he
    replace hk := hk.2 c_9
    refine r_iconst_ (a := 1) rfl (by decide) ?_
    refine r_goto rfl ?_
    refine r_iret rfl rfl rfl ?_
    first | with_reducible exact fin_ri he | exact fin_ri he

def f_X12_within (fu : Nat) (v0 : Int32) (v1 : Int32) (v2 : Int32) : Int32 :=
  if (v1 ≤ v0) then if (v0 ≤ v2) then v0 else v2 else v1

def p_X12_within (fu : Nat) (v0 : Int32) (v1 : Int32) (v2 : Int32) : Prop :=
  (((v1 ≤ v0) → (((v0 ≤ v2) → True) ∧ (¬ (v0 ≤ v2) → True))) ∧ (¬ (v1 ≤ v0) → True))

set_option maxRecDepth 100000 in
set_option maxHeartbeats 1000000 in
theorem s_X12_within {G : ab_G} {fu : Nat} {d : Nat} {h : ab_H} {v0 : Int32} {v1 : Int32} {v2 : Int32} (hk : p_X12_within fu v0 v1 v2) : ab_C G d 0 0 M_X12_within 0 (ab_ent [.int v0, .int v1, .int v2]) [] h (rt (some (.int (f_X12_within fu v0 v1 v2))) h) := by
  generalize he : (f_X12_within fu v0 v1 v2) = res
  unfold f_X12_within at he
  unfold p_X12_within at hk
  refine r_weak (L1 := [some (.int v0), some (.int v1), some (.int v2)]) ⟨rfl, rfl, rfl, trivial⟩ ?_
  refine r_iload_n rfl rfl ?_
  refine r_iload_n rfl rfl ?_
  refine r_icmp_ge rfl (fun c_2 => ?_) (fun c_2 => ?_)
  · rw [if_pos c_2] at he
    replace hk := hk.1 c_2
    refine r_iload_n rfl rfl ?_
    refine r_iload_n rfl rfl ?_
    refine r_icmp_le rfl (fun c_11 => ?_) (fun c_11 => ?_)
    · rw [if_pos c_11] at he
      replace hk := hk.1 c_11
      refine r_iload_n rfl rfl ?_
      refine r_iret rfl rfl rfl ?_
      first | with_reducible exact fin_ri he | exact fin_ri he
    · rw [if_neg c_11] at he
      replace hk := hk.2 c_11
      refine r_iload_n rfl rfl ?_
      refine r_goto rfl ?_
      refine r_iret rfl rfl rfl ?_
      first | with_reducible exact fin_ri he | exact fin_ri he
  · rw [if_neg c_2] at he
    replace hk := hk.2 c_2
    refine r_iload_n rfl rfl ?_
    refine r_goto rfl ?_
    refine r_iret rfl rfl rfl ?_
    first | with_reducible exact fin_ri he | exact fin_ri he

def f_X12_byteAt (fu : Nat) (v0 : Int32) (s : fl_I) (l : fl_L) : Int32 :=
  if ((s 60 4) ≤ v0) then (0 : Int32) else ((s 62 v0.toNatClampNeg) &&& (255 : Int32))

def p_X12_byteAt (fu : Nat) (v0 : Int32) (s : fl_I) (l : fl_L) : Prop :=
  ((((s 60 4) ≤ v0) → True) ∧ (¬ ((s 60 4) ≤ v0) → (vp_in v0 2000) ∧ True))

set_option maxRecDepth 100000 in
set_option maxHeartbeats 1000000 in
theorem s_X12_byteAt {G : ab_G} {fu : Nat} {d : Nat} {D : fl_D} {s : fl_I} {l : fl_L} {v0 : Int32} (hk : p_X12_byteAt fu v0 s l) : ab_C G d 0 0 M_X12_byteAt 0 (ab_ent [.ref 60, .int v0]) [] (hp D s l) (rt (some (.int (f_X12_byteAt fu v0 s l))) (hp D s l)) := by
  generalize he : (f_X12_byteAt fu v0 s l) = res
  unfold f_X12_byteAt at he
  unfold p_X12_byteAt at hk
  refine r_weak (L1 := [some (.ref 60), some (.int v0)]) ⟨rfl, rfl, trivial⟩ ?_
  refine r_iload_n rfl rfl ?_
  refine r_aload_n rfl rfl ?_
  refine q_getfield rfl (cc_60 _) rfl ?_
  refine r_icmp_ge rfl (fun c_5 => ?_) (fun c_5 => ?_)
  · rw [if_pos c_5] at he
    replace hk := hk.1 c_5
    refine r_iconst_ (a := 0) rfl (by decide) ?_
    refine r_iret rfl rfl rfl ?_
    first | with_reducible exact fin_ri he | exact fin_ri he
  · rw [if_neg c_5] at he
    replace hk := hk.2 c_5
    refine r_aload_n rfl rfl ?_
    refine q_getfield rfl (cc_60 _) rfl ?_
    refine r_iload_n rfl rfl ?_
    obtain ⟨hb0, hk⟩ := hk
    refine q_bald rfl (cc_62 _) hb0 ?_
    refine r_sipush_ (a := 255) rfl (by decide) ?_
    refine r_iand rfl ?_
    refine r_goto rfl ?_
    refine r_iret rfl rfl rfl ?_
    first | with_reducible exact fin_ri he | exact fin_ri he

def f_X11_isHeap (fu : Nat) (v0 : Int32) (s : fl_I) (l : fl_L) : Int32 :=
  if ((f_X11_isPicker fu v0 s l) = 0) then if (v0 < (4 : Int32)) then (0 : Int32) else if ((6 : Int32) ≤ v0) then (0 : Int32) else (1 : Int32) else (1 : Int32)

def p_X11_isHeap (fu : Nat) (v0 : Int32) (s : fl_I) (l : fl_L) : Prop :=
  (p_X11_isPicker fu v0 s l) ∧ ((((f_X11_isPicker fu v0 s l) = 0) → (((v0 < (4 : Int32)) → True) ∧ (¬ (v0 < (4 : Int32)) → ((((6 : Int32) ≤ v0) → True) ∧ (¬ ((6 : Int32) ≤ v0) → True))))) ∧ (¬ ((f_X11_isPicker fu v0 s l) = 0) → True))

set_option maxRecDepth 100000 in
set_option maxHeartbeats 1000000 in
theorem s_X11_isHeap {G : ab_G} {fu : Nat} {d : Nat} {D : fl_D} {s : fl_I} {l : fl_L} {v0 : Int32} (hk : p_X11_isHeap fu v0 s l) : ab_C G (d + 1) 0 0 M_X11_isHeap 0 (ab_ent [.ref 0, .int v0]) [] (hp D s l) (rt (some (.int (f_X11_isHeap fu v0 s l))) (hp D s l)) := by
  generalize he : (f_X11_isHeap fu v0 s l) = res
  unfold f_X11_isHeap at he
  unfold p_X11_isHeap at hk
  refine r_weak (L1 := [some (.ref 0), some (.int v0)]) ⟨rfl, rfl, trivial⟩ ?_
  refine r_aload_n rfl rfl ?_
  refine r_iload_n rfl rfl ?_
  obtain ⟨hb0, hk⟩ := hk
  refine q_callV0 [_] _ rfl kY_X11_isPicker kT_X11_isPicker rfl rfl (Nat.le_of_ble_eq_true rfl) (Nat.le_of_ble_eq_true rfl) (cc_0 _) (s_X11_isPicker hb0) (fun r h q => ?_)
  obtain ⟨rfl, rfl⟩ := q
  simp only [Option.toList, List.cons_append, List.nil_append]
  refine r_if_ne rfl (fun c_5 => ?_) (fun c_5 => ?_)
  · rw [if_neg c_5] at he
    replace hk := hk.2 c_5
    refine r_iconst_ (a := 1) rfl (by decide) ?_
    refine r_goto rfl ?_
    refine r_iret rfl rfl rfl ?_
    first | with_reducible exact fin_ri he | exact fin_ri he
  · rw [if_pos c_5] at he
    replace hk := hk.1 c_5
    refine r_iload_n rfl rfl ?_
    refine r_iconst_ (a := 4) rfl (by decide) ?_
    refine r_icmp_lt rfl (fun c_10 => ?_) (fun c_10 => ?_)
    · rw [if_pos c_10] at he
      replace hk := hk.1 c_10
      refine r_iconst_ (a := 0) rfl (by decide) ?_
      refine r_iret rfl rfl rfl ?_
      first | with_reducible exact fin_ri he | exact fin_ri he
    · rw [if_neg c_10] at he
      replace hk := hk.2 c_10
      refine r_iload_n rfl rfl ?_
      refine r_bipush_ (a := 6) rfl (by decide) ?_
      refine r_icmp_ge rfl (fun c_16 => ?_) (fun c_16 => ?_)
      · rw [if_pos c_16] at he
        replace hk := hk.1 c_16
        refine r_iconst_ (a := 0) rfl (by decide) ?_
        refine r_iret rfl rfl rfl ?_
        first | with_reducible exact fin_ri he | exact fin_ri he
      · rw [if_neg c_16] at he
        replace hk := hk.2 c_16
        refine r_iconst_ (a := 1) rfl (by decide) ?_
        refine r_goto rfl ?_
        refine r_iret rfl rfl rfl ?_
        first | with_reducible exact fin_ri he | exact fin_ri he

def f_X11_isCell (fu : Nat) (v0 : Int32) (v1 : Int32) : Int32 :=
  if (v0 < 0) then (0 : Int32) else if ((10 : Int32) ≤ v0) then (0 : Int32) else if (v1 < 0) then (0 : Int32) else if ((8 : Int32) ≤ v1) then (0 : Int32) else (1 : Int32)

def p_X11_isCell (fu : Nat) (v0 : Int32) (v1 : Int32) : Prop :=
  (((v0 < 0) → True) ∧ (¬ (v0 < 0) → ((((10 : Int32) ≤ v0) → True) ∧ (¬ ((10 : Int32) ≤ v0) → (((v1 < 0) → True) ∧ (¬ (v1 < 0) → ((((8 : Int32) ≤ v1) → True) ∧ (¬ ((8 : Int32) ≤ v1) → True))))))))

set_option maxRecDepth 100000 in
set_option maxHeartbeats 1000000 in
theorem s_X11_isCell {G : ab_G} {fu : Nat} {d : Nat} {h : ab_H} {v0 : Int32} {v1 : Int32} (hk : p_X11_isCell fu v0 v1) : ab_C G d 0 0 M_X11_isCell 0 (ab_ent [.int v0, .int v1]) [] h (rt (some (.int (f_X11_isCell fu v0 v1))) h) := by
  generalize he : (f_X11_isCell fu v0 v1) = res
  unfold f_X11_isCell at he
  unfold p_X11_isCell at hk
  refine r_weak (L1 := [some (.int v0), some (.int v1)]) ⟨rfl, rfl, trivial⟩ ?_
  refine r_iload_n rfl rfl ?_
  refine r_if_lt rfl (fun c_1 => ?_) (fun c_1 => ?_)
  · rw [if_pos c_1] at he
    replace hk := hk.1 c_1
    refine r_iconst_ (a := 0) rfl (by decide) ?_
    refine r_iret rfl rfl rfl ?_
    first | with_reducible exact fin_ri he | exact fin_ri he
  · rw [if_neg c_1] at he
    replace hk := hk.2 c_1
    refine r_iload_n rfl rfl ?_
    refine r_bipush_ (a := 10) rfl (by decide) ?_
    refine r_icmp_ge rfl (fun c_7 => ?_) (fun c_7 => ?_)
    · rw [if_pos c_7] at he
      replace hk := hk.1 c_7
      refine r_iconst_ (a := 0) rfl (by decide) ?_
      refine r_iret rfl rfl rfl ?_
      first | with_reducible exact fin_ri he | exact fin_ri he
    · rw [if_neg c_7] at he
      replace hk := hk.2 c_7
      refine r_iload_n rfl rfl ?_
      refine r_if_lt rfl (fun c_11 => ?_) (fun c_11 => ?_)
      · rw [if_pos c_11] at he
        replace hk := hk.1 c_11
        refine r_iconst_ (a := 0) rfl (by decide) ?_
        refine r_iret rfl rfl rfl ?_
        first | with_reducible exact fin_ri he | exact fin_ri he
      · rw [if_neg c_11] at he
        replace hk := hk.2 c_11
        refine r_iload_n rfl rfl ?_
        refine r_bipush_ (a := 8) rfl (by decide) ?_
        refine r_icmp_ge rfl (fun c_17 => ?_) (fun c_17 => ?_)
        · rw [if_pos c_17] at he
          replace hk := hk.1 c_17
          refine r_iconst_ (a := 0) rfl (by decide) ?_
          refine r_iret rfl rfl rfl ?_
          first | with_reducible exact fin_ri he | exact fin_ri he
        · rw [if_neg c_17] at he
          replace hk := hk.2 c_17
          refine r_iconst_ (a := 1) rfl (by decide) ?_
          refine r_goto rfl ?_
          refine r_iret rfl rfl rfl ?_
          first | with_reducible exact fin_ri he | exact fin_ri he

def f_X11_stirred (fu : Nat) (v0 : Int32) (v1 : Int32) : Int32 :=
  ((((v0 ^^^ v1) * (1103515245 : Int32)) + (12345 : Int32)) ^^^ (i_ushr (((v0 ^^^ v1) * (1103515245 : Int32)) + (12345 : Int32)) (15 : Int32)))

def p_X11_stirred (fu : Nat) (v0 : Int32) (v1 : Int32) : Prop :=
  True

set_option maxRecDepth 100000 in
set_option maxHeartbeats 1000000 in
theorem s_X11_stirred {G : ab_G} {fu : Nat} {d : Nat} {h : ab_H} {v0 : Int32} {v1 : Int32} (hk : p_X11_stirred fu v0 v1) : ab_C G d 0 0 M_X11_stirred 0 (ab_ent [.int v0, .int v1]) [] h (rt (some (.int (f_X11_stirred fu v0 v1))) h) := by
  generalize he : (f_X11_stirred fu v0 v1) = res
  unfold f_X11_stirred at he
  unfold p_X11_stirred at hk
  refine r_weak (L1 := [some (.int v0), some (.int v1), none]) ⟨rfl, rfl, trivial⟩ ?_
  refine r_iload_n rfl rfl ?_
  refine r_iload_n rfl rfl ?_
  refine r_ixor rfl ?_
  refine r_ldc_w rfl ?_
  refine r_imul rfl ?_
  refine r_sipush_ (a := 12345) rfl (by decide) ?_
  refine r_iadd rfl ?_
  refine r_istore_n rfl (Nat.le_of_ble_eq_true rfl) rfl ?_
  refine r_iload_n rfl rfl ?_
  refine r_iload_n rfl rfl ?_
  refine r_bipush_ (a := 15) rfl (by decide) ?_
  refine r_iushr rfl ?_
  refine r_ixor rfl ?_
  refine r_iret rfl rfl rfl ?_
  first | with_reducible exact fin_ri he | exact fin_ri he

def f_X12_is (fu : Nat) (v0 : Int32) (s : fl_I) (l : fl_L) : Int32 :=
  if ((s 60 13) = 0) then if ((s 63 (s 60 11).toNatClampNeg) = v0) then (1 : Int32) else (0 : Int32) else (0 : Int32)

def p_X12_is (fu : Nat) (v0 : Int32) (s : fl_I) (l : fl_L) : Prop :=
  ((((s 60 13) = 0) → (vp_in (s 60 11) 403) ∧ ((((s 63 (s 60 11).toNatClampNeg) = v0) → True) ∧ (¬ ((s 63 (s 60 11).toNatClampNeg) = v0) → True))) ∧ (¬ ((s 60 13) = 0) → True))

set_option maxRecDepth 100000 in
set_option maxHeartbeats 1000000 in
theorem s_X12_is {G : ab_G} {fu : Nat} {d : Nat} {D : fl_D} {s : fl_I} {l : fl_L} {v0 : Int32} (hk : p_X12_is fu v0 s l) : ab_C G d 0 0 M_X12_is 0 (ab_ent [.ref 60, .int v0]) [] (hp D s l) (rt (some (.int (f_X12_is fu v0 s l))) (hp D s l)) := by
  generalize he : (f_X12_is fu v0 s l) = res
  unfold f_X12_is at he
  unfold p_X12_is at hk
  refine r_weak (L1 := [some (.ref 60), some (.int v0)]) ⟨rfl, rfl, trivial⟩ ?_
  refine r_aload_n rfl rfl ?_
  refine q_getfield rfl (cc_60 _) rfl ?_
  refine r_if_ne rfl (fun c_4 => ?_) (fun c_4 => ?_)
  · rw [if_neg c_4] at he
    replace hk := hk.2 c_4
    refine r_iconst_ (a := 0) rfl (by decide) ?_
    refine r_iret rfl rfl rfl ?_
    first | with_reducible exact fin_ri he | exact fin_ri he
  · rw [if_pos c_4] at he
    replace hk := hk.1 c_4
    refine r_aload_n rfl rfl ?_
    refine q_getfield rfl (cc_60 _) rfl ?_
    refine r_aload_n rfl rfl ?_
    refine q_getfield rfl (cc_60 _) rfl ?_
    obtain ⟨hb0, hk⟩ := hk
    refine q_iald rfl (cc_63 _) hb0 ?_
    refine r_iload_n rfl rfl ?_
    refine r_icmp_ne rfl (fun c_17 => ?_) (fun c_17 => ?_)
    · rw [if_neg c_17] at he
      replace hk := hk.2 c_17
      refine r_iconst_ (a := 0) rfl (by decide) ?_
      refine r_iret rfl rfl rfl ?_
      first | with_reducible exact fin_ri he | exact fin_ri he
    · rw [if_pos c_17] at he
      replace hk := hk.1 c_17
      refine r_iconst_ (a := 1) rfl (by decide) ?_
      refine r_goto rfl ?_
      refine r_iret rfl rfl rfl ?_
      first | with_reducible exact fin_ri he | exact fin_ri he

def f_X12_isCell (fu : Nat) (v0 : Int32) (v1 : Int32) : Int32 :=
  if ((f_X12_in fu v0 (0 : Int32) (9 : Int32)) = 0) then (0 : Int32) else if ((f_X12_in fu v1 (0 : Int32) (7 : Int32)) = 0) then (0 : Int32) else (1 : Int32)

def p_X12_isCell (fu : Nat) (v0 : Int32) (v1 : Int32) : Prop :=
  (p_X12_in fu v0 (0 : Int32) (9 : Int32)) ∧ ((((f_X12_in fu v0 (0 : Int32) (9 : Int32)) = 0) → True) ∧ (¬ ((f_X12_in fu v0 (0 : Int32) (9 : Int32)) = 0) → (p_X12_in fu v1 (0 : Int32) (7 : Int32)) ∧ ((((f_X12_in fu v1 (0 : Int32) (7 : Int32)) = 0) → True) ∧ (¬ ((f_X12_in fu v1 (0 : Int32) (7 : Int32)) = 0) → True))))

set_option maxRecDepth 100000 in
set_option maxHeartbeats 1000000 in
theorem s_X12_isCell {G : ab_G} {fu : Nat} {d : Nat} {h : ab_H} {v0 : Int32} {v1 : Int32} (hk : p_X12_isCell fu v0 v1) : ab_C G (d + 1) 0 0 M_X12_isCell 0 (ab_ent [.int v0, .int v1]) [] h (rt (some (.int (f_X12_isCell fu v0 v1))) h) := by
  generalize he : (f_X12_isCell fu v0 v1) = res
  unfold f_X12_isCell at he
  unfold p_X12_isCell at hk
  refine r_weak (L1 := [some (.int v0), some (.int v1)]) ⟨rfl, rfl, trivial⟩ ?_
  refine r_iload_n rfl rfl ?_
  refine r_iconst_ (a := 0) rfl (by decide) ?_
  refine r_bipush_ (a := 9) rfl (by decide) ?_
  obtain ⟨hb0, hk⟩ := hk
  refine r_callS0 [_, _, _] _ rfl kY_X12_in kT_X12_in rfl rfl (Nat.le_of_ble_eq_true rfl) (Nat.le_of_ble_eq_true rfl) (s_X12_in hb0) (fun r h q => ?_)
  obtain ⟨rfl, rfl⟩ := q
  simp only [Option.toList, List.cons_append, List.nil_append]
  refine r_if_eq rfl (fun c_7 => ?_) (fun c_7 => ?_)
  · rw [if_pos c_7] at he
    replace hk := hk.1 c_7
    refine r_iconst_ (a := 0) rfl (by decide) ?_
    refine r_iret rfl rfl rfl ?_
    first | with_reducible exact fin_ri he | exact fin_ri he
  · rw [if_neg c_7] at he
    replace hk := hk.2 c_7
    refine r_iload_n rfl rfl ?_
    refine r_iconst_ (a := 0) rfl (by decide) ?_
    refine r_bipush_ (a := 7) rfl (by decide) ?_
    obtain ⟨hb1, hk⟩ := hk
    refine r_callS0 [_, _, _] _ rfl kY_X12_in kT_X12_in rfl rfl (Nat.le_of_ble_eq_true rfl) (Nat.le_of_ble_eq_true rfl) (s_X12_in hb1) (fun r h q => ?_)
    obtain ⟨rfl, rfl⟩ := q
    simp only [Option.toList, List.cons_append, List.nil_append]
    refine r_if_eq rfl (fun c_17 => ?_) (fun c_17 => ?_)
    · rw [if_pos c_17] at he
      replace hk := hk.1 c_17
      refine r_iconst_ (a := 0) rfl (by decide) ?_
      refine r_iret rfl rfl rfl ?_
      first | with_reducible exact fin_ri he | exact fin_ri he
    · rw [if_neg c_17] at he
      replace hk := hk.2 c_17
      refine r_iconst_ (a := 1) rfl (by decide) ?_
      refine r_goto rfl ?_
      refine r_iret rfl rfl rfl ?_
      first | with_reducible exact fin_ri he | exact fin_ri he

def f_X12_mixed (fu : Nat) (v0 : Int32) (v1 : Int32) : Int32 :=
  ((((v0 ^^^ v1) * (1103515245 : Int32)) + (12345 : Int32)) ^^^ (i_ushr (((v0 ^^^ v1) * (1103515245 : Int32)) + (12345 : Int32)) (15 : Int32)))

def p_X12_mixed (fu : Nat) (v0 : Int32) (v1 : Int32) : Prop :=
  True

set_option maxRecDepth 100000 in
set_option maxHeartbeats 1000000 in
theorem s_X12_mixed {G : ab_G} {fu : Nat} {d : Nat} {h : ab_H} {v0 : Int32} {v1 : Int32} (hk : p_X12_mixed fu v0 v1) : ab_C G d 0 0 M_X12_mixed 0 (ab_ent [.int v0, .int v1]) [] h (rt (some (.int (f_X12_mixed fu v0 v1))) h) := by
  generalize he : (f_X12_mixed fu v0 v1) = res
  unfold f_X12_mixed at he
  unfold p_X12_mixed at hk
  refine r_weak (L1 := [some (.int v0), some (.int v1), none]) ⟨rfl, rfl, trivial⟩ ?_
  refine r_iload_n rfl rfl ?_
  refine r_iload_n rfl rfl ?_
  refine r_ixor rfl ?_
  refine r_ldc_w rfl ?_
  refine r_imul rfl ?_
  refine r_sipush_ (a := 12345) rfl (by decide) ?_
  refine r_iadd rfl ?_
  refine r_istore_n rfl (Nat.le_of_ble_eq_true rfl) rfl ?_
  refine r_iload_n rfl rfl ?_
  refine r_iload_n rfl rfl ?_
  refine r_bipush_ (a := 15) rfl (by decide) ?_
  refine r_iushr rfl ?_
  refine r_ixor rfl ?_
  refine r_iret rfl rfl rfl ?_
  first | with_reducible exact fin_ri he | exact fin_ri he

def f_X12_cellOf (fu : Nat) (v0 : Int32) (s : fl_I) (l : fl_L) : Int32 :=
  (((10 : Int32) * (s 95 ((32 : Int32) + v0).toNatClampNeg)) + (s 95 v0.toNatClampNeg))

def p_X12_cellOf (fu : Nat) (v0 : Int32) (s : fl_I) (l : fl_L) : Prop :=
  (vp_in ((32 : Int32) + v0) 141) ∧ (vp_in v0 141) ∧ True

set_option maxRecDepth 100000 in
set_option maxHeartbeats 1000000 in
theorem s_X12_cellOf {G : ab_G} {fu : Nat} {d : Nat} {D : fl_D} {s : fl_I} {l : fl_L} {v0 : Int32} (hk : p_X12_cellOf fu v0 s l) : ab_C G d 0 0 M_X12_cellOf 0 (ab_ent [.ref 60, .int v0]) [] (hp D s l) (rt (some (.int (f_X12_cellOf fu v0 s l))) (hp D s l)) := by
  generalize he : (f_X12_cellOf fu v0 s l) = res
  unfold f_X12_cellOf at he
  unfold p_X12_cellOf at hk
  refine r_weak (L1 := [some (.ref 60), some (.int v0)]) ⟨rfl, rfl, trivial⟩ ?_
  refine r_bipush_ (a := 10) rfl (by decide) ?_
  refine r_aload_n rfl rfl ?_
  refine q_getfield rfl (cc_60 _) rfl ?_
  refine r_bipush_ (a := 32) rfl (by decide) ?_
  refine r_iload_n rfl rfl ?_
  refine r_iadd rfl ?_
  obtain ⟨hb0, hk⟩ := hk
  refine q_iald rfl (cc_95 _) hb0 ?_
  refine r_imul rfl ?_
  refine r_aload_n rfl rfl ?_
  refine q_getfield rfl (cc_60 _) rfl ?_
  refine r_iload_n rfl rfl ?_
  obtain ⟨hb1, hk⟩ := hk
  refine q_iald rfl (cc_95 _) hb1 ?_
  refine r_iadd rfl ?_
  refine r_iret rfl rfl rfl ?_
  first | with_reducible exact fin_ri he | exact fin_ri he

def f_X12_isHeap (fu : Nat) (v0 : Int32) (s : fl_I) (l : fl_L) : Int32 :=
  if ((f_X12_in fu v0 (0 : Int32) (3 : Int32)) = 0) then (f_X12_in fu v0 (4 : Int32) (5 : Int32)) else (f_X12_isPicker fu v0 s l)

def p_X12_isHeap (fu : Nat) (v0 : Int32) (s : fl_I) (l : fl_L) : Prop :=
  (p_X12_in fu v0 (0 : Int32) (3 : Int32)) ∧ ((((f_X12_in fu v0 (0 : Int32) (3 : Int32)) = 0) → (p_X12_in fu v0 (4 : Int32) (5 : Int32)) ∧ ((f_X12_in fu v0 (4 : Int32) (5 : Int32)) = 0 ∨ (f_X12_in fu v0 (4 : Int32) (5 : Int32)) = 1) ∧ True) ∧ (¬ ((f_X12_in fu v0 (0 : Int32) (3 : Int32)) = 0) → (p_X12_isPicker fu v0 s l) ∧ ((f_X12_isPicker fu v0 s l) = 0 ∨ (f_X12_isPicker fu v0 s l) = 1) ∧ True))

set_option maxRecDepth 100000 in
set_option maxHeartbeats 1000000 in
theorem s_X12_isHeap {G : ab_G} {fu : Nat} {d : Nat} {D : fl_D} {s : fl_I} {l : fl_L} {v0 : Int32} (hk : p_X12_isHeap fu v0 s l) : ab_C G (d + 2) 0 0 M_X12_isHeap 0 (ab_ent [.ref 60, .int v0]) [] (hp D s l) (rt (some (.int (f_X12_isHeap fu v0 s l))) (hp D s l)) := by
  generalize he : (f_X12_isHeap fu v0 s l) = res
  unfold f_X12_isHeap at he
  unfold p_X12_isHeap at hk
  refine r_weak (L1 := [some (.ref 60), some (.int v0)]) ⟨rfl, rfl, trivial⟩ ?_
  refine r_iload_n rfl rfl ?_
  refine r_iconst_ (a := 0) rfl (by decide) ?_
  refine r_iconst_ (a := 3) rfl (by decide) ?_
  obtain ⟨hb0, hk⟩ := hk
  refine r_callS0 [_, _, _] _ rfl kY_X12_in kT_X12_in rfl rfl (Nat.le_of_ble_eq_true rfl) (Nat.le_of_ble_eq_true rfl) (s_X12_in hb0) (fun r h q => ?_)
  obtain ⟨rfl, rfl⟩ := q
  simp only [Option.toList, List.cons_append, List.nil_append]
  refine r_if_eq rfl (fun c_6 => ?_) (fun c_6 => ?_)
  · rw [if_pos c_6] at he
    replace hk := hk.1 c_6
    refine r_iload_n rfl rfl ?_
    refine r_iconst_ (a := 4) rfl (by decide) ?_
    refine r_iconst_ (a := 5) rfl (by decide) ?_
    obtain ⟨hb1, hk⟩ := hk
    refine r_callS0 [_, _, _] _ rfl kY_X12_in kT_X12_in rfl rfl (Nat.le_of_ble_eq_true rfl) (Nat.le_of_ble_eq_true rfl) (s_X12_in hb1) (fun r h q => ?_)
    obtain ⟨rfl, rfl⟩ := q
    simp only [Option.toList, List.cons_append, List.nil_append]
    obtain ⟨hb2, hk⟩ := hk
    refine r_iret rfl rfl (nar_b hb2) ?_
    first | with_reducible exact fin_ri he | exact fin_ri he
  · rw [if_neg c_6] at he
    replace hk := hk.2 c_6
    refine r_aload_n rfl rfl ?_
    refine r_iload_n rfl rfl ?_
    obtain ⟨hb3, hk⟩ := hk
    refine q_callV0 [_] _ rfl kY_X12_isPicker kT_X12_isPicker rfl rfl (Nat.le_of_ble_eq_true rfl) (Nat.le_of_ble_eq_true rfl) (cc_60 _) (s_X12_isPicker hb3) (fun r h q => ?_)
    obtain ⟨rfl, rfl⟩ := q
    simp only [Option.toList, List.cons_append, List.nil_append]
    refine r_goto rfl ?_
    obtain ⟨hb4, hk⟩ := hk
    refine r_iret rfl rfl (nar_b hb4) ?_
    first | with_reducible exact fin_ri he | exact fin_ri he

def f_X10_holder (fu : Nat) (v0 : Int32) (a : Nat) (s : fl_I) (l : fl_L) : Int32 :=
  if ((80 : Int32) ≤ (s (a + 1) v0.toNatClampNeg)) then ((s (a + 1) v0.toNatClampNeg) - (80 : Int32)) else (-2 : Int32)

def p_X10_holder (fu : Nat) (v0 : Int32) (a : Nat) (s : fl_I) (l : fl_L) : Prop :=
  (vp_in v0 32) ∧ ((((80 : Int32) ≤ (s (a + 1) v0.toNatClampNeg)) → (vp_in v0 32) ∧ True) ∧ (¬ ((80 : Int32) ≤ (s (a + 1) v0.toNatClampNeg)) → True))

set_option maxRecDepth 100000 in
set_option maxHeartbeats 1000000 in
theorem s_X10_holder {G : ab_G} {fu : Nat} {d : Nat} {D : fl_D} {s : fl_I} {l : fl_L} {a : Nat} (hya : isY D a) {v0 : Int32} (hk : p_X10_holder fu v0 a s l) : ab_C G d 0 0 M_X10_holder 0 (ab_ent [.ref a, .int v0]) [] (hp D s l) (rt (some (.int (f_X10_holder fu v0 a s l))) (hp D s l)) := by
  generalize he : (f_X10_holder fu v0 a s l) = res
  unfold f_X10_holder at he
  unfold p_X10_holder at hk
  refine r_weak (L1 := [some (.ref a), some (.int v0)]) ⟨rfl, rfl, trivial⟩ ?_
  refine r_aload_n rfl rfl ?_
  refine q_getfield rfl (cY_0 hya) rfl ?_
  refine r_iload_n rfl rfl ?_
  obtain ⟨hb0, hk⟩ := hk
  refine q_iald rfl (cY_1 hya) hb0 ?_
  refine r_bipush_ (a := 80) rfl (by decide) ?_
  refine r_icmp_ge rfl (fun c_8 => ?_) (fun c_8 => ?_)
  · rw [if_pos c_8] at he
    replace hk := hk.1 c_8
    refine r_aload_n rfl rfl ?_
    refine q_getfield rfl (cY_0 hya) rfl ?_
    refine r_iload_n rfl rfl ?_
    obtain ⟨hb1, hk⟩ := hk
    refine q_iald rfl (cY_1 hya) hb1 ?_
    refine r_bipush_ (a := 80) rfl (by decide) ?_
    refine r_isub rfl ?_
    refine r_iret rfl rfl rfl ?_
    first | with_reducible exact fin_ri he | exact fin_ri he
  · rw [if_neg c_8] at he
    replace hk := hk.2 c_8
    refine r_bipush_ (a := -2) rfl (by decide) ?_
    refine r_goto rfl ?_
    refine r_iret rfl rfl rfl ?_
    first | with_reducible exact fin_ri he | exact fin_ri he

def f_X12_appends (fu : Nat) (v0 : Int64) (v1 : Int32) : Int64 :=
  if (v1 = 0) then v0 else (((27 : Int64) * v0) + ((v1 - (97 : Int32)) + (1 : Int32)).toInt64)

def p_X12_appends (fu : Nat) (v0 : Int64) (v1 : Int32) : Prop :=
  (((v1 = 0) → True) ∧ (¬ (v1 = 0) → True))

set_option maxRecDepth 100000 in
set_option maxHeartbeats 1000000 in
theorem s_X12_appends {G : ab_G} {fu : Nat} {d : Nat} {h : ab_H} {v0 : Int64} {v1 : Int32} (hk : p_X12_appends fu v0 v1) : ab_C G d 0 0 M_X12_appends 0 (ab_ent [.long v0, .int v1]) [] h (rt (some (.long (f_X12_appends fu v0 v1))) h) := by
  generalize he : (f_X12_appends fu v0 v1) = res
  unfold f_X12_appends at he
  unfold p_X12_appends at hk
  refine r_weak (L1 := [some (.long v0), none, some (.int v1)]) ⟨rfl, rfl, trivial⟩ ?_
  refine r_iload_n rfl rfl ?_
  refine r_if_ne rfl (fun c_1 => ?_) (fun c_1 => ?_)
  · rw [if_neg c_1] at he
    replace hk := hk.2 c_1
    refine r_ldc2_w rfl ?_
    refine r_lload_n rfl rfl ?_
    refine r_lmul rfl ?_
    refine r_iload_n rfl rfl ?_
    refine r_bipush_ (a := 97) rfl (by decide) ?_
    refine r_isub rfl ?_
    refine r_iconst_ (a := 1) rfl (by decide) ?_
    refine r_iadd rfl ?_
    refine r_i2l rfl ?_
    refine r_ladd rfl ?_
    refine r_lret rfl rfl ?_
    first | with_reducible exact fin_rl he | exact fin_rl he
  · rw [if_pos c_1] at he
    replace hk := hk.1 c_1
    refine r_lload_n rfl rfl ?_
    refine r_goto rfl ?_
    refine r_lret rfl rfl ?_
    first | with_reducible exact fin_rl he | exact fin_rl he

def f_X12_fail (fu : Nat) (v0 : Int32) (s : fl_I) (l : fl_L) : fl_I × fl_L :=
  if ((s 60 13) ≤ 0) then ((wi (wi s 60 13 v0) 60 14 ((wi s 60 13 v0) 64 ((wi s 60 13 v0) 60 11).toNatClampNeg)), l) else (s, l)

def p_X12_fail (fu : Nat) (v0 : Int32) (s : fl_I) (l : fl_L) : Prop :=
  ((((s 60 13) ≤ 0) → (vp_in ((wi s 60 13 v0) 60 11) 403) ∧ True) ∧ (¬ ((s 60 13) ≤ 0) → True))

set_option maxRecDepth 100000 in
set_option maxHeartbeats 1000000 in
theorem s_X12_fail {G : ab_G} {fu : Nat} {d : Nat} {D : fl_D} {s : fl_I} {l : fl_L} {v0 : Int32} (hk : p_X12_fail fu v0 s l) : ab_C G d 0 0 M_X12_fail 0 (ab_ent [.ref 60, .int v0]) [] (hp D s l) (rt none (hp D (f_X12_fail fu v0 s l).1 (f_X12_fail fu v0 s l).2)) := by
  generalize he : (f_X12_fail fu v0 s l) = res
  unfold f_X12_fail at he
  unfold p_X12_fail at hk
  refine r_weak (L1 := [some (.ref 60), some (.int v0)]) ⟨rfl, rfl, trivial⟩ ?_
  refine r_aload_n rfl rfl ?_
  refine q_getfield rfl (cc_60 _) rfl ?_
  refine r_if_le rfl (fun c_4 => ?_) (fun c_4 => ?_)
  · rw [if_pos c_4] at he
    replace hk := hk.1 c_4
    refine r_aload_n rfl rfl ?_
    refine r_iload_n rfl rfl ?_
    refine w_put rfl (cc_60 _) ff_12_13 ft_12_13 (fun _ _ => (Nat.le_of_ble_eq_true rfl)) (fun _ _ => rfl) ?_
    refine r_aload_n rfl rfl ?_
    refine r_aload_n rfl rfl ?_
    refine q_getfield rfl (cc_60 _) rfl ?_
    refine r_aload_n rfl rfl ?_
    refine q_getfield rfl (cc_60 _) rfl ?_
    obtain ⟨hb0, hk⟩ := hk
    refine q_iald rfl (cc_64 _) hb0 ?_
    refine w_put rfl (cc_60 _) ff_12_14 ft_12_14 (fun _ _ => (Nat.le_of_ble_eq_true rfl)) (fun _ _ => rfl) ?_
    refine r_ret rfl rfl ?_
    first | with_reducible exact fin_v he | exact fin_v he
  · rw [if_neg c_4] at he
    replace hk := hk.2 c_4
    refine r_ret rfl rfl ?_
    first | with_reducible exact fin_v he | exact fin_v he

def f_X12_goesOn (fu : Nat) (s : fl_I) (l : fl_L) : fl_I × fl_L :=
  if ((s 60 11) = (400 : Int32)) then ((f_X12_fail fu (2 : Int32) s l).1, (f_X12_fail fu (2 : Int32) s l).2) else ((wi s 60 11 ((s 60 11) + (1 : Int32))), l)

def p_X12_goesOn (fu : Nat) (s : fl_I) (l : fl_L) : Prop :=
  ((((s 60 11) = (400 : Int32)) → (p_X12_fail fu (2 : Int32) s l) ∧ True) ∧ (¬ ((s 60 11) = (400 : Int32)) → True))

set_option maxRecDepth 100000 in
set_option maxHeartbeats 1000000 in
theorem s_X12_goesOn {G : ab_G} {fu : Nat} {d : Nat} {D : fl_D} {s : fl_I} {l : fl_L}  (hk : p_X12_goesOn fu s l) : ab_C G (d + 1) 0 0 M_X12_goesOn 0 (ab_ent [.ref 60]) [] (hp D s l) (rt none (hp D (f_X12_goesOn fu s l).1 (f_X12_goesOn fu s l).2)) := by
  generalize he : (f_X12_goesOn fu s l) = res
  unfold f_X12_goesOn at he
  unfold p_X12_goesOn at hk
  refine r_weak (L1 := [some (.ref 60)]) ⟨rfl, trivial⟩ ?_
  refine r_aload_n rfl rfl ?_
  refine q_getfield rfl (cc_60 _) rfl ?_
  refine r_sipush_ (a := 400) rfl (by decide) ?_
  refine r_icmp_ne rfl (fun c_7 => ?_) (fun c_7 => ?_)
  · rw [if_neg c_7] at he
    replace hk := hk.2 c_7
    refine r_aload_n rfl rfl ?_
    refine r_dup rfl rfl ?_
    refine q_getfield rfl (cc_60 _) rfl ?_
    refine r_iconst_ (a := 1) rfl (by decide) ?_
    refine r_iadd rfl ?_
    refine w_put rfl (cc_60 _) ff_12_11 ft_12_11 (fun _ _ => (Nat.le_of_ble_eq_true rfl)) (fun _ _ => rfl) ?_
    refine r_ret rfl rfl ?_
    first | with_reducible exact fin_v he | exact fin_v he
  · rw [if_pos c_7] at he
    replace hk := hk.1 c_7
    refine r_aload_n rfl rfl ?_
    refine r_iconst_ (a := 2) rfl (by decide) ?_
    obtain ⟨hb0, hk⟩ := hk
    refine q_callV0 [_] _ rfl kY_X12_fail kT_X12_fail rfl rfl (Nat.le_of_ble_eq_true rfl) (Nat.le_of_ble_eq_true rfl) (cc_60 _) (s_X12_fail hb0) (fun r h q => ?_)
    obtain ⟨rfl, rfl⟩ := q
    simp only [Option.toList, List.cons_append, List.nil_append]
    refine r_goto rfl ?_
    refine r_ret rfl rfl ?_
    first | with_reducible exact fin_v he | exact fin_v he

def f_X1_varOf (fu : Nat) (v0 : Int32) (s : fl_I) (l : fl_L) : Int32 :=
  if (((-7 : Int32) - v0) < 0) then (0 : Int32) else if ((9 : Int32) ≤ ((-7 : Int32) - v0)) then (0 : Int32) else (s 48 ((-7 : Int32) - v0).toNatClampNeg)

def p_X1_varOf (fu : Nat) (v0 : Int32) (s : fl_I) (l : fl_L) : Prop :=
  (((((-7 : Int32) - v0) < 0) → True) ∧ (¬ (((-7 : Int32) - v0) < 0) → ((((9 : Int32) ≤ ((-7 : Int32) - v0)) → True) ∧ (¬ ((9 : Int32) ≤ ((-7 : Int32) - v0)) → (vp_in ((-7 : Int32) - v0) 9) ∧ True))))

set_option maxRecDepth 100000 in
set_option maxHeartbeats 1000000 in
theorem s_X1_varOf {G : ab_G} {fu : Nat} {d : Nat} {D : fl_D} {s : fl_I} {l : fl_L} {v0 : Int32} (hk : p_X1_varOf fu v0 s l) : ab_C G d 0 0 M_X1_varOf 0 (ab_ent [.ref 47, .int v0]) [] (hp D s l) (rt (some (.int (f_X1_varOf fu v0 s l))) (hp D s l)) := by
  generalize he : (f_X1_varOf fu v0 s l) = res
  unfold f_X1_varOf at he
  unfold p_X1_varOf at hk
  refine r_weak (L1 := [some (.ref 47), some (.int v0), none]) ⟨rfl, rfl, trivial⟩ ?_
  refine r_bipush_ (a := -7) rfl (by decide) ?_
  refine r_iload_n rfl rfl ?_
  refine r_isub rfl ?_
  refine r_istore_n rfl (Nat.le_of_ble_eq_true rfl) rfl ?_
  refine r_iload_n rfl rfl ?_
  refine r_if_lt rfl (fun c_6 => ?_) (fun c_6 => ?_)
  · rw [if_pos c_6] at he
    replace hk := hk.1 c_6
    refine r_iconst_ (a := 0) rfl (by decide) ?_
    refine r_iret rfl rfl rfl ?_
    first | with_reducible exact fin_ri he | exact fin_ri he
  · rw [if_neg c_6] at he
    replace hk := hk.2 c_6
    refine r_iload_n rfl rfl ?_
    refine r_bipush_ (a := 9) rfl (by decide) ?_
    refine r_icmp_ge rfl (fun c_12 => ?_) (fun c_12 => ?_)
    · rw [if_pos c_12] at he
      replace hk := hk.1 c_12
      refine r_iconst_ (a := 0) rfl (by decide) ?_
      refine r_iret rfl rfl rfl ?_
      first | with_reducible exact fin_ri he | exact fin_ri he
    · rw [if_neg c_12] at he
      replace hk := hk.2 c_12
      refine r_aload_n rfl rfl ?_
      refine q_getfield rfl (cc_47 _) rfl ?_
      refine r_iload_n rfl rfl ?_
      obtain ⟨hb0, hk⟩ := hk
      refine q_iald rfl (cc_48 _) hb0 ?_
      refine r_goto rfl ?_
      refine r_iret rfl rfl rfl ?_
      first | with_reducible exact fin_ri he | exact fin_ri he

def f_X3_kindNow (fu : Nat) (s : fl_I) (l : fl_L) : Int32 :=
  if ((s 3 2) < 0) then (1 : Int32) else if ((s 3 2) ≤ (400 : Int32)) then (s 5 (s 3 2).toNatClampNeg) else (1 : Int32)

def p_X3_kindNow (fu : Nat) (s : fl_I) (l : fl_L) : Prop :=
  ((((s 3 2) < 0) → True) ∧ (¬ ((s 3 2) < 0) → ((((s 3 2) ≤ (400 : Int32)) → (vp_in (s 3 2) 401) ∧ True) ∧ (¬ ((s 3 2) ≤ (400 : Int32)) → True))))

set_option maxRecDepth 100000 in
set_option maxHeartbeats 1000000 in
theorem s_X3_kindNow {G : ab_G} {fu : Nat} {d : Nat} {D : fl_D} {s : fl_I} {l : fl_L}  (hk : p_X3_kindNow fu s l) : ab_C G d 0 0 M_X3_kindNow 0 (ab_ent [.ref 3]) [] (hp D s l) (rt (some (.int (f_X3_kindNow fu s l))) (hp D s l)) := by
  generalize he : (f_X3_kindNow fu s l) = res
  unfold f_X3_kindNow at he
  unfold p_X3_kindNow at hk
  refine r_weak (L1 := [some (.ref 3)]) ⟨rfl, trivial⟩ ?_
  refine r_aload_n rfl rfl ?_
  refine q_getfield rfl (cc_3 _) rfl ?_
  refine r_if_lt rfl (fun c_4 => ?_) (fun c_4 => ?_)
  · rw [if_pos c_4] at he
    replace hk := hk.1 c_4
    refine r_iconst_ (a := 1) rfl (by decide) ?_
    refine r_goto rfl ?_
    refine r_iret rfl rfl rfl ?_
    first | with_reducible exact fin_ri he | exact fin_ri he
  · rw [if_neg c_4] at he
    replace hk := hk.2 c_4
    refine r_aload_n rfl rfl ?_
    refine q_getfield rfl (cc_3 _) rfl ?_
    refine r_sipush_ (a := 400) rfl (by decide) ?_
    refine r_icmp_le rfl (fun c_14 => ?_) (fun c_14 => ?_)
    · rw [if_pos c_14] at he
      replace hk := hk.1 c_14
      refine r_aload_n rfl rfl ?_
      refine q_getfield rfl (cc_3 _) rfl ?_
      refine q_getfield rfl (cc_4 _) rfl ?_
      refine r_aload_n rfl rfl ?_
      refine q_getfield rfl (cc_3 _) rfl ?_
      obtain ⟨hb0, hk⟩ := hk
      refine q_iald rfl (cc_5 _) hb0 ?_
      refine r_iret rfl rfl rfl ?_
      first | with_reducible exact fin_ri he | exact fin_ri he
    · rw [if_neg c_14] at he
      replace hk := hk.2 c_14
      refine r_iconst_ (a := 1) rfl (by decide) ?_
      refine r_goto rfl ?_
      refine r_iret rfl rfl rfl ?_
      first | with_reducible exact fin_ri he | exact fin_ri he

def f_X3_valueNow (fu : Nat) (s : fl_I) (l : fl_L) : Int64 :=
  if ((s 3 2) < 0) then (0 : Int64) else if ((s 3 2) ≤ (400 : Int32)) then (l 7 (s 3 2).toNatClampNeg) else (0 : Int64)

def p_X3_valueNow (fu : Nat) (s : fl_I) (l : fl_L) : Prop :=
  ((((s 3 2) < 0) → True) ∧ (¬ ((s 3 2) < 0) → ((((s 3 2) ≤ (400 : Int32)) → (vp_in (s 3 2) 401) ∧ True) ∧ (¬ ((s 3 2) ≤ (400 : Int32)) → True))))

set_option maxRecDepth 100000 in
set_option maxHeartbeats 1000000 in
theorem s_X3_valueNow {G : ab_G} {fu : Nat} {d : Nat} {D : fl_D} {s : fl_I} {l : fl_L}  (hk : p_X3_valueNow fu s l) : ab_C G d 0 0 M_X3_valueNow 0 (ab_ent [.ref 3]) [] (hp D s l) (rt (some (.long (f_X3_valueNow fu s l))) (hp D s l)) := by
  generalize he : (f_X3_valueNow fu s l) = res
  unfold f_X3_valueNow at he
  unfold p_X3_valueNow at hk
  refine r_weak (L1 := [some (.ref 3)]) ⟨rfl, trivial⟩ ?_
  refine r_aload_n rfl rfl ?_
  refine q_getfield rfl (cc_3 _) rfl ?_
  refine r_if_lt rfl (fun c_4 => ?_) (fun c_4 => ?_)
  · rw [if_pos c_4] at he
    replace hk := hk.1 c_4
    refine r_lconst (a := 0) rfl (by decide) ?_
    refine r_goto rfl ?_
    refine r_lret rfl rfl ?_
    first | with_reducible exact fin_rl he | exact fin_rl he
  · rw [if_neg c_4] at he
    replace hk := hk.2 c_4
    refine r_aload_n rfl rfl ?_
    refine q_getfield rfl (cc_3 _) rfl ?_
    refine r_sipush_ (a := 400) rfl (by decide) ?_
    refine r_icmp_le rfl (fun c_14 => ?_) (fun c_14 => ?_)
    · rw [if_pos c_14] at he
      replace hk := hk.1 c_14
      refine r_aload_n rfl rfl ?_
      refine q_getfield rfl (cc_3 _) rfl ?_
      refine q_getfield rfl (cc_4 _) rfl ?_
      refine r_aload_n rfl rfl ?_
      refine q_getfield rfl (cc_3 _) rfl ?_
      obtain ⟨hb0, hk⟩ := hk
      refine q_lald rfl (cc_7 _) hb0 ?_
      refine r_lret rfl rfl ?_
      first | with_reducible exact fin_rl he | exact fin_rl he
    · rw [if_neg c_14] at he
      replace hk := hk.2 c_14
      refine r_lconst (a := 0) rfl (by decide) ?_
      refine r_goto rfl ?_
      refine r_lret rfl rfl ?_
      first | with_reducible exact fin_rl he | exact fin_rl he

def f_X6_isBlank (fu : Nat) (v0 : Int32) : Int32 :=
  if (v0 = (9 : Int32)) then (1 : Int32) else if (v0 = (10 : Int32)) then (1 : Int32) else if (v0 = (13 : Int32)) then (1 : Int32) else if (v0 = (32 : Int32)) then (1 : Int32) else (0 : Int32)

def p_X6_isBlank (fu : Nat) (v0 : Int32) : Prop :=
  (((v0 = (9 : Int32)) → True) ∧ (¬ (v0 = (9 : Int32)) → (((v0 = (10 : Int32)) → True) ∧ (¬ (v0 = (10 : Int32)) → (((v0 = (13 : Int32)) → True) ∧ (¬ (v0 = (13 : Int32)) → (((v0 = (32 : Int32)) → True) ∧ (¬ (v0 = (32 : Int32)) → True))))))))

set_option maxRecDepth 100000 in
set_option maxHeartbeats 1000000 in
theorem s_X6_isBlank {G : ab_G} {fu : Nat} {d : Nat} {h : ab_H} {v0 : Int32} (hk : p_X6_isBlank fu v0) : ab_C G d 0 0 M_X6_isBlank 0 (ab_ent [.int v0]) [] h (rt (some (.int (f_X6_isBlank fu v0))) h) := by
  generalize he : (f_X6_isBlank fu v0) = res
  unfold f_X6_isBlank at he
  unfold p_X6_isBlank at hk
  refine r_weak (L1 := [some (.int v0)]) ⟨rfl, trivial⟩ ?_
  refine r_iload_n rfl rfl ?_
  refine r_bipush_ (a := 9) rfl (by decide) ?_
  refine r_icmp_eq rfl (fun c_3 => ?_) (fun c_3 => ?_)
  · rw [if_pos c_3] at he
    replace hk := hk.1 c_3
    refine r_iconst_ (a := 1) rfl (by decide) ?_
    refine r_goto rfl ?_
    refine r_iret rfl rfl rfl ?_
    first | with_reducible exact fin_ri he | exact fin_ri he
  · rw [if_neg c_3] at he
    replace hk := hk.2 c_3
    refine r_iload_n rfl rfl ?_
    refine r_bipush_ (a := 10) rfl (by decide) ?_
    refine r_icmp_eq rfl (fun c_9 => ?_) (fun c_9 => ?_)
    · rw [if_pos c_9] at he
      replace hk := hk.1 c_9
      refine r_iconst_ (a := 1) rfl (by decide) ?_
      refine r_goto rfl ?_
      refine r_iret rfl rfl rfl ?_
      first | with_reducible exact fin_ri he | exact fin_ri he
    · rw [if_neg c_9] at he
      replace hk := hk.2 c_9
      refine r_iload_n rfl rfl ?_
      refine r_bipush_ (a := 13) rfl (by decide) ?_
      refine r_icmp_eq rfl (fun c_15 => ?_) (fun c_15 => ?_)
      · rw [if_pos c_15] at he
        replace hk := hk.1 c_15
        refine r_iconst_ (a := 1) rfl (by decide) ?_
        refine r_goto rfl ?_
        refine r_iret rfl rfl rfl ?_
        first | with_reducible exact fin_ri he | exact fin_ri he
      · rw [if_neg c_15] at he
        replace hk := hk.2 c_15
        refine r_iload_n rfl rfl ?_
        refine r_bipush_ (a := 32) rfl (by decide) ?_
        refine r_icmp_ne rfl (fun c_21 => ?_) (fun c_21 => ?_)
        · rw [if_neg c_21] at he
          replace hk := hk.2 c_21
          refine r_iconst_ (a := 0) rfl (by decide) ?_
          refine r_iret rfl rfl rfl ?_
          first | with_reducible exact fin_ri he | exact fin_ri he
        · rw [if_pos c_21] at he
          replace hk := hk.1 c_21
          refine r_iconst_ (a := 1) rfl (by decide) ?_
          refine r_goto rfl ?_
          refine r_iret rfl rfl rfl ?_
          first | with_reducible exact fin_ri he | exact fin_ri he

def f_X11_lot (fu : Nat) (v0 : Int32) (v1 : Int32) (v2 : Int32) : Int32 :=
  if (v0 ≤ 0) then (0 : Int32) else ((i_ushr (f_X11_stirred fu (f_X11_stirred fu v1 (145 : Int32)) v2) (1 : Int32)) - (i_ushr (f_X11_stirred fu (f_X11_stirred fu v1 (145 : Int32)) v2) (1 : Int32)) / v0 * v0)

def p_X11_lot (fu : Nat) (v0 : Int32) (v1 : Int32) (v2 : Int32) : Prop :=
  (p_X11_stirred fu v1 (145 : Int32)) ∧ (p_X11_stirred fu (f_X11_stirred fu v1 (145 : Int32)) v2) ∧ (((v0 ≤ 0) → True) ∧ (¬ (v0 ≤ 0) → (¬ v0 = 0) ∧ True))

set_option maxRecDepth 100000 in
set_option maxHeartbeats 1000000 in
theorem s_X11_lot {G : ab_G} {fu : Nat} {d : Nat} {h : ab_H} {v0 : Int32} {v1 : Int32} {v2 : Int32} (hk : p_X11_lot fu v0 v1 v2) : ab_C G (d + 1) 0 0 M_X11_lot 0 (ab_ent [.int v0, .int v1, .int v2]) [] h (rt (some (.int (f_X11_lot fu v0 v1 v2))) h) := by
  generalize he : (f_X11_lot fu v0 v1 v2) = res
  unfold f_X11_lot at he
  unfold p_X11_lot at hk
  refine r_weak (L1 := [some (.int v0), some (.int v1), some (.int v2), none]) ⟨rfl, rfl, rfl, trivial⟩ ?_
  refine r_iload_n rfl rfl ?_
  refine r_sipush_ (a := 145) rfl (by decide) ?_
  obtain ⟨hb0, hk⟩ := hk
  refine r_callS0 [_, _] _ rfl kY_X11_stirred kT_X11_stirred rfl rfl (Nat.le_of_ble_eq_true rfl) (Nat.le_of_ble_eq_true rfl) (s_X11_stirred hb0) (fun r h q => ?_)
  obtain ⟨rfl, rfl⟩ := q
  simp only [Option.toList, List.cons_append, List.nil_append]
  refine r_iload_n rfl rfl ?_
  obtain ⟨hb1, hk⟩ := hk
  refine r_callS0 [_, _] _ rfl kY_X11_stirred kT_X11_stirred rfl rfl (Nat.le_of_ble_eq_true rfl) (Nat.le_of_ble_eq_true rfl) (s_X11_stirred hb1) (fun r h q => ?_)
  obtain ⟨rfl, rfl⟩ := q
  simp only [Option.toList, List.cons_append, List.nil_append]
  refine r_istore_n rfl (Nat.le_of_ble_eq_true rfl) rfl ?_
  refine r_iload_n rfl rfl ?_
  refine r_if_le rfl (fun c_13 => ?_) (fun c_13 => ?_)
  · rw [if_pos c_13] at he
    replace hk := hk.1 c_13
    refine r_iconst_ (a := 0) rfl (by decide) ?_
    refine r_iret rfl rfl rfl ?_
    first | with_reducible exact fin_ri he | exact fin_ri he
  · rw [if_neg c_13] at he
    replace hk := hk.2 c_13
    refine r_iload_n rfl rfl ?_
    refine r_iconst_ (a := 1) rfl (by decide) ?_
    refine r_iushr rfl ?_
    refine r_iload_n rfl rfl ?_
    obtain ⟨hb2, hk⟩ := hk
    refine r_irem rfl hb2 ?_
    refine r_goto rfl ?_
    refine r_iret rfl rfl rfl ?_
    first | with_reducible exact fin_ri he | exact fin_ri he

def f_X11_signAt (fu : Nat) (v0 : Int64) (v1 : Int32) : Int32 :=
  if (v1 < 0) then (0 : Int32) else if (v1 < (8 : Int32)) then ((l_ushr v0 ((5 : Int32) * v1)).toInt32 &&& (31 : Int32)) else (0 : Int32)

def p_X11_signAt (fu : Nat) (v0 : Int64) (v1 : Int32) : Prop :=
  (((v1 < 0) → True) ∧ (¬ (v1 < 0) → (((v1 < (8 : Int32)) → True) ∧ (¬ (v1 < (8 : Int32)) → True))))

set_option maxRecDepth 100000 in
set_option maxHeartbeats 1000000 in
theorem s_X11_signAt {G : ab_G} {fu : Nat} {d : Nat} {h : ab_H} {v0 : Int64} {v1 : Int32} (hk : p_X11_signAt fu v0 v1) : ab_C G d 0 0 M_X11_signAt 0 (ab_ent [.long v0, .int v1]) [] h (rt (some (.int (f_X11_signAt fu v0 v1))) h) := by
  generalize he : (f_X11_signAt fu v0 v1) = res
  unfold f_X11_signAt at he
  unfold p_X11_signAt at hk
  refine r_weak (L1 := [some (.long v0), none, some (.int v1)]) ⟨rfl, rfl, trivial⟩ ?_
  refine r_iload_n rfl rfl ?_
  refine r_if_lt rfl (fun c_1 => ?_) (fun c_1 => ?_)
  · rw [if_pos c_1] at he
    replace hk := hk.1 c_1
    refine r_iconst_ (a := 0) rfl (by decide) ?_
    refine r_goto rfl ?_
    refine r_iret rfl rfl rfl ?_
    first | with_reducible exact fin_ri he | exact fin_ri he
  · rw [if_neg c_1] at he
    replace hk := hk.2 c_1
    refine r_iload_n rfl rfl ?_
    refine r_bipush_ (a := 8) rfl (by decide) ?_
    refine r_icmp_lt rfl (fun c_7 => ?_) (fun c_7 => ?_)
    · rw [if_pos c_7] at he
      replace hk := hk.1 c_7
      refine r_lload_n rfl rfl ?_
      refine r_iconst_ (a := 5) rfl (by decide) ?_
      refine r_iload_n rfl rfl ?_
      refine r_imul rfl ?_
      refine r_lushr rfl ?_
      refine r_l2i rfl ?_
      refine r_bipush_ (a := 31) rfl (by decide) ?_
      refine r_iand rfl ?_
      refine r_iret rfl rfl rfl ?_
      first | with_reducible exact fin_ri he | exact fin_ri he
    · rw [if_neg c_7] at he
      replace hk := hk.2 c_7
      refine r_iconst_ (a := 0) rfl (by decide) ?_
      refine r_goto rfl ?_
      refine r_iret rfl rfl rfl ?_
      first | with_reducible exact fin_ri he | exact fin_ri he

def f_X11_withSign (fu : Nat) (v0 : Int64) (v1 : Int32) (v2 : Int32) : Int64 :=
  if (v1 < 0) then v0 else if (v1 < (8 : Int32)) then (v0 ||| (l_shl v2.toInt64 ((5 : Int32) * v1))) else v0

def p_X11_withSign (fu : Nat) (v0 : Int64) (v1 : Int32) (v2 : Int32) : Prop :=
  (((v1 < 0) → True) ∧ (¬ (v1 < 0) → (((v1 < (8 : Int32)) → True) ∧ (¬ (v1 < (8 : Int32)) → True))))

set_option maxRecDepth 100000 in
set_option maxHeartbeats 1000000 in
theorem s_X11_withSign {G : ab_G} {fu : Nat} {d : Nat} {h : ab_H} {v0 : Int64} {v1 : Int32} {v2 : Int32} (hk : p_X11_withSign fu v0 v1 v2) : ab_C G d 0 0 M_X11_withSign 0 (ab_ent [.long v0, .int v1, .int v2]) [] h (rt (some (.long (f_X11_withSign fu v0 v1 v2))) h) := by
  generalize he : (f_X11_withSign fu v0 v1 v2) = res
  unfold f_X11_withSign at he
  unfold p_X11_withSign at hk
  refine r_weak (L1 := [some (.long v0), none, some (.int v1), some (.int v2)]) ⟨rfl, rfl, rfl, trivial⟩ ?_
  refine r_iload_n rfl rfl ?_
  refine r_if_lt rfl (fun c_1 => ?_) (fun c_1 => ?_)
  · rw [if_pos c_1] at he
    replace hk := hk.1 c_1
    refine r_lload_n rfl rfl ?_
    refine r_goto rfl ?_
    refine r_lret rfl rfl ?_
    first | with_reducible exact fin_rl he | exact fin_rl he
  · rw [if_neg c_1] at he
    replace hk := hk.2 c_1
    refine r_iload_n rfl rfl ?_
    refine r_bipush_ (a := 8) rfl (by decide) ?_
    refine r_icmp_lt rfl (fun c_7 => ?_) (fun c_7 => ?_)
    · rw [if_pos c_7] at he
      replace hk := hk.1 c_7
      refine r_lload_n rfl rfl ?_
      refine r_iload_n rfl rfl ?_
      refine r_i2l rfl ?_
      refine r_iconst_ (a := 5) rfl (by decide) ?_
      refine r_iload_n rfl rfl ?_
      refine r_imul rfl ?_
      refine r_lshl rfl ?_
      refine r_lor rfl ?_
      refine r_lret rfl rfl ?_
      first | with_reducible exact fin_rl he | exact fin_rl he
    · rw [if_neg c_7] at he
      replace hk := hk.2 c_7
      refine r_lload_n rfl rfl ?_
      refine r_goto rfl ?_
      refine r_lret rfl rfl ?_
      first | with_reducible exact fin_rl he | exact fin_rl he

def f_X12_word (fu : Nat) (v0 : Int32) (v1 : Int32) (v2 : Int32) (v3 : Int32) (v4 : Int32) (v5 : Int32) (v6 : Int32) : Int64 :=
  (f_X12_appends fu (f_X12_appends fu (f_X12_appends fu (f_X12_appends fu (f_X12_appends fu (f_X12_appends fu (f_X12_appends fu (0 : Int64) v0) v1) v2) v3) v4) v5) v6)

def p_X12_word (fu : Nat) (v0 : Int32) (v1 : Int32) (v2 : Int32) (v3 : Int32) (v4 : Int32) (v5 : Int32) (v6 : Int32) : Prop :=
  (p_X12_appends fu (0 : Int64) v0) ∧ (p_X12_appends fu (f_X12_appends fu (0 : Int64) v0) v1) ∧ (p_X12_appends fu (f_X12_appends fu (f_X12_appends fu (0 : Int64) v0) v1) v2) ∧ (p_X12_appends fu (f_X12_appends fu (f_X12_appends fu (f_X12_appends fu (0 : Int64) v0) v1) v2) v3) ∧ (p_X12_appends fu (f_X12_appends fu (f_X12_appends fu (f_X12_appends fu (f_X12_appends fu (0 : Int64) v0) v1) v2) v3) v4) ∧ (p_X12_appends fu (f_X12_appends fu (f_X12_appends fu (f_X12_appends fu (f_X12_appends fu (f_X12_appends fu (0 : Int64) v0) v1) v2) v3) v4) v5) ∧ (p_X12_appends fu (f_X12_appends fu (f_X12_appends fu (f_X12_appends fu (f_X12_appends fu (f_X12_appends fu (f_X12_appends fu (0 : Int64) v0) v1) v2) v3) v4) v5) v6) ∧ True

set_option maxRecDepth 100000 in
set_option maxHeartbeats 1000000 in
theorem s_X12_word {G : ab_G} {fu : Nat} {d : Nat} {h : ab_H} {v0 : Int32} {v1 : Int32} {v2 : Int32} {v3 : Int32} {v4 : Int32} {v5 : Int32} {v6 : Int32} (hk : p_X12_word fu v0 v1 v2 v3 v4 v5 v6) : ab_C G (d + 1) 0 0 M_X12_word 0 (ab_ent [.int v0, .int v1, .int v2, .int v3, .int v4, .int v5, .int v6]) [] h (rt (some (.long (f_X12_word fu v0 v1 v2 v3 v4 v5 v6))) h) := by
  generalize he : (f_X12_word fu v0 v1 v2 v3 v4 v5 v6) = res
  unfold f_X12_word at he
  unfold p_X12_word at hk
  refine r_weak (L1 := [some (.int v0), some (.int v1), some (.int v2), some (.int v3), some (.int v4), some (.int v5), some (.int v6)]) ⟨rfl, rfl, rfl, rfl, rfl, rfl, rfl, trivial⟩ ?_
  refine r_lconst (a := 0) rfl (by decide) ?_
  refine r_iload_n rfl rfl ?_
  obtain ⟨hb0, hk⟩ := hk
  refine r_callS0 [_, _] _ rfl kY_X12_appends kT_X12_appends rfl rfl (Nat.le_of_ble_eq_true rfl) (Nat.le_of_ble_eq_true rfl) (s_X12_appends hb0) (fun r h q => ?_)
  obtain ⟨rfl, rfl⟩ := q
  simp only [Option.toList, List.cons_append, List.nil_append]
  refine r_iload_n rfl rfl ?_
  obtain ⟨hb1, hk⟩ := hk
  refine r_callS0 [_, _] _ rfl kY_X12_appends kT_X12_appends rfl rfl (Nat.le_of_ble_eq_true rfl) (Nat.le_of_ble_eq_true rfl) (s_X12_appends hb1) (fun r h q => ?_)
  obtain ⟨rfl, rfl⟩ := q
  simp only [Option.toList, List.cons_append, List.nil_append]
  refine r_iload_n rfl rfl ?_
  obtain ⟨hb2, hk⟩ := hk
  refine r_callS0 [_, _] _ rfl kY_X12_appends kT_X12_appends rfl rfl (Nat.le_of_ble_eq_true rfl) (Nat.le_of_ble_eq_true rfl) (s_X12_appends hb2) (fun r h q => ?_)
  obtain ⟨rfl, rfl⟩ := q
  simp only [Option.toList, List.cons_append, List.nil_append]
  refine r_iload_n rfl rfl ?_
  obtain ⟨hb3, hk⟩ := hk
  refine r_callS0 [_, _] _ rfl kY_X12_appends kT_X12_appends rfl rfl (Nat.le_of_ble_eq_true rfl) (Nat.le_of_ble_eq_true rfl) (s_X12_appends hb3) (fun r h q => ?_)
  obtain ⟨rfl, rfl⟩ := q
  simp only [Option.toList, List.cons_append, List.nil_append]
  refine r_iload rfl rfl ?_
  obtain ⟨hb4, hk⟩ := hk
  refine r_callS0 [_, _] _ rfl kY_X12_appends kT_X12_appends rfl rfl (Nat.le_of_ble_eq_true rfl) (Nat.le_of_ble_eq_true rfl) (s_X12_appends hb4) (fun r h q => ?_)
  obtain ⟨rfl, rfl⟩ := q
  simp only [Option.toList, List.cons_append, List.nil_append]
  refine r_iload rfl rfl ?_
  obtain ⟨hb5, hk⟩ := hk
  refine r_callS0 [_, _] _ rfl kY_X12_appends kT_X12_appends rfl rfl (Nat.le_of_ble_eq_true rfl) (Nat.le_of_ble_eq_true rfl) (s_X12_appends hb5) (fun r h q => ?_)
  obtain ⟨rfl, rfl⟩ := q
  simp only [Option.toList, List.cons_append, List.nil_append]
  refine r_iload rfl rfl ?_
  obtain ⟨hb6, hk⟩ := hk
  refine r_callS0 [_, _] _ rfl kY_X12_appends kT_X12_appends rfl rfl (Nat.le_of_ble_eq_true rfl) (Nat.le_of_ble_eq_true rfl) (s_X12_appends hb6) (fun r h q => ?_)
  obtain ⟨rfl, rfl⟩ := q
  simp only [Option.toList, List.cons_append, List.nil_append]
  refine r_lret rfl rfl ?_
  first | with_reducible exact fin_rl he | exact fin_rl he

def f_X12_lengthOf_4 (fu : Nat) : Nat → Int32 → Int64 → Int32
  | 0, _, _ => 0
  | n + 1, x2, x3 =>
    if ((lg_cmp x3 (0 : Int64)) ≤ 0) then x2 else f_X12_lengthOf_4 fu n (x2 + 1) (x3 / (27 : Int64))

def p_X12_lengthOf_4 (fu : Nat) : Nat → Int32 → Int64 → Prop
  | 0, _, _ => False
  | n + 1, x2, x3 =>
    ((((lg_cmp x3 (0 : Int64)) ≤ 0) → True) ∧ (¬ ((lg_cmp x3 (0 : Int64)) ≤ 0) → p_X12_lengthOf_4 fu n (x2 + 1) (x3 / (27 : Int64))))

set_option maxRecDepth 100000 in
set_option maxHeartbeats 1000000 in
theorem lp_X12_lengthOf_4 {G : ab_G} {fu : Nat} {d : Nat} {h : ab_H} : ∀ (n : Nat) (x2 : Int32) (x3 : Int64), p_X12_lengthOf_4 fu n x2 x3 → ab_C G d 0 0 M_X12_lengthOf 4 [none, none, some (.int x2), some (.long x3), none] [] h (rt (some (.int (f_X12_lengthOf_4 fu n x2 x3))) h) := by
  intro n
  induction n with
  | zero => intro x2 x3 hk; exact hk.elim
  | succ n ih =>
    intro x2 x3 hk
    generalize he : f_X12_lengthOf_4 fu (n + 1) x2 x3 = res
    unfold f_X12_lengthOf_4 at he
    unfold p_X12_lengthOf_4 at hk
    refine r_lload_n rfl rfl ?_
    refine r_lconst (a := 0) rfl (by decide) ?_
    refine r_lcmp rfl ?_
    refine r_if_le rfl (fun c_7 => ?_) (fun c_7 => ?_)
    · rw [if_pos c_7] at he
      replace hk := hk.1 c_7
      refine r_iload_n rfl rfl ?_
      refine r_iret rfl rfl rfl ?_
      first | with_reducible exact fin_ri he | exact fin_ri he
    · rw [if_neg c_7] at he
      replace hk := hk.2 c_7
      refine r_lload_n rfl rfl ?_
      refine r_ldc2_w rfl ?_
      refine r_ldiv rfl (by decide) ?_
      refine r_lstore_n rfl (Nat.le_of_ble_eq_true rfl) rfl ?_
      refine r_iinc (b := x2 + 1) rfl rfl rfl (Nat.le_of_ble_eq_true rfl) rfl ?_
      refine r_goto rfl ?_
      subst he
      exact r_weak (L1 := [none, none, some (.int (x2 + 1)), some (.long (x3 / (27 : Int64))), none]) ⟨rfl, rfl, trivial⟩ (ih _ _ hk)

def f_X12_lengthOf (fu : Nat) (v0 : Int64) : Int32 :=
  f_X12_lengthOf_4 fu fu (0 : Int32) v0

def p_X12_lengthOf (fu : Nat) (v0 : Int64) : Prop :=
  p_X12_lengthOf_4 fu fu (0 : Int32) v0

set_option maxRecDepth 100000 in
set_option maxHeartbeats 1000000 in
theorem s_X12_lengthOf {G : ab_G} {fu : Nat} {d : Nat} {h : ab_H} {v0 : Int64} (hk : p_X12_lengthOf fu v0) : ab_C G d 0 0 M_X12_lengthOf 0 (ab_ent [.long v0]) [] h (rt (some (.int (f_X12_lengthOf fu v0))) h) := by
  generalize he : (f_X12_lengthOf fu v0) = res
  unfold f_X12_lengthOf at he
  unfold p_X12_lengthOf at hk
  refine r_weak (L1 := [some (.long v0), none, none, none, none]) ⟨rfl, trivial⟩ ?_
  refine r_iconst_ (a := 0) rfl (by decide) ?_
  refine r_istore_n rfl (Nat.le_of_ble_eq_true rfl) rfl ?_
  refine r_lload_n rfl rfl ?_
  refine r_lstore_n rfl (Nat.le_of_ble_eq_true rfl) rfl ?_
  subst he
  exact r_weak (L1 := [none, none, some (.int (0 : Int32)), some (.long v0), none]) ⟨rfl, rfl, trivial⟩ (lp_X12_lengthOf_4 fu _ _ hk)

def f_X12_stepsOff (fu : Nat) (v0 : Int32) (v1 : Int32) : Int32 :=
  ((f_X12_off fu (v0 - v0 / (10 : Int32) * (10 : Int32)) (v1 - v1 / (10 : Int32) * (10 : Int32))) + (f_X12_off fu (v0 / (10 : Int32)) (v1 / (10 : Int32))))

def p_X12_stepsOff (fu : Nat) (v0 : Int32) (v1 : Int32) : Prop :=
  (p_X12_off fu (v0 - v0 / (10 : Int32) * (10 : Int32)) (v1 - v1 / (10 : Int32) * (10 : Int32))) ∧ (p_X12_off fu (v0 / (10 : Int32)) (v1 / (10 : Int32))) ∧ True

set_option maxRecDepth 100000 in
set_option maxHeartbeats 1000000 in
theorem s_X12_stepsOff {G : ab_G} {fu : Nat} {d : Nat} {h : ab_H} {v0 : Int32} {v1 : Int32} (hk : p_X12_stepsOff fu v0 v1) : ab_C G (d + 1) 0 0 M_X12_stepsOff 0 (ab_ent [.int v0, .int v1]) [] h (rt (some (.int (f_X12_stepsOff fu v0 v1))) h) := by
  generalize he : (f_X12_stepsOff fu v0 v1) = res
  unfold f_X12_stepsOff at he
  unfold p_X12_stepsOff at hk
  refine r_weak (L1 := [some (.int v0), some (.int v1)]) ⟨rfl, rfl, trivial⟩ ?_
  refine r_iload_n rfl rfl ?_
  refine r_bipush_ (a := 10) rfl (by decide) ?_
  refine r_irem rfl (by decide) ?_
  refine r_iload_n rfl rfl ?_
  refine r_bipush_ (a := 10) rfl (by decide) ?_
  refine r_irem rfl (by decide) ?_
  obtain ⟨hb0, hk⟩ := hk
  refine r_callS0 [_, _] _ rfl kY_X12_off kT_X12_off rfl rfl (Nat.le_of_ble_eq_true rfl) (Nat.le_of_ble_eq_true rfl) (s_X12_off hb0) (fun r h q => ?_)
  obtain ⟨rfl, rfl⟩ := q
  simp only [Option.toList, List.cons_append, List.nil_append]
  refine r_iload_n rfl rfl ?_
  refine r_bipush_ (a := 10) rfl (by decide) ?_
  refine r_idiv rfl (by decide) ?_
  refine r_iload_n rfl rfl ?_
  refine r_bipush_ (a := 10) rfl (by decide) ?_
  refine r_idiv rfl (by decide) ?_
  obtain ⟨hb1, hk⟩ := hk
  refine r_callS0 [_, _] _ rfl kY_X12_off kT_X12_off rfl rfl (Nat.le_of_ble_eq_true rfl) (Nat.le_of_ble_eq_true rfl) (s_X12_off hb1) (fun r h q => ?_)
  obtain ⟨rfl, rfl⟩ := q
  simp only [Option.toList, List.cons_append, List.nil_append]
  refine r_iadd rfl ?_
  refine r_iret rfl rfl rfl ?_
  first | with_reducible exact fin_ri he | exact fin_ri he

def f_X12_keepsRow_2 (fu : Nat) : Nat → Int32 → fl_I → fl_L → fl_I × fl_L
  | 0, x1, s, l => (s, l)
  | n + 1, x1, s, l =>
    if ((141 : Int32) ≤ x1) then (s, l) else f_X12_keepsRow_2 fu n (x1 + 1) (wi s 94 x1.toNatClampNeg (s 95 x1.toNatClampNeg)) l

def p_X12_keepsRow_2 (fu : Nat) : Nat → Int32 → fl_I → fl_L → Prop
  | 0, _, _, _ => False
  | n + 1, x1, s, l =>
    ((((141 : Int32) ≤ x1) → True) ∧ (¬ ((141 : Int32) ≤ x1) → (vp_in x1 141) ∧ (vp_in x1 141) ∧ p_X12_keepsRow_2 fu n (x1 + 1) (wi s 94 x1.toNatClampNeg (s 95 x1.toNatClampNeg)) l))

set_option maxRecDepth 100000 in
set_option maxHeartbeats 1000000 in
theorem lp_X12_keepsRow_2 {G : ab_G} {fu : Nat} {d : Nat} {D : fl_D} : ∀ (n : Nat) (x1 : Int32) (s : fl_I) (l : fl_L), p_X12_keepsRow_2 fu n x1 s l → ab_C G d 0 0 M_X12_keepsRow 2 [some (.ref 60), some (.int x1)] [] (hp D s l) (rt none (hp D (f_X12_keepsRow_2 fu n x1 s l).1 (f_X12_keepsRow_2 fu n x1 s l).2)) := by
  intro n
  induction n with
  | zero => intro x1 s l hk; exact hk.elim
  | succ n ih =>
    intro x1 s l hk
    generalize he : f_X12_keepsRow_2 fu (n + 1) x1 s l = res
    unfold f_X12_keepsRow_2 at he
    unfold p_X12_keepsRow_2 at hk
    refine r_iload_n rfl rfl ?_
    refine r_sipush_ (a := 141) rfl (by decide) ?_
    refine r_icmp_ge rfl (fun c_6 => ?_) (fun c_6 => ?_)
    · rw [if_pos c_6] at he
      replace hk := hk.1 c_6
      refine r_ret rfl rfl ?_
      first | with_reducible exact fin_v he | exact fin_v he
    · rw [if_neg c_6] at he
      replace hk := hk.2 c_6
      refine r_aload_n rfl rfl ?_
      refine q_getfield rfl (cc_60 _) rfl ?_
      refine r_iload_n rfl rfl ?_
      refine r_aload_n rfl rfl ?_
      refine q_getfield rfl (cc_60 _) rfl ?_
      refine r_iload_n rfl rfl ?_
      obtain ⟨hb0, hk⟩ := hk
      refine q_iald rfl (cc_95 _) hb0 ?_
      obtain ⟨hb1, hk⟩ := hk
      refine w_iast rfl (cc_94 _) hb1 ?_
      refine r_iinc (b := x1 + 1) rfl rfl rfl (Nat.le_of_ble_eq_true rfl) rfl ?_
      refine r_goto rfl ?_
      subst he
      exact r_weak (L1 := [some (.ref 60), some (.int (x1 + 1))]) ⟨rfl, rfl, trivial⟩ (ih _ _ _ hk)

def f_X12_keepsRow (fu : Nat) (s : fl_I) (l : fl_L) : fl_I × fl_L :=
  f_X12_keepsRow_2 fu fu (0 : Int32) s l

def p_X12_keepsRow (fu : Nat) (s : fl_I) (l : fl_L) : Prop :=
  p_X12_keepsRow_2 fu fu (0 : Int32) s l

set_option maxRecDepth 100000 in
set_option maxHeartbeats 1000000 in
theorem s_X12_keepsRow {G : ab_G} {fu : Nat} {d : Nat} {D : fl_D} {s : fl_I} {l : fl_L}  (hk : p_X12_keepsRow fu s l) : ab_C G d 0 0 M_X12_keepsRow 0 (ab_ent [.ref 60]) [] (hp D s l) (rt none (hp D (f_X12_keepsRow fu s l).1 (f_X12_keepsRow fu s l).2)) := by
  generalize he : (f_X12_keepsRow fu s l) = res
  unfold f_X12_keepsRow at he
  unfold p_X12_keepsRow at hk
  refine r_weak (L1 := [some (.ref 60), none]) ⟨rfl, trivial⟩ ?_
  refine r_iconst_ (a := 0) rfl (by decide) ?_
  refine r_istore_n rfl (Nat.le_of_ble_eq_true rfl) rfl ?_
  subst he
  exact r_weak (L1 := [some (.ref 60), some (.int (0 : Int32))]) ⟨rfl, rfl, trivial⟩ (lp_X12_keepsRow_2 fu _ _ _ hk)

def f_X12_cellOfPicker (fu : Nat) (v0 : Int32) (s : fl_I) (l : fl_L) : Int32 :=
  (((10 : Int32) * (s 95 ((132 : Int32) + v0).toNatClampNeg)) + (s 95 ((128 : Int32) + v0).toNatClampNeg))

def p_X12_cellOfPicker (fu : Nat) (v0 : Int32) (s : fl_I) (l : fl_L) : Prop :=
  (vp_in ((132 : Int32) + v0) 141) ∧ (vp_in ((128 : Int32) + v0) 141) ∧ True

set_option maxRecDepth 100000 in
set_option maxHeartbeats 1000000 in
theorem s_X12_cellOfPicker {G : ab_G} {fu : Nat} {d : Nat} {D : fl_D} {s : fl_I} {l : fl_L} {v0 : Int32} (hk : p_X12_cellOfPicker fu v0 s l) : ab_C G d 0 0 M_X12_cellOfPicker 0 (ab_ent [.ref 60, .int v0]) [] (hp D s l) (rt (some (.int (f_X12_cellOfPicker fu v0 s l))) (hp D s l)) := by
  generalize he : (f_X12_cellOfPicker fu v0 s l) = res
  unfold f_X12_cellOfPicker at he
  unfold p_X12_cellOfPicker at hk
  refine r_weak (L1 := [some (.ref 60), some (.int v0)]) ⟨rfl, rfl, trivial⟩ ?_
  refine r_bipush_ (a := 10) rfl (by decide) ?_
  refine r_aload_n rfl rfl ?_
  refine q_getfield rfl (cc_60 _) rfl ?_
  refine r_sipush_ (a := 132) rfl (by decide) ?_
  refine r_iload_n rfl rfl ?_
  refine r_iadd rfl ?_
  obtain ⟨hb0, hk⟩ := hk
  refine q_iald rfl (cc_95 _) hb0 ?_
  refine r_imul rfl ?_
  refine r_aload_n rfl rfl ?_
  refine q_getfield rfl (cc_60 _) rfl ?_
  refine r_sipush_ (a := 128) rfl (by decide) ?_
  refine r_iload_n rfl rfl ?_
  refine r_iadd rfl ?_
  obtain ⟨hb1, hk⟩ := hk
  refine q_iald rfl (cc_95 _) hb1 ?_
  refine r_iadd rfl ?_
  refine r_iret rfl rfl rfl ?_
  first | with_reducible exact fin_ri he | exact fin_ri he

def f_X12_back (fu : Nat) (v0 : Int32) (s : fl_I) (l : fl_L) : Int32 × fl_I × fl_L :=
  if (v0 < 0) then ((-1 : Int32), s, l) else if (v0 ≤ (s 60 2)) then (((wi s 60 2 ((s 60 2) - v0)) 60 2), (wi s 60 2 ((s 60 2) - v0)), l) else ((-1 : Int32), s, l)

def p_X12_back (fu : Nat) (v0 : Int32) (s : fl_I) (l : fl_L) : Prop :=
  (((v0 < 0) → True) ∧ (¬ (v0 < 0) → (((v0 ≤ (s 60 2)) → True) ∧ (¬ (v0 ≤ (s 60 2)) → True))))

set_option maxRecDepth 100000 in
set_option maxHeartbeats 1000000 in
theorem s_X12_back {G : ab_G} {fu : Nat} {d : Nat} {D : fl_D} {s : fl_I} {l : fl_L} {v0 : Int32} (hk : p_X12_back fu v0 s l) : ab_C G d 0 0 M_X12_back 0 (ab_ent [.ref 60, .int v0]) [] (hp D s l) (rt (some (.int (f_X12_back fu v0 s l).1)) (hp D (f_X12_back fu v0 s l).2.1 (f_X12_back fu v0 s l).2.2)) := by
  generalize he : (f_X12_back fu v0 s l) = res
  unfold f_X12_back at he
  unfold p_X12_back at hk
  refine r_weak (L1 := [some (.ref 60), some (.int v0)]) ⟨rfl, rfl, trivial⟩ ?_
  refine r_iload_n rfl rfl ?_
  refine r_if_lt rfl (fun c_1 => ?_) (fun c_1 => ?_)
  · rw [if_pos c_1] at he
    replace hk := hk.1 c_1
    refine r_iconst_ (a := -1) rfl (by decide) ?_
    refine r_iret rfl rfl rfl ?_
    first | with_reducible exact fin_i he | exact fin_i he
  · rw [if_neg c_1] at he
    replace hk := hk.2 c_1
    refine r_iload_n rfl rfl ?_
    refine r_aload_n rfl rfl ?_
    refine q_getfield rfl (cc_60 _) rfl ?_
    refine r_icmp_le rfl (fun c_9 => ?_) (fun c_9 => ?_)
    · rw [if_pos c_9] at he
      replace hk := hk.1 c_9
      refine r_aload_n rfl rfl ?_
      refine r_dup rfl rfl ?_
      refine q_getfield rfl (cc_60 _) rfl ?_
      refine r_iload_n rfl rfl ?_
      refine r_isub rfl ?_
      refine w_put rfl (cc_60 _) ff_12_2 ft_12_2 (fun _ _ => (Nat.le_of_ble_eq_true rfl)) (fun _ _ => rfl) ?_
      refine r_aload_n rfl rfl ?_
      refine q_getfield rfl (cc_60 _) rfl ?_
      refine r_iret rfl rfl rfl ?_
      first | with_reducible exact fin_i he | exact fin_i he
    · rw [if_neg c_9] at he
      replace hk := hk.2 c_9
      refine r_iconst_ (a := -1) rfl (by decide) ?_
      refine r_iret rfl rfl rfl ?_
      first | with_reducible exact fin_i he | exact fin_i he

def f_X12_lieMany_4 (fu : Nat) : Nat → Int32 → Int32 → fl_I → fl_L → Int32
  | 0, _, _, _, _ => 0
  | n + 1, x1, x2, s, l =>
    if ((s 60 54) ≤ x2) then x1 else if ((f_X12_doesLie fu x2 s l) = 0) then f_X12_lieMany_4 fu n x1 (x2 + 1) s l else f_X12_lieMany_4 fu n (x1 + 1) (x2 + 1) s l

def p_X12_lieMany_4 (fu : Nat) : Nat → Int32 → Int32 → fl_I → fl_L → Prop
  | 0, _, _, _, _ => False
  | n + 1, x1, x2, s, l =>
    ((((s 60 54) ≤ x2) → True) ∧ (¬ ((s 60 54) ≤ x2) → (p_X12_doesLie fu x2 s l) ∧ ((((f_X12_doesLie fu x2 s l) = 0) → p_X12_lieMany_4 fu n x1 (x2 + 1) s l) ∧ (¬ ((f_X12_doesLie fu x2 s l) = 0) → p_X12_lieMany_4 fu n (x1 + 1) (x2 + 1) s l))))

set_option maxRecDepth 100000 in
set_option maxHeartbeats 1000000 in
theorem lp_X12_lieMany_4 {G : ab_G} {fu : Nat} {d : Nat} {D : fl_D} {s : fl_I} {l : fl_L} : ∀ (n : Nat) (x1 : Int32) (x2 : Int32), p_X12_lieMany_4 fu n x1 x2 s l → ab_C G (d + 1) 0 0 M_X12_lieMany 4 [some (.ref 60), some (.int x1), some (.int x2)] [] (hp D s l) (rt (some (.int (f_X12_lieMany_4 fu n x1 x2 s l))) (hp D s l)) := by
  intro n
  induction n with
  | zero => intro x1 x2 hk; exact hk.elim
  | succ n ih =>
    intro x1 x2 hk
    generalize he : f_X12_lieMany_4 fu (n + 1) x1 x2 s l = res
    unfold f_X12_lieMany_4 at he
    unfold p_X12_lieMany_4 at hk
    refine r_iload_n rfl rfl ?_
    refine r_aload_n rfl rfl ?_
    refine q_getfield rfl (cc_60 _) rfl ?_
    refine r_icmp_ge rfl (fun c_9 => ?_) (fun c_9 => ?_)
    · rw [if_pos c_9] at he
      replace hk := hk.1 c_9
      refine r_iload_n rfl rfl ?_
      refine r_iret rfl rfl rfl ?_
      first | with_reducible exact fin_ri he | exact fin_ri he
    · rw [if_neg c_9] at he
      replace hk := hk.2 c_9
      refine r_aload_n rfl rfl ?_
      refine r_iload_n rfl rfl ?_
      obtain ⟨hb0, hk⟩ := hk
      refine q_callV0 [_] _ rfl kY_X12_doesLie kT_X12_doesLie rfl rfl (Nat.le_of_ble_eq_true rfl) (Nat.le_of_ble_eq_true rfl) (cc_60 _) (s_X12_doesLie hb0) (fun r h q => ?_)
      obtain ⟨rfl, rfl⟩ := q
      simp only [Option.toList, List.cons_append, List.nil_append]
      refine r_if_eq rfl (fun c_17 => ?_) (fun c_17 => ?_)
      · rw [if_pos c_17] at he
        replace hk := hk.1 c_17
        refine r_iinc (b := x2 + 1) rfl rfl rfl (Nat.le_of_ble_eq_true rfl) rfl ?_
        refine r_goto rfl ?_
        subst he
        exact r_weak (L1 := [some (.ref 60), some (.int x1), some (.int (x2 + 1))]) ⟨rfl, rfl, rfl, trivial⟩ (ih _ _ hk)
      · rw [if_neg c_17] at he
        replace hk := hk.2 c_17
        refine r_iinc (b := x1 + 1) rfl rfl rfl (Nat.le_of_ble_eq_true rfl) rfl ?_
        refine r_iinc (b := x2 + 1) rfl rfl rfl (Nat.le_of_ble_eq_true rfl) rfl ?_
        refine r_goto rfl ?_
        subst he
        exact r_weak (L1 := [some (.ref 60), some (.int (x1 + 1)), some (.int (x2 + 1))]) ⟨rfl, rfl, rfl, trivial⟩ (ih _ _ hk)

def f_X12_lieMany (fu : Nat) (s : fl_I) (l : fl_L) : Int32 :=
  f_X12_lieMany_4 fu fu (0 : Int32) (0 : Int32) s l

def p_X12_lieMany (fu : Nat) (s : fl_I) (l : fl_L) : Prop :=
  p_X12_lieMany_4 fu fu (0 : Int32) (0 : Int32) s l

set_option maxRecDepth 100000 in
set_option maxHeartbeats 1000000 in
theorem s_X12_lieMany {G : ab_G} {fu : Nat} {d : Nat} {D : fl_D} {s : fl_I} {l : fl_L}  (hk : p_X12_lieMany fu s l) : ab_C G (d + 1) 0 0 M_X12_lieMany 0 (ab_ent [.ref 60]) [] (hp D s l) (rt (some (.int (f_X12_lieMany fu s l))) (hp D s l)) := by
  generalize he : (f_X12_lieMany fu s l) = res
  unfold f_X12_lieMany at he
  unfold p_X12_lieMany at hk
  refine r_weak (L1 := [some (.ref 60), none, none]) ⟨rfl, trivial⟩ ?_
  refine r_iconst_ (a := 0) rfl (by decide) ?_
  refine r_istore_n rfl (Nat.le_of_ble_eq_true rfl) rfl ?_
  refine r_iconst_ (a := 0) rfl (by decide) ?_
  refine r_istore_n rfl (Nat.le_of_ble_eq_true rfl) rfl ?_
  subst he
  exact r_weak (L1 := [some (.ref 60), some (.int (0 : Int32)), some (.int (0 : Int32))]) ⟨rfl, rfl, rfl, trivial⟩ (lp_X12_lieMany_4 fu _ _ hk)

def f_X4_byteAt (fu : Nat) (v0 : Int32) (s : fl_I) (l : fl_L) : Int32 :=
  if (v0 < 0) then (-1 : Int32) else if ((s 1 1) ≤ v0) then (-1 : Int32) else if (v0 < (2000 : Int32)) then ((s 2 v0.toNatClampNeg) &&& (255 : Int32)) else (-1 : Int32)

def p_X4_byteAt (fu : Nat) (v0 : Int32) (s : fl_I) (l : fl_L) : Prop :=
  (((v0 < 0) → True) ∧ (¬ (v0 < 0) → ((((s 1 1) ≤ v0) → True) ∧ (¬ ((s 1 1) ≤ v0) → (((v0 < (2000 : Int32)) → (vp_in v0 2000) ∧ True) ∧ (¬ (v0 < (2000 : Int32)) → True))))))

set_option maxRecDepth 100000 in
set_option maxHeartbeats 1000000 in
theorem s_X4_byteAt {G : ab_G} {fu : Nat} {d : Nat} {D : fl_D} {s : fl_I} {l : fl_L} {v0 : Int32} (hk : p_X4_byteAt fu v0 s l) : ab_C G d 0 0 M_X4_byteAt 0 (ab_ent [.ref 1, .int v0]) [] (hp D s l) (rt (some (.int (f_X4_byteAt fu v0 s l))) (hp D s l)) := by
  generalize he : (f_X4_byteAt fu v0 s l) = res
  unfold f_X4_byteAt at he
  unfold p_X4_byteAt at hk
  refine r_weak (L1 := [some (.ref 1), some (.int v0)]) ⟨rfl, rfl, trivial⟩ ?_
  refine r_iload_n rfl rfl ?_
  refine r_if_lt rfl (fun c_1 => ?_) (fun c_1 => ?_)
  · rw [if_pos c_1] at he
    replace hk := hk.1 c_1
    refine r_iconst_ (a := -1) rfl (by decide) ?_
    refine r_goto rfl ?_
    refine r_iret rfl rfl rfl ?_
    first | with_reducible exact fin_ri he | exact fin_ri he
  · rw [if_neg c_1] at he
    replace hk := hk.2 c_1
    refine r_iload_n rfl rfl ?_
    refine r_aload_n rfl rfl ?_
    refine q_getfield rfl (cc_1 _) rfl ?_
    refine r_icmp_ge rfl (fun c_9 => ?_) (fun c_9 => ?_)
    · rw [if_pos c_9] at he
      replace hk := hk.1 c_9
      refine r_iconst_ (a := -1) rfl (by decide) ?_
      refine r_goto rfl ?_
      refine r_iret rfl rfl rfl ?_
      first | with_reducible exact fin_ri he | exact fin_ri he
    · rw [if_neg c_9] at he
      replace hk := hk.2 c_9
      refine r_iload_n rfl rfl ?_
      refine r_sipush_ (a := 2000) rfl (by decide) ?_
      refine r_icmp_lt rfl (fun c_16 => ?_) (fun c_16 => ?_)
      · rw [if_pos c_16] at he
        replace hk := hk.1 c_16
        refine r_aload_n rfl rfl ?_
        refine q_getfield rfl (cc_1 _) rfl ?_
        refine r_iload_n rfl rfl ?_
        obtain ⟨hb0, hk⟩ := hk
        refine q_bald rfl (cc_2 _) hb0 ?_
        refine r_sipush_ (a := 255) rfl (by decide) ?_
        refine r_iand rfl ?_
        refine r_iret rfl rfl rfl ?_
        first | with_reducible exact fin_ri he | exact fin_ri he
      · rw [if_neg c_16] at he
        replace hk := hk.2 c_16
        refine r_iconst_ (a := -1) rfl (by decide) ?_
        refine r_goto rfl ?_
        refine r_iret rfl rfl rfl ?_
        first | with_reducible exact fin_ri he | exact fin_ri he

def f_X11_apart (fu : Nat) (v0 : Int32) (v1 : Int32) : Int32 :=
  ((i_abs ((v0 - v0 / (10 : Int32) * (10 : Int32)) - (v1 - v1 / (10 : Int32) * (10 : Int32)))) + (i_abs ((v0 / (10 : Int32)) - (v1 / (10 : Int32)))))

def p_X11_apart (fu : Nat) (v0 : Int32) (v1 : Int32) : Prop :=
  True

set_option maxRecDepth 100000 in
set_option maxHeartbeats 1000000 in
theorem s_X11_apart {G : ab_G} {fu : Nat} {d : Nat} {h : ab_H} {v0 : Int32} {v1 : Int32} (hk : p_X11_apart fu v0 v1) : ab_C G d 0 0 M_X11_apart 0 (ab_ent [.int v0, .int v1]) [] h (rt (some (.int (f_X11_apart fu v0 v1))) h) := by
  generalize he : (f_X11_apart fu v0 v1) = res
  unfold f_X11_apart at he
  unfold p_X11_apart at hk
  refine r_weak (L1 := [some (.int v0), some (.int v1)]) ⟨rfl, rfl, trivial⟩ ?_
  refine r_iload_n rfl rfl ?_
  refine r_bipush_ (a := 10) rfl (by decide) ?_
  refine r_irem rfl (by decide) ?_
  refine r_iload_n rfl rfl ?_
  refine r_bipush_ (a := 10) rfl (by decide) ?_
  refine r_irem rfl (by decide) ?_
  refine r_isub rfl ?_
  refine r_mabs rfl (Nat.le_of_ble_eq_true rfl) ?_
  refine r_iload_n rfl rfl ?_
  refine r_bipush_ (a := 10) rfl (by decide) ?_
  refine r_idiv rfl (by decide) ?_
  refine r_iload_n rfl rfl ?_
  refine r_bipush_ (a := 10) rfl (by decide) ?_
  refine r_idiv rfl (by decide) ?_
  refine r_isub rfl ?_
  refine r_mabs rfl (Nat.le_of_ble_eq_true rfl) ?_
  refine r_iadd rfl ?_
  refine r_iret rfl rfl rfl ?_
  first | with_reducible exact fin_ri he | exact fin_ri he

def f_X10_cellOf (fu : Nat) (v0 : Int32) (a : Nat) (s : fl_I) (l : fl_L) : Int32 :=
  if ((f_X10_holder fu v0 a s l) < 0) then (s (a + 1) v0.toNatClampNeg) else if ((4 : Int32) ≤ (f_X10_holder fu v0 a s l)) then (s (a + 1) v0.toNatClampNeg) else (s (a + 3) (f_X10_holder fu v0 a s l).toNatClampNeg)

def p_X10_cellOf (fu : Nat) (v0 : Int32) (a : Nat) (s : fl_I) (l : fl_L) : Prop :=
  (p_X10_holder fu v0 a s l) ∧ ((((f_X10_holder fu v0 a s l) < 0) → (vp_in v0 32) ∧ True) ∧ (¬ ((f_X10_holder fu v0 a s l) < 0) → ((((4 : Int32) ≤ (f_X10_holder fu v0 a s l)) → (vp_in v0 32) ∧ True) ∧ (¬ ((4 : Int32) ≤ (f_X10_holder fu v0 a s l)) → (vp_in (f_X10_holder fu v0 a s l) 4) ∧ True))))

set_option maxRecDepth 100000 in
set_option maxHeartbeats 1000000 in
theorem s_X10_cellOf {G : ab_G} {fu : Nat} {d : Nat} {D : fl_D} {s : fl_I} {l : fl_L} {a : Nat} (hya : isY D a) {v0 : Int32} (hk : p_X10_cellOf fu v0 a s l) : ab_C G (d + 1) 0 0 M_X10_cellOf 0 (ab_ent [.ref a, .int v0]) [] (hp D s l) (rt (some (.int (f_X10_cellOf fu v0 a s l))) (hp D s l)) := by
  generalize he : (f_X10_cellOf fu v0 a s l) = res
  unfold f_X10_cellOf at he
  unfold p_X10_cellOf at hk
  refine r_weak (L1 := [some (.ref a), some (.int v0), none]) ⟨rfl, rfl, trivial⟩ ?_
  refine r_aload_n rfl rfl ?_
  refine r_iload_n rfl rfl ?_
  obtain ⟨hb0, hk⟩ := hk
  refine q_callV0 [_] _ rfl kY_X10_holder kT_X10_holder rfl rfl (Nat.le_of_ble_eq_true rfl) (Nat.le_of_ble_eq_true rfl) (cY_0 hya) (s_X10_holder hya hb0) (fun r h q => ?_)
  obtain ⟨rfl, rfl⟩ := q
  simp only [Option.toList, List.cons_append, List.nil_append]
  refine r_istore_n rfl (Nat.le_of_ble_eq_true rfl) rfl ?_
  refine r_iload_n rfl rfl ?_
  refine r_if_lt rfl (fun c_7 => ?_) (fun c_7 => ?_)
  · rw [if_pos c_7] at he
    replace hk := hk.1 c_7
    refine r_aload_n rfl rfl ?_
    refine q_getfield rfl (cY_0 hya) rfl ?_
    refine r_iload_n rfl rfl ?_
    obtain ⟨hb1, hk⟩ := hk
    refine q_iald rfl (cY_1 hya) hb1 ?_
    refine r_iret rfl rfl rfl ?_
    first | with_reducible exact fin_ri he | exact fin_ri he
  · rw [if_neg c_7] at he
    replace hk := hk.2 c_7
    refine r_iload_n rfl rfl ?_
    refine r_iconst_ (a := 4) rfl (by decide) ?_
    refine r_icmp_ge rfl (fun c_12 => ?_) (fun c_12 => ?_)
    · rw [if_pos c_12] at he
      replace hk := hk.1 c_12
      refine r_aload_n rfl rfl ?_
      refine q_getfield rfl (cY_0 hya) rfl ?_
      refine r_iload_n rfl rfl ?_
      obtain ⟨hb2, hk⟩ := hk
      refine q_iald rfl (cY_1 hya) hb2 ?_
      refine r_iret rfl rfl rfl ?_
      first | with_reducible exact fin_ri he | exact fin_ri he
    · rw [if_neg c_12] at he
      replace hk := hk.2 c_12
      refine r_aload_n rfl rfl ?_
      refine q_getfield rfl (cY_0 hya) rfl ?_
      refine r_iload_n rfl rfl ?_
      obtain ⟨hb3, hk⟩ := hk
      refine q_iald rfl (cY_3 hya) hb3 ?_
      refine r_goto rfl ?_
      refine r_iret rfl rfl rfl ?_
      first | with_reducible exact fin_ri he | exact fin_ri he

def f_X10_countAt_4 (fu : Nat) : Nat → Int32 → Int32 → Int32 → Nat → fl_I → fl_L → Int32
  | 0, _, _, _, _, _, _ => 0
  | n + 1, x1, x2, x3, a, s, l =>
    if ((s a 1) ≤ x3) then x2 else if ((s (a + 1) x3.toNatClampNeg) = x1) then f_X10_countAt_4 fu n x1 (x2 + 1) (x3 + 1) a s l else f_X10_countAt_4 fu n x1 x2 (x3 + 1) a s l

def p_X10_countAt_4 (fu : Nat) : Nat → Int32 → Int32 → Int32 → Nat → fl_I → fl_L → Prop
  | 0, _, _, _, _, _, _ => False
  | n + 1, x1, x2, x3, a, s, l =>
    ((((s a 1) ≤ x3) → True) ∧ (¬ ((s a 1) ≤ x3) → (vp_in x3 32) ∧ ((((s (a + 1) x3.toNatClampNeg) = x1) → p_X10_countAt_4 fu n x1 (x2 + 1) (x3 + 1) a s l) ∧ (¬ ((s (a + 1) x3.toNatClampNeg) = x1) → p_X10_countAt_4 fu n x1 x2 (x3 + 1) a s l))))

set_option maxRecDepth 100000 in
set_option maxHeartbeats 1000000 in
theorem lp_X10_countAt_4 {G : ab_G} {fu : Nat} {d : Nat} {D : fl_D} {s : fl_I} {l : fl_L} {a : Nat} (hya : isY D a) : ∀ (n : Nat) (x1 : Int32) (x2 : Int32) (x3 : Int32), p_X10_countAt_4 fu n x1 x2 x3 a s l → ab_C G d 0 0 M_X10_countAt 4 [some (.ref a), some (.int x1), some (.int x2), some (.int x3)] [] (hp D s l) (rt (some (.int (f_X10_countAt_4 fu n x1 x2 x3 a s l))) (hp D s l)) := by
  intro n
  induction n with
  | zero => intro x1 x2 x3 hk; exact hk.elim
  | succ n ih =>
    intro x1 x2 x3 hk
    generalize he : f_X10_countAt_4 fu (n + 1) x1 x2 x3 a s l = res
    unfold f_X10_countAt_4 at he
    unfold p_X10_countAt_4 at hk
    refine r_iload_n rfl rfl ?_
    refine r_aload_n rfl rfl ?_
    refine q_getfield rfl (cY_0 hya) rfl ?_
    refine r_icmp_ge rfl (fun c_9 => ?_) (fun c_9 => ?_)
    · rw [if_pos c_9] at he
      replace hk := hk.1 c_9
      refine r_iload_n rfl rfl ?_
      refine r_iret rfl rfl rfl ?_
      first | with_reducible exact fin_ri he | exact fin_ri he
    · rw [if_neg c_9] at he
      replace hk := hk.2 c_9
      refine r_aload_n rfl rfl ?_
      refine q_getfield rfl (cY_0 hya) rfl ?_
      refine r_iload_n rfl rfl ?_
      obtain ⟨hb0, hk⟩ := hk
      refine q_iald rfl (cY_1 hya) hb0 ?_
      refine r_iload_n rfl rfl ?_
      refine r_icmp_ne rfl (fun c_19 => ?_) (fun c_19 => ?_)
      · rw [if_neg c_19] at he
        replace hk := hk.2 c_19
        refine r_iinc (b := x3 + 1) rfl rfl rfl (Nat.le_of_ble_eq_true rfl) rfl ?_
        refine r_goto rfl ?_
        subst he
        exact r_weak (L1 := [some (.ref a), some (.int x1), some (.int x2), some (.int (x3 + 1))]) ⟨rfl, rfl, rfl, rfl, trivial⟩ (ih _ _ _ hk)
      · rw [if_pos c_19] at he
        replace hk := hk.1 c_19
        refine r_iinc (b := x2 + 1) rfl rfl rfl (Nat.le_of_ble_eq_true rfl) rfl ?_
        refine r_iinc (b := x3 + 1) rfl rfl rfl (Nat.le_of_ble_eq_true rfl) rfl ?_
        refine r_goto rfl ?_
        subst he
        exact r_weak (L1 := [some (.ref a), some (.int x1), some (.int (x2 + 1)), some (.int (x3 + 1))]) ⟨rfl, rfl, rfl, rfl, trivial⟩ (ih _ _ _ hk)

def f_X10_countAt (fu : Nat) (v0 : Int32) (a : Nat) (s : fl_I) (l : fl_L) : Int32 :=
  f_X10_countAt_4 fu fu v0 (0 : Int32) (0 : Int32) a s l

def p_X10_countAt (fu : Nat) (v0 : Int32) (a : Nat) (s : fl_I) (l : fl_L) : Prop :=
  p_X10_countAt_4 fu fu v0 (0 : Int32) (0 : Int32) a s l

set_option maxRecDepth 100000 in
set_option maxHeartbeats 1000000 in
theorem s_X10_countAt {G : ab_G} {fu : Nat} {d : Nat} {D : fl_D} {s : fl_I} {l : fl_L} {a : Nat} (hya : isY D a) {v0 : Int32} (hk : p_X10_countAt fu v0 a s l) : ab_C G d 0 0 M_X10_countAt 0 (ab_ent [.ref a, .int v0]) [] (hp D s l) (rt (some (.int (f_X10_countAt fu v0 a s l))) (hp D s l)) := by
  generalize he : (f_X10_countAt fu v0 a s l) = res
  unfold f_X10_countAt at he
  unfold p_X10_countAt at hk
  refine r_weak (L1 := [some (.ref a), some (.int v0), none, none]) ⟨rfl, rfl, trivial⟩ ?_
  refine r_iconst_ (a := 0) rfl (by decide) ?_
  refine r_istore_n rfl (Nat.le_of_ble_eq_true rfl) rfl ?_
  refine r_iconst_ (a := 0) rfl (by decide) ?_
  refine r_istore_n rfl (Nat.le_of_ble_eq_true rfl) rfl ?_
  subst he
  exact r_weak (L1 := [some (.ref a), some (.int v0), some (.int (0 : Int32)), some (.int (0 : Int32))]) ⟨rfl, rfl, rfl, rfl, trivial⟩ (lp_X10_countAt_4 hya fu _ _ _ hk)

def f_X12_emit (fu : Nat) (v0 : Int32) (v1 : Int32) (s : fl_I) (l : fl_L) : fl_I × fl_L :=
  ((wi (wi (wi s 89 (s 60 42).toNatClampNeg v0) 90 ((wi s 89 (s 60 42).toNatClampNeg v0) 60 42).toNatClampNeg v1) 60 42 (((wi (wi s 89 (s 60 42).toNatClampNeg v0) 90 ((wi s 89 (s 60 42).toNatClampNeg v0) 60 42).toNatClampNeg v1) 60 42) + (1 : Int32))), l)

def p_X12_emit (fu : Nat) (v0 : Int32) (v1 : Int32) (s : fl_I) (l : fl_L) : Prop :=
  (vp_in (s 60 42) 840) ∧ (vp_in ((wi s 89 (s 60 42).toNatClampNeg v0) 60 42) 840) ∧ True

set_option maxRecDepth 100000 in
set_option maxHeartbeats 1000000 in
theorem s_X12_emit {G : ab_G} {fu : Nat} {d : Nat} {D : fl_D} {s : fl_I} {l : fl_L} {v0 : Int32} {v1 : Int32} (hk : p_X12_emit fu v0 v1 s l) : ab_C G d 0 0 M_X12_emit 0 (ab_ent [.ref 60, .int v0, .int v1]) [] (hp D s l) (rt none (hp D (f_X12_emit fu v0 v1 s l).1 (f_X12_emit fu v0 v1 s l).2)) := by
  generalize he : (f_X12_emit fu v0 v1 s l) = res
  unfold f_X12_emit at he
  unfold p_X12_emit at hk
  refine r_weak (L1 := [some (.ref 60), some (.int v0), some (.int v1)]) ⟨rfl, rfl, rfl, trivial⟩ ?_
  refine r_aload_n rfl rfl ?_
  refine q_getfield rfl (cc_60 _) rfl ?_
  refine r_aload_n rfl rfl ?_
  refine q_getfield rfl (cc_60 _) rfl ?_
  refine r_iload_n rfl rfl ?_
  obtain ⟨hb0, hk⟩ := hk
  refine w_iast rfl (cc_89 _) hb0 ?_
  refine r_aload_n rfl rfl ?_
  refine q_getfield rfl (cc_60 _) rfl ?_
  refine r_aload_n rfl rfl ?_
  refine q_getfield rfl (cc_60 _) rfl ?_
  refine r_iload_n rfl rfl ?_
  obtain ⟨hb1, hk⟩ := hk
  refine w_iast rfl (cc_90 _) hb1 ?_
  refine r_aload_n rfl rfl ?_
  refine r_dup rfl rfl ?_
  refine q_getfield rfl (cc_60 _) rfl ?_
  refine r_iconst_ (a := 1) rfl (by decide) ?_
  refine r_iadd rfl ?_
  refine w_put rfl (cc_60 _) ff_12_42 ft_12_42 (fun _ _ => (Nat.le_of_ble_eq_true rfl)) (fun _ _ => rfl) ?_
  refine r_ret rfl rfl ?_
  first | with_reducible exact fin_v he | exact fin_v he

def f_X12_bits_4 (fu : Nat) : Nat → Int32 → Int32 → Int32 → Int32
  | 0, _, _, _ => 0
  | n + 1, x0, x1, x2 =>
    if ((10 : Int32) ≤ x2) then x1 else f_X12_bits_4 fu n x0 (x1 + ((x0 >>> (x2 &&& 31)) &&& (1 : Int32))) (x2 + 1)

def p_X12_bits_4 (fu : Nat) : Nat → Int32 → Int32 → Int32 → Prop
  | 0, _, _, _ => False
  | n + 1, x0, x1, x2 =>
    ((((10 : Int32) ≤ x2) → True) ∧ (¬ ((10 : Int32) ≤ x2) → p_X12_bits_4 fu n x0 (x1 + ((x0 >>> (x2 &&& 31)) &&& (1 : Int32))) (x2 + 1)))

set_option maxRecDepth 100000 in
set_option maxHeartbeats 1000000 in
theorem lp_X12_bits_4 {G : ab_G} {fu : Nat} {d : Nat} {h : ab_H} : ∀ (n : Nat) (x0 : Int32) (x1 : Int32) (x2 : Int32), p_X12_bits_4 fu n x0 x1 x2 → ab_C G d 0 0 M_X12_bits 4 [some (.int x0), some (.int x1), some (.int x2)] [] h (rt (some (.int (f_X12_bits_4 fu n x0 x1 x2))) h) := by
  intro n
  induction n with
  | zero => intro x0 x1 x2 hk; exact hk.elim
  | succ n ih =>
    intro x0 x1 x2 hk
    generalize he : f_X12_bits_4 fu (n + 1) x0 x1 x2 = res
    unfold f_X12_bits_4 at he
    unfold p_X12_bits_4 at hk
    refine r_iload_n rfl rfl ?_
    refine r_bipush_ (a := 10) rfl (by decide) ?_
    refine r_icmp_ge rfl (fun c_7 => ?_) (fun c_7 => ?_)
    · rw [if_pos c_7] at he
      replace hk := hk.1 c_7
      refine r_iload_n rfl rfl ?_
      refine r_iret rfl rfl rfl ?_
      first | with_reducible exact fin_ri he | exact fin_ri he
    · rw [if_neg c_7] at he
      replace hk := hk.2 c_7
      refine r_iload_n rfl rfl ?_
      refine r_iload_n rfl rfl ?_
      refine r_iload_n rfl rfl ?_
      refine r_ishr rfl ?_
      refine r_iconst_ (a := 1) rfl (by decide) ?_
      refine r_iand rfl ?_
      refine r_iadd rfl ?_
      refine r_istore_n rfl (Nat.le_of_ble_eq_true rfl) rfl ?_
      refine r_iinc (b := x2 + 1) rfl rfl rfl (Nat.le_of_ble_eq_true rfl) rfl ?_
      refine r_goto rfl ?_
      subst he
      exact r_weak (L1 := [some (.int x0), some (.int (x1 + ((x0 >>> (x2 &&& 31)) &&& (1 : Int32)))), some (.int (x2 + 1))]) ⟨rfl, rfl, rfl, trivial⟩ (ih _ _ _ hk)

def f_X12_bits (fu : Nat) (v0 : Int32) : Int32 :=
  f_X12_bits_4 fu fu v0 (0 : Int32) (0 : Int32)

def p_X12_bits (fu : Nat) (v0 : Int32) : Prop :=
  p_X12_bits_4 fu fu v0 (0 : Int32) (0 : Int32)

set_option maxRecDepth 100000 in
set_option maxHeartbeats 1000000 in
theorem s_X12_bits {G : ab_G} {fu : Nat} {d : Nat} {h : ab_H} {v0 : Int32} (hk : p_X12_bits fu v0) : ab_C G d 0 0 M_X12_bits 0 (ab_ent [.int v0]) [] h (rt (some (.int (f_X12_bits fu v0))) h) := by
  generalize he : (f_X12_bits fu v0) = res
  unfold f_X12_bits at he
  unfold p_X12_bits at hk
  refine r_weak (L1 := [some (.int v0), none, none]) ⟨rfl, trivial⟩ ?_
  refine r_iconst_ (a := 0) rfl (by decide) ?_
  refine r_istore_n rfl (Nat.le_of_ble_eq_true rfl) rfl ?_
  refine r_iconst_ (a := 0) rfl (by decide) ?_
  refine r_istore_n rfl (Nat.le_of_ble_eq_true rfl) rfl ?_
  subst he
  exact r_weak (L1 := [some (.int v0), some (.int (0 : Int32)), some (.int (0 : Int32))]) ⟨rfl, rfl, rfl, trivial⟩ (lp_X12_bits_4 fu _ _ _ hk)

def f_X3_stop (fu : Nat) (v0 : Int32) (s : fl_I) (l : fl_L) : Int32 × fl_I × fl_L :=
  if ((s 3 2) < 0) then ((0 : Int32), s, l) else if ((400 : Int32) < (s 3 2)) then ((0 : Int32), s, l) else ((0 : Int32), (wi (wi s 3 3 v0) 3 0 ((wi s 3 3 v0) 6 ((wi s 3 3 v0) 3 2).toNatClampNeg)), l)

def p_X3_stop (fu : Nat) (v0 : Int32) (s : fl_I) (l : fl_L) : Prop :=
  ((((s 3 2) < 0) → True) ∧ (¬ ((s 3 2) < 0) → ((((400 : Int32) < (s 3 2)) → True) ∧ (¬ ((400 : Int32) < (s 3 2)) → (vp_in ((wi s 3 3 v0) 3 2) 401) ∧ True))))

set_option maxRecDepth 100000 in
set_option maxHeartbeats 1000000 in
theorem s_X3_stop {G : ab_G} {fu : Nat} {d : Nat} {D : fl_D} {s : fl_I} {l : fl_L} {v0 : Int32} (hk : p_X3_stop fu v0 s l) : ab_C G d 0 0 M_X3_stop 0 (ab_ent [.ref 3, .int v0]) [] (hp D s l) (rt (some (.int (f_X3_stop fu v0 s l).1)) (hp D (f_X3_stop fu v0 s l).2.1 (f_X3_stop fu v0 s l).2.2)) := by
  generalize he : (f_X3_stop fu v0 s l) = res
  unfold f_X3_stop at he
  unfold p_X3_stop at hk
  refine r_weak (L1 := [some (.ref 3), some (.int v0)]) ⟨rfl, rfl, trivial⟩ ?_
  refine r_aload_n rfl rfl ?_
  refine q_getfield rfl (cc_3 _) rfl ?_
  refine r_if_lt rfl (fun c_4 => ?_) (fun c_4 => ?_)
  · rw [if_pos c_4] at he
    replace hk := hk.1 c_4
    refine r_iconst_ (a := 0) rfl (by decide) ?_
    refine r_iret rfl rfl rfl ?_
    first | with_reducible exact fin_i he | exact fin_i he
  · rw [if_neg c_4] at he
    replace hk := hk.2 c_4
    refine r_aload_n rfl rfl ?_
    refine q_getfield rfl (cc_3 _) rfl ?_
    refine r_sipush_ (a := 400) rfl (by decide) ?_
    refine r_icmp_gt rfl (fun c_14 => ?_) (fun c_14 => ?_)
    · rw [if_pos c_14] at he
      replace hk := hk.1 c_14
      refine r_iconst_ (a := 0) rfl (by decide) ?_
      refine r_iret rfl rfl rfl ?_
      first | with_reducible exact fin_i he | exact fin_i he
    · rw [if_neg c_14] at he
      replace hk := hk.2 c_14
      refine r_aload_n rfl rfl ?_
      refine r_iload_n rfl rfl ?_
      refine w_put rfl (cc_3 _) ff_3_3 ft_3_3 (fun _ _ => (Nat.le_of_ble_eq_true rfl)) (fun _ _ => rfl) ?_
      refine r_aload_n rfl rfl ?_
      refine r_aload_n rfl rfl ?_
      refine q_getfield rfl (cc_3 _) rfl ?_
      refine q_getfield rfl (cc_4 _) rfl ?_
      refine r_aload_n rfl rfl ?_
      refine q_getfield rfl (cc_3 _) rfl ?_
      obtain ⟨hb0, hk⟩ := hk
      refine q_iald rfl (cc_6 _) hb0 ?_
      refine w_put rfl (cc_3 _) ff_3_0 ft_3_0 (fun _ _ => (Nat.le_of_ble_eq_true rfl)) (fun _ _ => rfl) ?_
      refine r_iconst_ (a := 0) rfl (by decide) ?_
      refine r_iret rfl rfl rfl ?_
      first | with_reducible exact fin_i he | exact fin_i he

def f_X5_addWord (fu : Nat) (v0 : Int64) (t : Nat) (s : fl_I) (l : fl_L) : fl_I × fl_L :=
  if ((s t 1) < 0) then (s, l) else if ((8 : Int32) ≤ (s t 1)) then (s, l) else ((wi s t 1 ((s t 1) + (1 : Int32))), (wl l (t + 2) (s t 1).toNatClampNeg v0))

def p_X5_addWord (fu : Nat) (v0 : Int64) (t : Nat) (s : fl_I) (l : fl_L) : Prop :=
  ((((s t 1) < 0) → True) ∧ (¬ ((s t 1) < 0) → ((((8 : Int32) ≤ (s t 1)) → True) ∧ (¬ ((8 : Int32) ≤ (s t 1)) → (vp_in (s t 1) 8) ∧ True))))

set_option maxRecDepth 100000 in
set_option maxHeartbeats 1000000 in
theorem s_X5_addWord {G : ab_G} {fu : Nat} {d : Nat} {D : fl_D} {s : fl_I} {l : fl_L} {t : Nat} (htt : isT t) {v0 : Int64} (hk : p_X5_addWord fu v0 t s l) : ab_C G d 0 0 M_X5_addWord 0 (ab_ent [.ref t, .long v0]) [] (hp D s l) (rt none (hp D (f_X5_addWord fu v0 t s l).1 (f_X5_addWord fu v0 t s l).2)) := by
  generalize he : (f_X5_addWord fu v0 t s l) = res
  unfold f_X5_addWord at he
  unfold p_X5_addWord at hk
  refine r_weak (L1 := [some (.ref t), some (.long v0), none]) ⟨rfl, rfl, trivial⟩ ?_
  refine r_aload_n rfl rfl ?_
  refine q_getfield rfl (cT_0 htt) rfl ?_
  refine r_if_lt rfl (fun c_4 => ?_) (fun c_4 => ?_)
  · rw [if_pos c_4] at he
    replace hk := hk.1 c_4
    refine r_ret rfl rfl ?_
    first | with_reducible exact fin_v he | exact fin_v he
  · rw [if_neg c_4] at he
    replace hk := hk.2 c_4
    refine r_aload_n rfl rfl ?_
    refine q_getfield rfl (cT_0 htt) rfl ?_
    refine r_bipush_ (a := 8) rfl (by decide) ?_
    refine r_icmp_ge rfl (fun c_13 => ?_) (fun c_13 => ?_)
    · rw [if_pos c_13] at he
      replace hk := hk.1 c_13
      refine r_ret rfl rfl ?_
      first | with_reducible exact fin_v he | exact fin_v he
    · rw [if_neg c_13] at he
      replace hk := hk.2 c_13
      refine r_aload_n rfl rfl ?_
      refine q_getfield rfl (cT_0 htt) rfl ?_
      refine r_aload_n rfl rfl ?_
      refine q_getfield rfl (cT_0 htt) rfl ?_
      refine r_lload_n rfl rfl ?_
      obtain ⟨hb0, hk⟩ := hk
      refine w_last rfl (cT_2 htt) hb0 ?_
      refine r_aload_n rfl rfl ?_
      refine r_dup rfl rfl ?_
      refine q_getfield rfl (cT_0 htt) rfl ?_
      refine r_iconst_ (a := 1) rfl (by decide) ?_
      refine r_iadd rfl ?_
      refine w_put rfl (cT_0 htt) ff_5_1 ft_5_1 (fun _ _ => (Nat.le_of_ble_eq_true rfl)) (fun _ _ => rfl) ?_
      refine r_ret rfl rfl ?_
      first | with_reducible exact fin_v he | exact fin_v he

def f_X5_addCode (fu : Nat) (v0 : Int32) (t : Nat) (s : fl_I) (l : fl_L) : fl_I × fl_L :=
  if ((s t 14) < 0) then (s, l) else if ((408 : Int32) ≤ (s t 14)) then (s, l) else ((wi (wi s (t + 9) (s t 14).toNatClampNeg v0) t 14 (((wi s (t + 9) (s t 14).toNatClampNeg v0) t 14) + (1 : Int32))), l)

def p_X5_addCode (fu : Nat) (v0 : Int32) (t : Nat) (s : fl_I) (l : fl_L) : Prop :=
  ((((s t 14) < 0) → True) ∧ (¬ ((s t 14) < 0) → ((((408 : Int32) ≤ (s t 14)) → True) ∧ (¬ ((408 : Int32) ≤ (s t 14)) → (vp_in (s t 14) 408) ∧ True))))

set_option maxRecDepth 100000 in
set_option maxHeartbeats 1000000 in
theorem s_X5_addCode {G : ab_G} {fu : Nat} {d : Nat} {D : fl_D} {s : fl_I} {l : fl_L} {t : Nat} (htt : isT t) {v0 : Int32} (hk : p_X5_addCode fu v0 t s l) : ab_C G d 0 0 M_X5_addCode 0 (ab_ent [.ref t, .int v0]) [] (hp D s l) (rt none (hp D (f_X5_addCode fu v0 t s l).1 (f_X5_addCode fu v0 t s l).2)) := by
  generalize he : (f_X5_addCode fu v0 t s l) = res
  unfold f_X5_addCode at he
  unfold p_X5_addCode at hk
  refine r_weak (L1 := [some (.ref t), some (.int v0)]) ⟨rfl, rfl, trivial⟩ ?_
  refine r_aload_n rfl rfl ?_
  refine q_getfield rfl (cT_0 htt) rfl ?_
  refine r_if_lt rfl (fun c_4 => ?_) (fun c_4 => ?_)
  · rw [if_pos c_4] at he
    replace hk := hk.1 c_4
    refine r_ret rfl rfl ?_
    first | with_reducible exact fin_v he | exact fin_v he
  · rw [if_neg c_4] at he
    replace hk := hk.2 c_4
    refine r_aload_n rfl rfl ?_
    refine q_getfield rfl (cT_0 htt) rfl ?_
    refine r_sipush_ (a := 408) rfl (by decide) ?_
    refine r_icmp_ge rfl (fun c_14 => ?_) (fun c_14 => ?_)
    · rw [if_pos c_14] at he
      replace hk := hk.1 c_14
      refine r_ret rfl rfl ?_
      first | with_reducible exact fin_v he | exact fin_v he
    · rw [if_neg c_14] at he
      replace hk := hk.2 c_14
      refine r_aload_n rfl rfl ?_
      refine q_getfield rfl (cT_0 htt) rfl ?_
      refine r_aload_n rfl rfl ?_
      refine q_getfield rfl (cT_0 htt) rfl ?_
      refine r_iload_n rfl rfl ?_
      obtain ⟨hb0, hk⟩ := hk
      refine w_iast rfl (cT_9 htt) hb0 ?_
      refine r_aload_n rfl rfl ?_
      refine r_dup rfl rfl ?_
      refine q_getfield rfl (cT_0 htt) rfl ?_
      refine r_iconst_ (a := 1) rfl (by decide) ?_
      refine r_iadd rfl ?_
      refine w_put rfl (cT_0 htt) ff_5_14 ft_5_14 (fun _ _ => (Nat.le_of_ble_eq_true rfl)) (fun _ _ => rfl) ?_
      refine r_ret rfl rfl ?_
      first | with_reducible exact fin_v he | exact fin_v he

def f_X10_countLying_7 (fu : Nat) : Nat → Int32 → Int32 → Nat → fl_I → fl_L → Int32
  | 0, _, _, _, _, _ => 0
  | n + 1, x1, x2, a, s, l =>
    if ((s a 2) ≤ x2) then x1 else f_X10_countLying_7 fu n (x1 - (s (a + 5) x2.toNatClampNeg)) (x2 + 1) a s l

def p_X10_countLying_7 (fu : Nat) : Nat → Int32 → Int32 → Nat → fl_I → fl_L → Prop
  | 0, _, _, _, _, _ => False
  | n + 1, x1, x2, a, s, l =>
    ((((s a 2) ≤ x2) → True) ∧ (¬ ((s a 2) ≤ x2) → (vp_in x2 4) ∧ p_X10_countLying_7 fu n (x1 - (s (a + 5) x2.toNatClampNeg)) (x2 + 1) a s l))

set_option maxRecDepth 100000 in
set_option maxHeartbeats 1000000 in
theorem lp_X10_countLying_7 {G : ab_G} {fu : Nat} {d : Nat} {D : fl_D} {s : fl_I} {l : fl_L} {a : Nat} (hya : isY D a) : ∀ (n : Nat) (x1 : Int32) (x2 : Int32), p_X10_countLying_7 fu n x1 x2 a s l → ab_C G d 0 0 M_X10_countLying 7 [some (.ref a), some (.int x1), some (.int x2)] [] (hp D s l) (rt (some (.int (f_X10_countLying_7 fu n x1 x2 a s l))) (hp D s l)) := by
  intro n
  induction n with
  | zero => intro x1 x2 hk; exact hk.elim
  | succ n ih =>
    intro x1 x2 hk
    generalize he : f_X10_countLying_7 fu (n + 1) x1 x2 a s l = res
    unfold f_X10_countLying_7 at he
    unfold p_X10_countLying_7 at hk
    refine r_iload_n rfl rfl ?_
    refine r_aload_n rfl rfl ?_
    refine q_getfield rfl (cY_0 hya) rfl ?_
    refine r_icmp_ge rfl (fun c_12 => ?_) (fun c_12 => ?_)
    · rw [if_pos c_12] at he
      replace hk := hk.1 c_12
      refine r_iload_n rfl rfl ?_
      refine r_iret rfl rfl rfl ?_
      first | with_reducible exact fin_ri he | exact fin_ri he
    · rw [if_neg c_12] at he
      replace hk := hk.2 c_12
      refine r_iload_n rfl rfl ?_
      refine r_aload_n rfl rfl ?_
      refine q_getfield rfl (cY_0 hya) rfl ?_
      refine r_iload_n rfl rfl ?_
      obtain ⟨hb0, hk⟩ := hk
      refine q_iald rfl (cY_5 hya) hb0 ?_
      refine r_isub rfl ?_
      refine r_istore_n rfl (Nat.le_of_ble_eq_true rfl) rfl ?_
      refine r_iinc (b := x2 + 1) rfl rfl rfl (Nat.le_of_ble_eq_true rfl) rfl ?_
      refine r_goto rfl ?_
      subst he
      exact r_weak (L1 := [some (.ref a), some (.int (x1 - (s (a + 5) x2.toNatClampNeg))), some (.int (x2 + 1))]) ⟨rfl, rfl, rfl, trivial⟩ (ih _ _ hk)

def f_X10_countLying (fu : Nat) (a : Nat) (s : fl_I) (l : fl_L) : Int32 :=
  f_X10_countLying_7 fu fu (s a 1) (0 : Int32) a s l

def p_X10_countLying (fu : Nat) (a : Nat) (s : fl_I) (l : fl_L) : Prop :=
  p_X10_countLying_7 fu fu (s a 1) (0 : Int32) a s l

set_option maxRecDepth 100000 in
set_option maxHeartbeats 1000000 in
theorem s_X10_countLying {G : ab_G} {fu : Nat} {d : Nat} {D : fl_D} {s : fl_I} {l : fl_L} {a : Nat} (hya : isY D a)  (hk : p_X10_countLying fu a s l) : ab_C G d 0 0 M_X10_countLying 0 (ab_ent [.ref a]) [] (hp D s l) (rt (some (.int (f_X10_countLying fu a s l))) (hp D s l)) := by
  generalize he : (f_X10_countLying fu a s l) = res
  unfold f_X10_countLying at he
  unfold p_X10_countLying at hk
  refine r_weak (L1 := [some (.ref a), none, none]) ⟨rfl, trivial⟩ ?_
  refine r_aload_n rfl rfl ?_
  refine q_getfield rfl (cY_0 hya) rfl ?_
  refine r_istore_n rfl (Nat.le_of_ble_eq_true rfl) rfl ?_
  refine r_iconst_ (a := 0) rfl (by decide) ?_
  refine r_istore_n rfl (Nat.le_of_ble_eq_true rfl) rfl ?_
  subst he
  exact r_weak (L1 := [some (.ref a), some (.int (s a 1)), some (.int (0 : Int32))]) ⟨rfl, rfl, rfl, trivial⟩ (lp_X10_countLying_7 hya fu _ _ hk)

def f_X11_back (fu : Nat) (v0 : Int32) (s : fl_I) (l : fl_L) : Int32 × fl_I × fl_L :=
  if (v0 < 0) then ((-1 : Int32), s, l) else if (v0 ≤ (s 1 1)) then (((wi s 1 1 ((s 1 1) - v0)) 1 1), (wi s 1 1 ((s 1 1) - v0)), l) else ((-1 : Int32), s, l)

def p_X11_back (fu : Nat) (v0 : Int32) (s : fl_I) (l : fl_L) : Prop :=
  (((v0 < 0) → True) ∧ (¬ (v0 < 0) → (((v0 ≤ (s 1 1)) → True) ∧ (¬ (v0 ≤ (s 1 1)) → True))))

set_option maxRecDepth 100000 in
set_option maxHeartbeats 1000000 in
theorem s_X11_back {G : ab_G} {fu : Nat} {d : Nat} {D : fl_D} {s : fl_I} {l : fl_L} {v0 : Int32} (hk : p_X11_back fu v0 s l) : ab_C G d 0 0 M_X11_back 0 (ab_ent [.ref 0, .int v0]) [] (hp D s l) (rt (some (.int (f_X11_back fu v0 s l).1)) (hp D (f_X11_back fu v0 s l).2.1 (f_X11_back fu v0 s l).2.2)) := by
  generalize he : (f_X11_back fu v0 s l) = res
  unfold f_X11_back at he
  unfold p_X11_back at hk
  refine r_weak (L1 := [some (.ref 0), some (.int v0)]) ⟨rfl, rfl, trivial⟩ ?_
  refine r_iload_n rfl rfl ?_
  refine r_if_lt rfl (fun c_1 => ?_) (fun c_1 => ?_)
  · rw [if_pos c_1] at he
    replace hk := hk.1 c_1
    refine r_iconst_ (a := -1) rfl (by decide) ?_
    refine r_iret rfl rfl rfl ?_
    first | with_reducible exact fin_i he | exact fin_i he
  · rw [if_neg c_1] at he
    replace hk := hk.2 c_1
    refine r_iload_n rfl rfl ?_
    refine r_aload_n rfl rfl ?_
    refine q_getfield rfl (cc_0 _) rfl ?_
    refine q_getfield rfl (cc_1 _) rfl ?_
    refine r_icmp_le rfl (fun c_12 => ?_) (fun c_12 => ?_)
    · rw [if_pos c_12] at he
      replace hk := hk.1 c_12
      refine r_aload_n rfl rfl ?_
      refine q_getfield rfl (cc_0 _) rfl ?_
      refine r_dup rfl rfl ?_
      refine q_getfield rfl (cc_1 _) rfl ?_
      refine r_iload_n rfl rfl ?_
      refine r_isub rfl ?_
      refine w_put rfl (cc_1 _) ff_4_1 ft_4_1 (fun _ _ => (Nat.le_of_ble_eq_true rfl)) (fun _ _ => rfl) ?_
      refine r_aload_n rfl rfl ?_
      refine q_getfield rfl (cc_0 _) rfl ?_
      refine q_getfield rfl (cc_1 _) rfl ?_
      refine r_iret rfl rfl rfl ?_
      first | with_reducible exact fin_i he | exact fin_i he
    · rw [if_neg c_12] at he
      replace hk := hk.2 c_12
      refine r_iconst_ (a := -1) rfl (by decide) ?_
      refine r_iret rfl rfl rfl ?_
      first | with_reducible exact fin_i he | exact fin_i he

def f_X10_putInHat (fu : Nat) (v0 : Int32) (v1 : Int32) (a : Nat) (s : fl_I) (l : fl_L) : fl_I × fl_L :=
  ((wi (wi (wi s (a + 1) v0.toNatClampNeg ((80 : Int32) + v1)) (a + 2) v0.toNatClampNeg (0 : Int32)) (a + 5) v1.toNatClampNeg (((wi (wi s (a + 1) v0.toNatClampNeg ((80 : Int32) + v1)) (a + 2) v0.toNatClampNeg (0 : Int32)) (a + 5) v1.toNatClampNeg) + (1 : Int32))), l)

def p_X10_putInHat (fu : Nat) (v0 : Int32) (v1 : Int32) (a : Nat) (s : fl_I) (l : fl_L) : Prop :=
  (vp_in v0 32) ∧ (vp_in v0 32) ∧ (vp_in v1 4) ∧ (vp_in v1 4) ∧ True

set_option maxRecDepth 100000 in
set_option maxHeartbeats 1000000 in
theorem s_X10_putInHat {G : ab_G} {fu : Nat} {d : Nat} {D : fl_D} {s : fl_I} {l : fl_L} {a : Nat} (hya : isY D a) {v0 : Int32} {v1 : Int32} (hk : p_X10_putInHat fu v0 v1 a s l) : ab_C G d 0 0 M_X10_putInHat 0 (ab_ent [.ref a, .int v0, .int v1]) [] (hp D s l) (rt none (hp D (f_X10_putInHat fu v0 v1 a s l).1 (f_X10_putInHat fu v0 v1 a s l).2)) := by
  generalize he : (f_X10_putInHat fu v0 v1 a s l) = res
  unfold f_X10_putInHat at he
  unfold p_X10_putInHat at hk
  refine r_weak (L1 := [some (.ref a), some (.int v0), some (.int v1)]) ⟨rfl, rfl, rfl, trivial⟩ ?_
  refine r_aload_n rfl rfl ?_
  refine q_getfield rfl (cY_0 hya) rfl ?_
  refine r_iload_n rfl rfl ?_
  refine r_bipush_ (a := 80) rfl (by decide) ?_
  refine r_iload_n rfl rfl ?_
  refine r_iadd rfl ?_
  obtain ⟨hb0, hk⟩ := hk
  refine w_iast rfl (cY_1 hya) hb0 ?_
  refine r_aload_n rfl rfl ?_
  refine q_getfield rfl (cY_0 hya) rfl ?_
  refine r_iload_n rfl rfl ?_
  refine r_iconst_ (a := 0) rfl (by decide) ?_
  obtain ⟨hb1, hk⟩ := hk
  refine w_iast rfl (cY_2 hya) hb1 ?_
  refine r_aload_n rfl rfl ?_
  refine q_getfield rfl (cY_0 hya) rfl ?_
  refine r_iload_n rfl rfl ?_
  refine r_dup2 rfl rfl rfl ?_
  obtain ⟨hb2, hk⟩ := hk
  refine q_iald rfl (cY_5 hya) hb2 ?_
  refine r_iconst_ (a := 1) rfl (by decide) ?_
  refine r_iadd rfl ?_
  obtain ⟨hb3, hk⟩ := hk
  refine w_iast rfl (cY_5 hya) hb3 ?_
  refine r_ret rfl rfl ?_
  first | with_reducible exact fin_v he | exact fin_v he

def f_X12_signAt_10 (fu : Nat) : Nat → Int32 → Int64 → Int32 → Int32
  | 0, _, _, _ => 0
  | n + 1, x2, x3, x5 =>
    if (x5 ≤ x2) then (x3 - x3 / (27 : Int64) * (27 : Int64)).toInt32 else f_X12_signAt_10 fu n x2 (x3 / (27 : Int64)) (x5 + (-1))

def p_X12_signAt_10 (fu : Nat) : Nat → Int32 → Int64 → Int32 → Prop
  | 0, _, _, _ => False
  | n + 1, x2, x3, x5 =>
    (((x5 ≤ x2) → True) ∧ (¬ (x5 ≤ x2) → p_X12_signAt_10 fu n x2 (x3 / (27 : Int64)) (x5 + (-1))))

set_option maxRecDepth 100000 in
set_option maxHeartbeats 1000000 in
theorem lp_X12_signAt_10 {G : ab_G} {fu : Nat} {d : Nat} {h : ab_H} : ∀ (n : Nat) (x2 : Int32) (x3 : Int64) (x5 : Int32), p_X12_signAt_10 fu n x2 x3 x5 → ab_C G (d + 1) 0 0 M_X12_signAt 10 [none, none, some (.int x2), some (.long x3), none, some (.int x5)] [] h (rt (some (.int (f_X12_signAt_10 fu n x2 x3 x5))) h) := by
  intro n
  induction n with
  | zero => intro x2 x3 x5 hk; exact hk.elim
  | succ n ih =>
    intro x2 x3 x5 hk
    generalize he : f_X12_signAt_10 fu (n + 1) x2 x3 x5 = res
    unfold f_X12_signAt_10 at he
    unfold p_X12_signAt_10 at hk
    refine r_iload rfl rfl ?_
    refine r_iload_n rfl rfl ?_
    refine r_icmp_le rfl (fun c_13 => ?_) (fun c_13 => ?_)
    · rw [if_pos c_13] at he
      replace hk := hk.1 c_13
      refine r_lload_n rfl rfl ?_
      refine r_ldc2_w rfl ?_
      refine r_lrem rfl (by decide) ?_
      refine r_l2i rfl ?_
      refine r_iret rfl rfl rfl ?_
      first | with_reducible exact fin_ri he | exact fin_ri he
    · rw [if_neg c_13] at he
      replace hk := hk.2 c_13
      refine r_lload_n rfl rfl ?_
      refine r_ldc2_w rfl ?_
      refine r_ldiv rfl (by decide) ?_
      refine r_lstore_n rfl (Nat.le_of_ble_eq_true rfl) rfl ?_
      refine r_iinc (b := x5 + (-1)) rfl rfl rfl (Nat.le_of_ble_eq_true rfl) rfl ?_
      refine r_goto rfl ?_
      subst he
      exact r_weak (L1 := [none, none, some (.int x2), some (.long (x3 / (27 : Int64))), none, some (.int (x5 + (-1)))]) ⟨rfl, rfl, rfl, trivial⟩ (ih _ _ _ hk)

def f_X12_signAt (fu : Nat) (v0 : Int64) (v1 : Int32) : Int32 :=
  f_X12_signAt_10 fu fu v1 v0 ((f_X12_lengthOf fu v0) - (1 : Int32))

def p_X12_signAt (fu : Nat) (v0 : Int64) (v1 : Int32) : Prop :=
  (p_X12_lengthOf fu v0) ∧ p_X12_signAt_10 fu fu v1 v0 ((f_X12_lengthOf fu v0) - (1 : Int32))

set_option maxRecDepth 100000 in
set_option maxHeartbeats 1000000 in
theorem s_X12_signAt {G : ab_G} {fu : Nat} {d : Nat} {h : ab_H} {v0 : Int64} {v1 : Int32} (hk : p_X12_signAt fu v0 v1) : ab_C G (d + 1) 0 0 M_X12_signAt 0 (ab_ent [.long v0, .int v1]) [] h (rt (some (.int (f_X12_signAt fu v0 v1))) h) := by
  generalize he : (f_X12_signAt fu v0 v1) = res
  unfold f_X12_signAt at he
  unfold p_X12_signAt at hk
  refine r_weak (L1 := [some (.long v0), none, some (.int v1), none, none, none]) ⟨rfl, rfl, trivial⟩ ?_
  refine r_lload_n rfl rfl ?_
  refine r_lstore_n rfl (Nat.le_of_ble_eq_true rfl) rfl ?_
  refine r_lload_n rfl rfl ?_
  obtain ⟨hb0, hk⟩ := hk
  refine r_callS0 [_] _ rfl kY_X12_lengthOf kT_X12_lengthOf rfl rfl (Nat.le_of_ble_eq_true rfl) (Nat.le_of_ble_eq_true rfl) (s_X12_lengthOf hb0) (fun r h q => ?_)
  obtain ⟨rfl, rfl⟩ := q
  simp only [Option.toList, List.cons_append, List.nil_append]
  refine r_iconst_ (a := 1) rfl (by decide) ?_
  refine r_isub rfl ?_
  refine r_istore rfl (Nat.le_of_ble_eq_true rfl) rfl ?_
  subst he
  exact r_weak (L1 := [none, none, some (.int v1), some (.long v0), none, some (.int ((f_X12_lengthOf fu v0) - (1 : Int32)))]) ⟨rfl, rfl, rfl, trivial⟩ (lp_X12_signAt_10 fu _ _ _ hk)

def f_X12_inHat_4 (fu : Nat) : Nat → Int32 → Int32 → Int32 → fl_I → fl_L → Int32
  | 0, _, _, _, _, _ => 0
  | n + 1, x1, x2, x3, s, l =>
    if ((s 60 54) ≤ x3) then x2 else if ((s 95 ((64 : Int32) + x3).toNatClampNeg) = x1) then f_X12_inHat_4 fu n x1 (x2 + 1) (x3 + 1) s l else f_X12_inHat_4 fu n x1 x2 (x3 + 1) s l

def p_X12_inHat_4 (fu : Nat) : Nat → Int32 → Int32 → Int32 → fl_I → fl_L → Prop
  | 0, _, _, _, _, _ => False
  | n + 1, x1, x2, x3, s, l =>
    ((((s 60 54) ≤ x3) → True) ∧ (¬ ((s 60 54) ≤ x3) → (vp_in ((64 : Int32) + x3) 141) ∧ ((((s 95 ((64 : Int32) + x3).toNatClampNeg) = x1) → p_X12_inHat_4 fu n x1 (x2 + 1) (x3 + 1) s l) ∧ (¬ ((s 95 ((64 : Int32) + x3).toNatClampNeg) = x1) → p_X12_inHat_4 fu n x1 x2 (x3 + 1) s l))))

set_option maxRecDepth 100000 in
set_option maxHeartbeats 1000000 in
theorem lp_X12_inHat_4 {G : ab_G} {fu : Nat} {d : Nat} {D : fl_D} {s : fl_I} {l : fl_L} : ∀ (n : Nat) (x1 : Int32) (x2 : Int32) (x3 : Int32), p_X12_inHat_4 fu n x1 x2 x3 s l → ab_C G d 0 0 M_X12_inHat 4 [some (.ref 60), some (.int x1), some (.int x2), some (.int x3)] [] (hp D s l) (rt (some (.int (f_X12_inHat_4 fu n x1 x2 x3 s l))) (hp D s l)) := by
  intro n
  induction n with
  | zero => intro x1 x2 x3 hk; exact hk.elim
  | succ n ih =>
    intro x1 x2 x3 hk
    generalize he : f_X12_inHat_4 fu (n + 1) x1 x2 x3 s l = res
    unfold f_X12_inHat_4 at he
    unfold p_X12_inHat_4 at hk
    refine r_iload_n rfl rfl ?_
    refine r_aload_n rfl rfl ?_
    refine q_getfield rfl (cc_60 _) rfl ?_
    refine r_icmp_ge rfl (fun c_9 => ?_) (fun c_9 => ?_)
    · rw [if_pos c_9] at he
      replace hk := hk.1 c_9
      refine r_iload_n rfl rfl ?_
      refine r_iret rfl rfl rfl ?_
      first | with_reducible exact fin_ri he | exact fin_ri he
    · rw [if_neg c_9] at he
      replace hk := hk.2 c_9
      refine r_aload_n rfl rfl ?_
      refine q_getfield rfl (cc_60 _) rfl ?_
      refine r_bipush_ (a := 64) rfl (by decide) ?_
      refine r_iload_n rfl rfl ?_
      refine r_iadd rfl ?_
      obtain ⟨hb0, hk⟩ := hk
      refine q_iald rfl (cc_95 _) hb0 ?_
      refine r_iload_n rfl rfl ?_
      refine r_icmp_ne rfl (fun c_22 => ?_) (fun c_22 => ?_)
      · rw [if_neg c_22] at he
        replace hk := hk.2 c_22
        refine r_iinc (b := x3 + 1) rfl rfl rfl (Nat.le_of_ble_eq_true rfl) rfl ?_
        refine r_goto rfl ?_
        subst he
        exact r_weak (L1 := [some (.ref 60), some (.int x1), some (.int x2), some (.int (x3 + 1))]) ⟨rfl, rfl, rfl, rfl, trivial⟩ (ih _ _ _ hk)
      · rw [if_pos c_22] at he
        replace hk := hk.1 c_22
        refine r_iinc (b := x2 + 1) rfl rfl rfl (Nat.le_of_ble_eq_true rfl) rfl ?_
        refine r_iinc (b := x3 + 1) rfl rfl rfl (Nat.le_of_ble_eq_true rfl) rfl ?_
        refine r_goto rfl ?_
        subst he
        exact r_weak (L1 := [some (.ref 60), some (.int x1), some (.int (x2 + 1)), some (.int (x3 + 1))]) ⟨rfl, rfl, rfl, rfl, trivial⟩ (ih _ _ _ hk)

def f_X12_inHat (fu : Nat) (v0 : Int32) (s : fl_I) (l : fl_L) : Int32 :=
  f_X12_inHat_4 fu fu v0 (0 : Int32) (0 : Int32) s l

def p_X12_inHat (fu : Nat) (v0 : Int32) (s : fl_I) (l : fl_L) : Prop :=
  p_X12_inHat_4 fu fu v0 (0 : Int32) (0 : Int32) s l

set_option maxRecDepth 100000 in
set_option maxHeartbeats 1000000 in
theorem s_X12_inHat {G : ab_G} {fu : Nat} {d : Nat} {D : fl_D} {s : fl_I} {l : fl_L} {v0 : Int32} (hk : p_X12_inHat fu v0 s l) : ab_C G d 0 0 M_X12_inHat 0 (ab_ent [.ref 60, .int v0]) [] (hp D s l) (rt (some (.int (f_X12_inHat fu v0 s l))) (hp D s l)) := by
  generalize he : (f_X12_inHat fu v0 s l) = res
  unfold f_X12_inHat at he
  unfold p_X12_inHat at hk
  refine r_weak (L1 := [some (.ref 60), some (.int v0), none, none]) ⟨rfl, rfl, trivial⟩ ?_
  refine r_iconst_ (a := 0) rfl (by decide) ?_
  refine r_istore_n rfl (Nat.le_of_ble_eq_true rfl) rfl ?_
  refine r_iconst_ (a := 0) rfl (by decide) ?_
  refine r_istore_n rfl (Nat.le_of_ble_eq_true rfl) rfl ?_
  subst he
  exact r_weak (L1 := [some (.ref 60), some (.int v0), some (.int (0 : Int32)), some (.int (0 : Int32))]) ⟨rfl, rfl, rfl, rfl, trivial⟩ (lp_X12_inHat_4 fu _ _ _ hk)

def f_X12_looks_2 (fu : Nat) : Nat → Int32 → fl_I → fl_L → fl_I × fl_L
  | 0, x1, s, l => (s, l)
  | n + 1, x1, s, l =>
    if ((9 : Int32) ≤ x1) then ((wi s 92 (3 : Int32).toNatClampNeg (s 95 (140 : Int32).toNatClampNeg)), l) else f_X12_looks_2 fu n (x1 + 1) (wi s 92 x1.toNatClampNeg (0 : Int32)) l

def p_X12_looks_2 (fu : Nat) : Nat → Int32 → fl_I → fl_L → Prop
  | 0, _, _, _ => False
  | n + 1, x1, s, l =>
    ((((9 : Int32) ≤ x1) → True) ∧ (¬ ((9 : Int32) ≤ x1) → (vp_in x1 9) ∧ p_X12_looks_2 fu n (x1 + 1) (wi s 92 x1.toNatClampNeg (0 : Int32)) l))

set_option maxRecDepth 100000 in
set_option maxHeartbeats 1000000 in
theorem lp_X12_looks_2 {G : ab_G} {fu : Nat} {d : Nat} {D : fl_D} : ∀ (n : Nat) (x1 : Int32) (s : fl_I) (l : fl_L), p_X12_looks_2 fu n x1 s l → ab_C G d 0 0 M_X12_looks 2 [some (.ref 60), some (.int x1)] [] (hp D s l) (rt none (hp D (f_X12_looks_2 fu n x1 s l).1 (f_X12_looks_2 fu n x1 s l).2)) := by
  intro n
  induction n with
  | zero => intro x1 s l hk; exact hk.elim
  | succ n ih =>
    intro x1 s l hk
    generalize he : f_X12_looks_2 fu (n + 1) x1 s l = res
    unfold f_X12_looks_2 at he
    unfold p_X12_looks_2 at hk
    refine r_iload_n rfl rfl ?_
    refine r_bipush_ (a := 9) rfl (by decide) ?_
    refine r_icmp_ge rfl (fun c_5 => ?_) (fun c_5 => ?_)
    · rw [if_pos c_5] at he
      replace hk := hk.1 c_5
      refine r_aload_n rfl rfl ?_
      refine q_getfield rfl (cc_60 _) rfl ?_
      refine r_iconst_ (a := 3) rfl (by decide) ?_
      refine r_aload_n rfl rfl ?_
      refine q_getfield rfl (cc_60 _) rfl ?_
      refine r_sipush_ (a := 140) rfl (by decide) ?_
      refine q_iald rfl (cc_95 _) (by unfold vp_in; decide) ?_
      refine w_iast rfl (cc_92 _) (by unfold vp_in; decide) ?_
      refine r_ret rfl rfl ?_
      first | with_reducible exact fin_v he | exact fin_v he
    · rw [if_neg c_5] at he
      replace hk := hk.2 c_5
      refine r_aload_n rfl rfl ?_
      refine q_getfield rfl (cc_60 _) rfl ?_
      refine r_iload_n rfl rfl ?_
      refine r_iconst_ (a := 0) rfl (by decide) ?_
      obtain ⟨hb0, hk⟩ := hk
      refine w_iast rfl (cc_92 _) hb0 ?_
      refine r_iinc (b := x1 + 1) rfl rfl rfl (Nat.le_of_ble_eq_true rfl) rfl ?_
      refine r_goto rfl ?_
      subst he
      exact r_weak (L1 := [some (.ref 60), some (.int (x1 + 1))]) ⟨rfl, rfl, trivial⟩ (ih _ _ _ hk)

def f_X12_looks (fu : Nat) (s : fl_I) (l : fl_L) : fl_I × fl_L :=
  f_X12_looks_2 fu fu (0 : Int32) s l

def p_X12_looks (fu : Nat) (s : fl_I) (l : fl_L) : Prop :=
  p_X12_looks_2 fu fu (0 : Int32) s l

set_option maxRecDepth 100000 in
set_option maxHeartbeats 1000000 in
theorem s_X12_looks {G : ab_G} {fu : Nat} {d : Nat} {D : fl_D} {s : fl_I} {l : fl_L}  (hk : p_X12_looks fu s l) : ab_C G d 0 0 M_X12_looks 0 (ab_ent [.ref 60]) [] (hp D s l) (rt none (hp D (f_X12_looks fu s l).1 (f_X12_looks fu s l).2)) := by
  generalize he : (f_X12_looks fu s l) = res
  unfold f_X12_looks at he
  unfold p_X12_looks at hk
  refine r_weak (L1 := [some (.ref 60), none]) ⟨rfl, trivial⟩ ?_
  refine r_iconst_ (a := 0) rfl (by decide) ?_
  refine r_istore_n rfl (Nat.le_of_ble_eq_true rfl) rfl ?_
  subst he
  exact r_weak (L1 := [some (.ref 60), some (.int (0 : Int32))]) ⟨rfl, rfl, trivial⟩ (lp_X12_looks_2 fu _ _ _ hk)

def f_X12_pieceAcross (fu : Nat) (v0 : Int32) (s : fl_I) (l : fl_L) : Int32 :=
  if ((f_X12_doesLie fu v0 s l) = 0) then (s 95 ((128 : Int32) + (s 95 ((64 : Int32) + v0).toNatClampNeg)).toNatClampNeg) else (s 95 v0.toNatClampNeg)

def p_X12_pieceAcross (fu : Nat) (v0 : Int32) (s : fl_I) (l : fl_L) : Prop :=
  (p_X12_doesLie fu v0 s l) ∧ ((((f_X12_doesLie fu v0 s l) = 0) → (vp_in ((64 : Int32) + v0) 141) ∧ (vp_in ((128 : Int32) + (s 95 ((64 : Int32) + v0).toNatClampNeg)) 141) ∧ True) ∧ (¬ ((f_X12_doesLie fu v0 s l) = 0) → (vp_in v0 141) ∧ True))

set_option maxRecDepth 100000 in
set_option maxHeartbeats 1000000 in
theorem s_X12_pieceAcross {G : ab_G} {fu : Nat} {d : Nat} {D : fl_D} {s : fl_I} {l : fl_L} {v0 : Int32} (hk : p_X12_pieceAcross fu v0 s l) : ab_C G (d + 1) 0 0 M_X12_pieceAcross 0 (ab_ent [.ref 60, .int v0]) [] (hp D s l) (rt (some (.int (f_X12_pieceAcross fu v0 s l))) (hp D s l)) := by
  generalize he : (f_X12_pieceAcross fu v0 s l) = res
  unfold f_X12_pieceAcross at he
  unfold p_X12_pieceAcross at hk
  refine r_weak (L1 := [some (.ref 60), some (.int v0)]) ⟨rfl, rfl, trivial⟩ ?_
  refine r_aload_n rfl rfl ?_
  refine r_iload_n rfl rfl ?_
  obtain ⟨hb0, hk⟩ := hk
  refine q_callV0 [_] _ rfl kY_X12_doesLie kT_X12_doesLie rfl rfl (Nat.le_of_ble_eq_true rfl) (Nat.le_of_ble_eq_true rfl) (cc_60 _) (s_X12_doesLie hb0) (fun r h q => ?_)
  obtain ⟨rfl, rfl⟩ := q
  simp only [Option.toList, List.cons_append, List.nil_append]
  refine r_if_eq rfl (fun c_5 => ?_) (fun c_5 => ?_)
  · rw [if_pos c_5] at he
    replace hk := hk.1 c_5
    refine r_aload_n rfl rfl ?_
    refine q_getfield rfl (cc_60 _) rfl ?_
    refine r_sipush_ (a := 128) rfl (by decide) ?_
    refine r_aload_n rfl rfl ?_
    refine q_getfield rfl (cc_60 _) rfl ?_
    refine r_bipush_ (a := 64) rfl (by decide) ?_
    refine r_iload_n rfl rfl ?_
    refine r_iadd rfl ?_
    obtain ⟨hb1, hk⟩ := hk
    refine q_iald rfl (cc_95 _) hb1 ?_
    refine r_iadd rfl ?_
    obtain ⟨hb2, hk⟩ := hk
    refine q_iald rfl (cc_95 _) hb2 ?_
    refine r_iret rfl rfl rfl ?_
    first | with_reducible exact fin_ri he | exact fin_ri he
  · rw [if_neg c_5] at he
    replace hk := hk.2 c_5
    refine r_aload_n rfl rfl ?_
    refine q_getfield rfl (cc_60 _) rfl ?_
    refine r_iload_n rfl rfl ?_
    obtain ⟨hb3, hk⟩ := hk
    refine q_iald rfl (cc_95 _) hb3 ?_
    refine r_goto rfl ?_
    refine r_iret rfl rfl rfl ?_
    first | with_reducible exact fin_ri he | exact fin_ri he

def f_X12_goalAt (fu : Nat) (v0 : Int32) (v1 : Int32) (s : fl_I) (l : fl_L) : Int32 :=
  if (v1 = (((10 : Int32) * (s 94 ((132 : Int32) + v0).toNatClampNeg)) + (s 94 ((128 : Int32) + v0).toNatClampNeg))) then (-2 : Int32) else v1

def p_X12_goalAt (fu : Nat) (v0 : Int32) (v1 : Int32) (s : fl_I) (l : fl_L) : Prop :=
  (vp_in ((132 : Int32) + v0) 141) ∧ (vp_in ((128 : Int32) + v0) 141) ∧ (((v1 = (((10 : Int32) * (s 94 ((132 : Int32) + v0).toNatClampNeg)) + (s 94 ((128 : Int32) + v0).toNatClampNeg))) → True) ∧ (¬ (v1 = (((10 : Int32) * (s 94 ((132 : Int32) + v0).toNatClampNeg)) + (s 94 ((128 : Int32) + v0).toNatClampNeg))) → True))

set_option maxRecDepth 100000 in
set_option maxHeartbeats 1000000 in
theorem s_X12_goalAt {G : ab_G} {fu : Nat} {d : Nat} {D : fl_D} {s : fl_I} {l : fl_L} {v0 : Int32} {v1 : Int32} (hk : p_X12_goalAt fu v0 v1 s l) : ab_C G d 0 0 M_X12_goalAt 0 (ab_ent [.ref 60, .int v0, .int v1]) [] (hp D s l) (rt (some (.int (f_X12_goalAt fu v0 v1 s l))) (hp D s l)) := by
  generalize he : (f_X12_goalAt fu v0 v1 s l) = res
  unfold f_X12_goalAt at he
  unfold p_X12_goalAt at hk
  refine r_weak (L1 := [some (.ref 60), some (.int v0), some (.int v1)]) ⟨rfl, rfl, rfl, trivial⟩ ?_
  refine r_iload_n rfl rfl ?_
  refine r_bipush_ (a := 10) rfl (by decide) ?_
  refine r_aload_n rfl rfl ?_
  refine q_getfield rfl (cc_60 _) rfl ?_
  refine r_sipush_ (a := 132) rfl (by decide) ?_
  refine r_iload_n rfl rfl ?_
  refine r_iadd rfl ?_
  obtain ⟨hb0, hk⟩ := hk
  refine q_iald rfl (cc_94 _) hb0 ?_
  refine r_imul rfl ?_
  refine r_aload_n rfl rfl ?_
  refine q_getfield rfl (cc_60 _) rfl ?_
  refine r_sipush_ (a := 128) rfl (by decide) ?_
  refine r_iload_n rfl rfl ?_
  refine r_iadd rfl ?_
  obtain ⟨hb1, hk⟩ := hk
  refine q_iald rfl (cc_94 _) hb1 ?_
  refine r_iadd rfl ?_
  refine r_icmp_ne rfl (fun c_25 => ?_) (fun c_25 => ?_)
  · rw [if_neg c_25] at he
    replace hk := hk.2 c_25
    refine r_iload_n rfl rfl ?_
    refine r_iret rfl rfl rfl ?_
    first | with_reducible exact fin_ri he | exact fin_ri he
  · rw [if_pos c_25] at he
    replace hk := hk.1 c_25
    refine r_bipush_ (a := -2) rfl (by decide) ?_
    refine r_goto rfl ?_
    refine r_iret rfl rfl rfl ?_
    first | with_reducible exact fin_ri he | exact fin_ri he

def f_X1_joined (fu : Nat) (v0 : Int32) (v1 : Int32) (v2 : Int32) : Int32 :=
  if (v0 = (-3)) then (v1 * v2) else if (v0 = (-2)) then (v1 - v2) else if (v0 = (-1)) then (v1 + v2) else if (v2 = 0) then (0 : Int32) else (v1 / v2)

def p_X1_joined (fu : Nat) (v0 : Int32) (v1 : Int32) (v2 : Int32) : Prop :=
  (((v0 = (-3)) → True) ∧ (¬ (v0 = (-3)) → (((v0 = (-2)) → True) ∧ (¬ (v0 = (-2)) → (((v0 = (-1)) → True) ∧ (¬ (v0 = (-1)) → (((v2 = 0) → True) ∧ (¬ (v2 = 0) → (¬ v2 = 0) ∧ True))))))))

set_option maxRecDepth 100000 in
set_option maxHeartbeats 1000000 in
theorem s_X1_joined {G : ab_G} {fu : Nat} {d : Nat} {h : ab_H} {v0 : Int32} {v1 : Int32} {v2 : Int32} (hk : p_X1_joined fu v0 v1 v2) : ab_C G d 0 0 M_X1_joined 0 (ab_ent [.int v0, .int v1, .int v2]) [] h (rt (some (.int (f_X1_joined fu v0 v1 v2))) h) := by
  generalize he : (f_X1_joined fu v0 v1 v2) = res
  unfold f_X1_joined at he
  unfold p_X1_joined at hk
  refine r_weak (L1 := [some (.int v0), some (.int v1), some (.int v2)]) ⟨rfl, rfl, rfl, trivial⟩ ?_
  refine r_iload_n rfl rfl ?_
  by_cases c_1_m3 : (v0 = (-3))
  · rw [if_pos c_1_m3] at he
    replace hk := hk.1 c_1_m3
    refine r_tableIn (tgt := 36) rfl (by rw [c_1_m3]; decide) (by rw [c_1_m3]; decide) (by rw [c_1_m3]; rfl) (by decide) ?_
    refine r_iload_n rfl rfl ?_
    refine r_iload_n rfl rfl ?_
    refine r_imul rfl ?_
    refine r_iret rfl rfl rfl ?_
    first | with_reducible exact fin_ri he | exact fin_ri he
  · rw [if_neg c_1_m3] at he
    replace hk := hk.2 c_1_m3
    by_cases c_1_m2 : (v0 = (-2))
    · rw [if_pos c_1_m2] at he
      replace hk := hk.1 c_1_m2
      refine r_tableIn (tgt := 32) rfl (by rw [c_1_m2]; decide) (by rw [c_1_m2]; decide) (by rw [c_1_m2]; rfl) (by decide) ?_
      refine r_iload_n rfl rfl ?_
      refine r_iload_n rfl rfl ?_
      refine r_isub rfl ?_
      refine r_iret rfl rfl rfl ?_
      first | with_reducible exact fin_ri he | exact fin_ri he
    · rw [if_neg c_1_m2] at he
      replace hk := hk.2 c_1_m2
      by_cases c_1_m1 : (v0 = (-1))
      · rw [if_pos c_1_m1] at he
        replace hk := hk.1 c_1_m1
        refine r_tableIn (tgt := 28) rfl (by rw [c_1_m1]; decide) (by rw [c_1_m1]; decide) (by rw [c_1_m1]; rfl) (by decide) ?_
        refine r_iload_n rfl rfl ?_
        refine r_iload_n rfl rfl ?_
        refine r_iadd rfl ?_
        refine r_iret rfl rfl rfl ?_
        first | with_reducible exact fin_ri he | exact fin_ri he
      · rw [if_neg c_1_m1] at he
        replace hk := hk.2 c_1_m1
        refine r_tableOut (tgt := 40) rfl (by simp only [Int32.lt_iff_toInt_lt, Int32.le_iff_toInt_le, ← Int32.toInt_inj, ti_0, ti_1, ti_2, ti_3, ti_4, ti_5, ti_6, ti_7, ti_8, ti_9, ti_10, ti_11, ti_12, ti_13, ti_14, ti_15, ti_16, ti_17, ti_18, ti_19, ti_20, ti_21, ti_22, ti_23, ti_24, ti_25, ti_26, ti_27, ti_28, ti_29, ti_30, ti_31, ti_32, ti_33, ti_34, ti_35, ti_36, ti_37, ti_38, ti_39, ti_40, ti_41, ti_42, ti_43, ti_44, ti_45, ti_46, ti_47, ti_48, ti_49, ti_50, ti_51, ti_52, ti_53, ti_54, ti_55, ti_56, ti_57, ti_58, ti_59, ti_60, ti_61, ti_62, ti_63, ti_64, ti_79, ti_80, ti_90, ti_96, ti_97, ti_99, ti_100, ti_122, ti_128, ti_132, ti_136, ti_140, ti_141, ti_145, ti_255, ti_256, ti_257, ti_258, ti_259, ti_260, ti_261, ti_262, ti_263, ti_264, ti_265, ti_266, ti_267, ti_268, ti_269, ti_270, ti_271, ti_272, ti_273, ti_274, ti_275, ti_276, ti_277, ti_278, ti_400, ti_401, ti_408, ti_420, ti_840, ti_999, ti_1980, ti_2000, ti_9999, ti_10000, ti_10240, ti_1000000, ti_m1, ti_m2, ti_m3, ti_m4, ti_m5, ti_m6, ti_m7] at c_1_m3 c_1_m2 c_1_m1; omega) (by decide) ?_
        refine r_iload_n rfl rfl ?_
        refine r_if_ne rfl (fun c_41 => ?_) (fun c_41 => ?_)
        · rw [if_neg c_41] at he
          replace hk := hk.2 c_41
          refine r_iload_n rfl rfl ?_
          refine r_iload_n rfl rfl ?_
          obtain ⟨hb0, hk⟩ := hk
          refine r_idiv rfl hb0 ?_
          refine r_iret rfl rfl rfl ?_
          first | with_reducible exact fin_ri he | exact fin_ri he
        · rw [if_pos c_41] at he
          replace hk := hk.1 c_41
          refine r_iconst_ (a := 0) rfl (by decide) ?_
          refine r_goto rfl ?_
          refine r_iret rfl rfl rfl ?_
          first | with_reducible exact fin_ri he | exact fin_ri he

def f_X3_noteLater (fu : Nat) (v0 : Int32) (s : fl_I) (l : fl_L) : fl_I × fl_L :=
  if ((s 3 4) = 0) then if ((s 3 2) < 0) then (s, l) else if ((400 : Int32) < (s 3 2)) then (s, l) else ((wi (wi s 3 4 v0) 3 5 ((wi s 3 4 v0) 6 ((wi s 3 4 v0) 3 2).toNatClampNeg)), l) else (s, l)

def p_X3_noteLater (fu : Nat) (v0 : Int32) (s : fl_I) (l : fl_L) : Prop :=
  ((((s 3 4) = 0) → ((((s 3 2) < 0) → True) ∧ (¬ ((s 3 2) < 0) → ((((400 : Int32) < (s 3 2)) → True) ∧ (¬ ((400 : Int32) < (s 3 2)) → (vp_in ((wi s 3 4 v0) 3 2) 401) ∧ True))))) ∧ (¬ ((s 3 4) = 0) → True))

set_option maxRecDepth 100000 in
set_option maxHeartbeats 1000000 in
theorem s_X3_noteLater {G : ab_G} {fu : Nat} {d : Nat} {D : fl_D} {s : fl_I} {l : fl_L} {v0 : Int32} (hk : p_X3_noteLater fu v0 s l) : ab_C G d 0 0 M_X3_noteLater 0 (ab_ent [.ref 3, .int v0]) [] (hp D s l) (rt none (hp D (f_X3_noteLater fu v0 s l).1 (f_X3_noteLater fu v0 s l).2)) := by
  generalize he : (f_X3_noteLater fu v0 s l) = res
  unfold f_X3_noteLater at he
  unfold p_X3_noteLater at hk
  refine r_weak (L1 := [some (.ref 3), some (.int v0)]) ⟨rfl, rfl, trivial⟩ ?_
  refine r_aload_n rfl rfl ?_
  refine q_getfield rfl (cc_3 _) rfl ?_
  refine r_if_ne rfl (fun c_4 => ?_) (fun c_4 => ?_)
  · rw [if_neg c_4] at he
    replace hk := hk.2 c_4
    refine r_ret rfl rfl ?_
    first | with_reducible exact fin_v he | exact fin_v he
  · rw [if_pos c_4] at he
    replace hk := hk.1 c_4
    refine r_aload_n rfl rfl ?_
    refine q_getfield rfl (cc_3 _) rfl ?_
    refine r_if_lt rfl (fun c_11 => ?_) (fun c_11 => ?_)
    · rw [if_pos c_11] at he
      replace hk := hk.1 c_11
      refine r_ret rfl rfl ?_
      first | with_reducible exact fin_v he | exact fin_v he
    · rw [if_neg c_11] at he
      replace hk := hk.2 c_11
      refine r_aload_n rfl rfl ?_
      refine q_getfield rfl (cc_3 _) rfl ?_
      refine r_sipush_ (a := 400) rfl (by decide) ?_
      refine r_icmp_gt rfl (fun c_21 => ?_) (fun c_21 => ?_)
      · rw [if_pos c_21] at he
        replace hk := hk.1 c_21
        refine r_ret rfl rfl ?_
        first | with_reducible exact fin_v he | exact fin_v he
      · rw [if_neg c_21] at he
        replace hk := hk.2 c_21
        refine r_aload_n rfl rfl ?_
        refine r_iload_n rfl rfl ?_
        refine w_put rfl (cc_3 _) ff_3_4 ft_3_4 (fun _ _ => (Nat.le_of_ble_eq_true rfl)) (fun _ _ => rfl) ?_
        refine r_aload_n rfl rfl ?_
        refine r_aload_n rfl rfl ?_
        refine q_getfield rfl (cc_3 _) rfl ?_
        refine q_getfield rfl (cc_4 _) rfl ?_
        refine r_aload_n rfl rfl ?_
        refine q_getfield rfl (cc_3 _) rfl ?_
        obtain ⟨hb0, hk⟩ := hk
        refine q_iald rfl (cc_6 _) hb0 ?_
        refine w_put rfl (cc_3 _) ff_3_5 ft_3_5 (fun _ _ => (Nat.le_of_ble_eq_true rfl)) (fun _ _ => rfl) ?_
        refine r_ret rfl rfl ?_
        first | with_reducible exact fin_v he | exact fin_v he

def f_X11_steps (fu : Nat) (v0 : Int32) (v1 : Int32) (v2 : Int32) (s : fl_I) (l : fl_L) : Int32 :=
  if ((f_X11_isPicker fu v0 s l) = 0) then (-1 : Int32) else if ((f_X11_isCell fu v1 v2) = 0) then (-1 : Int32) else (f_X11_apart fu (s 34 v0.toNatClampNeg) (((10 : Int32) * v2) + v1))

def p_X11_steps (fu : Nat) (v0 : Int32) (v1 : Int32) (v2 : Int32) (s : fl_I) (l : fl_L) : Prop :=
  (p_X11_isPicker fu v0 s l) ∧ ((((f_X11_isPicker fu v0 s l) = 0) → True) ∧ (¬ ((f_X11_isPicker fu v0 s l) = 0) → (p_X11_isCell fu v1 v2) ∧ ((((f_X11_isCell fu v1 v2) = 0) → True) ∧ (¬ ((f_X11_isCell fu v1 v2) = 0) → (vp_in v0 4) ∧ (p_X11_apart fu (s 34 v0.toNatClampNeg) (((10 : Int32) * v2) + v1)) ∧ True))))

set_option maxRecDepth 100000 in
set_option maxHeartbeats 1000000 in
theorem s_X11_steps {G : ab_G} {fu : Nat} {d : Nat} {D : fl_D} {s : fl_I} {l : fl_L} {v0 : Int32} {v1 : Int32} {v2 : Int32} (hk : p_X11_steps fu v0 v1 v2 s l) : ab_C G (d + 1) 0 0 M_X11_steps 0 (ab_ent [.ref 0, .int v0, .int v1, .int v2]) [] (hp D s l) (rt (some (.int (f_X11_steps fu v0 v1 v2 s l))) (hp D s l)) := by
  generalize he : (f_X11_steps fu v0 v1 v2 s l) = res
  unfold f_X11_steps at he
  unfold p_X11_steps at hk
  refine r_weak (L1 := [some (.ref 0), some (.int v0), some (.int v1), some (.int v2)]) ⟨rfl, rfl, rfl, rfl, trivial⟩ ?_
  refine r_aload_n rfl rfl ?_
  refine r_iload_n rfl rfl ?_
  obtain ⟨hb0, hk⟩ := hk
  refine q_callV0 [_] _ rfl kY_X11_isPicker kT_X11_isPicker rfl rfl (Nat.le_of_ble_eq_true rfl) (Nat.le_of_ble_eq_true rfl) (cc_0 _) (s_X11_isPicker hb0) (fun r h q => ?_)
  obtain ⟨rfl, rfl⟩ := q
  simp only [Option.toList, List.cons_append, List.nil_append]
  refine r_if_eq rfl (fun c_5 => ?_) (fun c_5 => ?_)
  · rw [if_pos c_5] at he
    replace hk := hk.1 c_5
    refine r_iconst_ (a := -1) rfl (by decide) ?_
    refine r_iret rfl rfl rfl ?_
    first | with_reducible exact fin_ri he | exact fin_ri he
  · rw [if_neg c_5] at he
    replace hk := hk.2 c_5
    refine r_iload_n rfl rfl ?_
    refine r_iload_n rfl rfl ?_
    obtain ⟨hb1, hk⟩ := hk
    refine r_callS0 [_, _] _ rfl kY_X11_isCell kT_X11_isCell rfl rfl (Nat.le_of_ble_eq_true rfl) (Nat.le_of_ble_eq_true rfl) (s_X11_isCell hb1) (fun r h q => ?_)
    obtain ⟨rfl, rfl⟩ := q
    simp only [Option.toList, List.cons_append, List.nil_append]
    refine r_if_ne rfl (fun c_13 => ?_) (fun c_13 => ?_)
    · rw [if_neg c_13] at he
      replace hk := hk.2 c_13
      refine r_aload_n rfl rfl ?_
      refine q_getfield rfl (cc_0 _) rfl ?_
      refine q_getfield rfl (cc_31 _) rfl ?_
      refine r_iload_n rfl rfl ?_
      obtain ⟨hb2, hk⟩ := hk
      refine q_iald rfl (cc_34 _) hb2 ?_
      refine r_bipush_ (a := 10) rfl (by decide) ?_
      refine r_iload_n rfl rfl ?_
      refine r_imul rfl ?_
      refine r_iload_n rfl rfl ?_
      refine r_iadd rfl ?_
      obtain ⟨hb3, hk⟩ := hk
      refine r_callS0 [_, _] _ rfl kY_X11_apart kT_X11_apart rfl rfl (Nat.le_of_ble_eq_true rfl) (Nat.le_of_ble_eq_true rfl) (s_X11_apart hb3) (fun r h q => ?_)
      obtain ⟨rfl, rfl⟩ := q
      simp only [Option.toList, List.cons_append, List.nil_append]
      refine r_iret rfl rfl rfl ?_
      first | with_reducible exact fin_ri he | exact fin_ri he
    · rw [if_pos c_13] at he
      replace hk := hk.1 c_13
      refine r_iconst_ (a := -1) rfl (by decide) ?_
      refine r_iret rfl rfl rfl ?_
      first | with_reducible exact fin_ri he | exact fin_ri he

def f_X12_put_3 (fu : Nat) : Nat → Int32 → Int32 → fl_I → fl_L → fl_I × fl_L
  | 0, x1, x2, s, l => (s, l)
  | n + 1, x1, x2, s, l =>
    if (x2 < 0) then (s, l) else f_X12_put_3 fu n x1 (x2 + (-8)) (wi (wi s 61 (s 60 2).toNatClampNeg (vp_nar .byte (x1 >>> (x2 &&& 31)).toInt8.toInt32)) 60 2 (((wi s 61 (s 60 2).toNatClampNeg (vp_nar .byte (x1 >>> (x2 &&& 31)).toInt8.toInt32)) 60 2) + (1 : Int32))) l

def p_X12_put_3 (fu : Nat) : Nat → Int32 → Int32 → fl_I → fl_L → Prop
  | 0, _, _, _, _ => False
  | n + 1, x1, x2, s, l =>
    (((x2 < 0) → True) ∧ (¬ (x2 < 0) → (vp_in (s 60 2) 2000) ∧ p_X12_put_3 fu n x1 (x2 + (-8)) (wi (wi s 61 (s 60 2).toNatClampNeg (vp_nar .byte (x1 >>> (x2 &&& 31)).toInt8.toInt32)) 60 2 (((wi s 61 (s 60 2).toNatClampNeg (vp_nar .byte (x1 >>> (x2 &&& 31)).toInt8.toInt32)) 60 2) + (1 : Int32))) l))

set_option maxRecDepth 100000 in
set_option maxHeartbeats 1000000 in
theorem lp_X12_put_3 {G : ab_G} {fu : Nat} {d : Nat} {D : fl_D} : ∀ (n : Nat) (x1 : Int32) (x2 : Int32) (s : fl_I) (l : fl_L), p_X12_put_3 fu n x1 x2 s l → ab_C G d 0 0 M_X12_put 3 [some (.ref 60), some (.int x1), some (.int x2)] [] (hp D s l) (rt none (hp D (f_X12_put_3 fu n x1 x2 s l).1 (f_X12_put_3 fu n x1 x2 s l).2)) := by
  intro n
  induction n with
  | zero => intro x1 x2 s l hk; exact hk.elim
  | succ n ih =>
    intro x1 x2 s l hk
    generalize he : f_X12_put_3 fu (n + 1) x1 x2 s l = res
    unfold f_X12_put_3 at he
    unfold p_X12_put_3 at hk
    refine r_iload_n rfl rfl ?_
    refine r_if_lt rfl (fun c_4 => ?_) (fun c_4 => ?_)
    · rw [if_pos c_4] at he
      replace hk := hk.1 c_4
      refine r_ret rfl rfl ?_
      first | with_reducible exact fin_v he | exact fin_v he
    · rw [if_neg c_4] at he
      replace hk := hk.2 c_4
      refine r_aload_n rfl rfl ?_
      refine q_getfield rfl (cc_60 _) rfl ?_
      refine r_aload_n rfl rfl ?_
      refine q_getfield rfl (cc_60 _) rfl ?_
      refine r_iload_n rfl rfl ?_
      refine r_iload_n rfl rfl ?_
      refine r_ishr rfl ?_
      refine r_i2b rfl ?_
      obtain ⟨hb0, hk⟩ := hk
      refine w_bast rfl (cc_61 _) hb0 ?_
      refine r_aload_n rfl rfl ?_
      refine r_dup rfl rfl ?_
      refine q_getfield rfl (cc_60 _) rfl ?_
      refine r_iconst_ (a := 1) rfl (by decide) ?_
      refine r_iadd rfl ?_
      refine w_put rfl (cc_60 _) ff_12_2 ft_12_2 (fun _ _ => (Nat.le_of_ble_eq_true rfl)) (fun _ _ => rfl) ?_
      refine r_iinc (b := x2 + (-8)) rfl rfl rfl (Nat.le_of_ble_eq_true rfl) rfl ?_
      refine r_goto rfl ?_
      subst he
      exact r_weak (L1 := [some (.ref 60), some (.int x1), some (.int (x2 + (-8)))]) ⟨rfl, rfl, rfl, trivial⟩ (ih _ _ _ _ hk)

def f_X12_put (fu : Nat) (v0 : Int32) (s : fl_I) (l : fl_L) : fl_I × fl_L :=
  f_X12_put_3 fu fu v0 (24 : Int32) s l

def p_X12_put (fu : Nat) (v0 : Int32) (s : fl_I) (l : fl_L) : Prop :=
  p_X12_put_3 fu fu v0 (24 : Int32) s l

set_option maxRecDepth 100000 in
set_option maxHeartbeats 1000000 in
theorem s_X12_put {G : ab_G} {fu : Nat} {d : Nat} {D : fl_D} {s : fl_I} {l : fl_L} {v0 : Int32} (hk : p_X12_put fu v0 s l) : ab_C G d 0 0 M_X12_put 0 (ab_ent [.ref 60, .int v0]) [] (hp D s l) (rt none (hp D (f_X12_put fu v0 s l).1 (f_X12_put fu v0 s l).2)) := by
  generalize he : (f_X12_put fu v0 s l) = res
  unfold f_X12_put at he
  unfold p_X12_put at hk
  refine r_weak (L1 := [some (.ref 60), some (.int v0), none]) ⟨rfl, rfl, trivial⟩ ?_
  refine r_bipush_ (a := 24) rfl (by decide) ?_
  refine r_istore_n rfl (Nat.le_of_ble_eq_true rfl) rfl ?_
  subst he
  exact r_weak (L1 := [some (.ref 60), some (.int v0), some (.int (24 : Int32))]) ⟨rfl, rfl, rfl, trivial⟩ (lp_X12_put_3 fu _ _ _ _ hk)

def f_X12_lieAt_4 (fu : Nat) : Nat → Int32 → Int32 → Int32 → fl_I → fl_L → Int32
  | 0, _, _, _, _, _ => 0
  | n + 1, x1, x2, x3, s, l =>
    if ((s 60 54) ≤ x3) then x2 else if ((f_X12_doesLie fu x3 s l) = 0) then f_X12_lieAt_4 fu n x1 x2 (x3 + 1) s l else if ((f_X12_cellOf fu x3 s l) = x1) then f_X12_lieAt_4 fu n x1 (x2 + 1) (x3 + 1) s l else f_X12_lieAt_4 fu n x1 x2 (x3 + 1) s l

def p_X12_lieAt_4 (fu : Nat) : Nat → Int32 → Int32 → Int32 → fl_I → fl_L → Prop
  | 0, _, _, _, _, _ => False
  | n + 1, x1, x2, x3, s, l =>
    ((((s 60 54) ≤ x3) → True) ∧ (¬ ((s 60 54) ≤ x3) → (p_X12_doesLie fu x3 s l) ∧ ((((f_X12_doesLie fu x3 s l) = 0) → p_X12_lieAt_4 fu n x1 x2 (x3 + 1) s l) ∧ (¬ ((f_X12_doesLie fu x3 s l) = 0) → (p_X12_cellOf fu x3 s l) ∧ ((((f_X12_cellOf fu x3 s l) = x1) → p_X12_lieAt_4 fu n x1 (x2 + 1) (x3 + 1) s l) ∧ (¬ ((f_X12_cellOf fu x3 s l) = x1) → p_X12_lieAt_4 fu n x1 x2 (x3 + 1) s l))))))

set_option maxRecDepth 100000 in
set_option maxHeartbeats 1000000 in
theorem lp_X12_lieAt_4 {G : ab_G} {fu : Nat} {d : Nat} {D : fl_D} {s : fl_I} {l : fl_L} : ∀ (n : Nat) (x1 : Int32) (x2 : Int32) (x3 : Int32), p_X12_lieAt_4 fu n x1 x2 x3 s l → ab_C G (d + 1) 0 0 M_X12_lieAt 4 [some (.ref 60), some (.int x1), some (.int x2), some (.int x3)] [] (hp D s l) (rt (some (.int (f_X12_lieAt_4 fu n x1 x2 x3 s l))) (hp D s l)) := by
  intro n
  induction n with
  | zero => intro x1 x2 x3 hk; exact hk.elim
  | succ n ih =>
    intro x1 x2 x3 hk
    generalize he : f_X12_lieAt_4 fu (n + 1) x1 x2 x3 s l = res
    unfold f_X12_lieAt_4 at he
    unfold p_X12_lieAt_4 at hk
    refine r_iload_n rfl rfl ?_
    refine r_aload_n rfl rfl ?_
    refine q_getfield rfl (cc_60 _) rfl ?_
    refine r_icmp_ge rfl (fun c_9 => ?_) (fun c_9 => ?_)
    · rw [if_pos c_9] at he
      replace hk := hk.1 c_9
      refine r_iload_n rfl rfl ?_
      refine r_iret rfl rfl rfl ?_
      first | with_reducible exact fin_ri he | exact fin_ri he
    · rw [if_neg c_9] at he
      replace hk := hk.2 c_9
      refine r_aload_n rfl rfl ?_
      refine r_iload_n rfl rfl ?_
      obtain ⟨hb0, hk⟩ := hk
      refine q_callV0 [_] _ rfl kY_X12_doesLie kT_X12_doesLie rfl rfl (Nat.le_of_ble_eq_true rfl) (Nat.le_of_ble_eq_true rfl) (cc_60 _) (s_X12_doesLie hb0) (fun r h q => ?_)
      obtain ⟨rfl, rfl⟩ := q
      simp only [Option.toList, List.cons_append, List.nil_append]
      refine r_if_eq rfl (fun c_17 => ?_) (fun c_17 => ?_)
      · rw [if_pos c_17] at he
        replace hk := hk.1 c_17
        refine r_iinc (b := x3 + 1) rfl rfl rfl (Nat.le_of_ble_eq_true rfl) rfl ?_
        refine r_goto rfl ?_
        subst he
        exact r_weak (L1 := [some (.ref 60), some (.int x1), some (.int x2), some (.int (x3 + 1))]) ⟨rfl, rfl, rfl, rfl, trivial⟩ (ih _ _ _ hk)
      · rw [if_neg c_17] at he
        replace hk := hk.2 c_17
        refine r_aload_n rfl rfl ?_
        refine r_iload_n rfl rfl ?_
        obtain ⟨hb1, hk⟩ := hk
        refine q_callV0 [_] _ rfl kY_X12_cellOf kT_X12_cellOf rfl rfl (Nat.le_of_ble_eq_true rfl) (Nat.le_of_ble_eq_true rfl) (cc_60 _) (s_X12_cellOf hb1) (fun r h q => ?_)
        obtain ⟨rfl, rfl⟩ := q
        simp only [Option.toList, List.cons_append, List.nil_append]
        refine r_iload_n rfl rfl ?_
        refine r_icmp_ne rfl (fun c_26 => ?_) (fun c_26 => ?_)
        · rw [if_neg c_26] at he
          replace hk := hk.2 c_26
          refine r_iinc (b := x3 + 1) rfl rfl rfl (Nat.le_of_ble_eq_true rfl) rfl ?_
          refine r_goto rfl ?_
          subst he
          exact r_weak (L1 := [some (.ref 60), some (.int x1), some (.int x2), some (.int (x3 + 1))]) ⟨rfl, rfl, rfl, rfl, trivial⟩ (ih _ _ _ hk)
        · rw [if_pos c_26] at he
          replace hk := hk.1 c_26
          refine r_iinc (b := x2 + 1) rfl rfl rfl (Nat.le_of_ble_eq_true rfl) rfl ?_
          refine r_iinc (b := x3 + 1) rfl rfl rfl (Nat.le_of_ble_eq_true rfl) rfl ?_
          refine r_goto rfl ?_
          subst he
          exact r_weak (L1 := [some (.ref 60), some (.int x1), some (.int (x2 + 1)), some (.int (x3 + 1))]) ⟨rfl, rfl, rfl, rfl, trivial⟩ (ih _ _ _ hk)

def f_X12_lieAt (fu : Nat) (v0 : Int32) (s : fl_I) (l : fl_L) : Int32 :=
  f_X12_lieAt_4 fu fu v0 (0 : Int32) (0 : Int32) s l

def p_X12_lieAt (fu : Nat) (v0 : Int32) (s : fl_I) (l : fl_L) : Prop :=
  p_X12_lieAt_4 fu fu v0 (0 : Int32) (0 : Int32) s l

set_option maxRecDepth 100000 in
set_option maxHeartbeats 1000000 in
theorem s_X12_lieAt {G : ab_G} {fu : Nat} {d : Nat} {D : fl_D} {s : fl_I} {l : fl_L} {v0 : Int32} (hk : p_X12_lieAt fu v0 s l) : ab_C G (d + 1) 0 0 M_X12_lieAt 0 (ab_ent [.ref 60, .int v0]) [] (hp D s l) (rt (some (.int (f_X12_lieAt fu v0 s l))) (hp D s l)) := by
  generalize he : (f_X12_lieAt fu v0 s l) = res
  unfold f_X12_lieAt at he
  unfold p_X12_lieAt at hk
  refine r_weak (L1 := [some (.ref 60), some (.int v0), none, none]) ⟨rfl, rfl, trivial⟩ ?_
  refine r_iconst_ (a := 0) rfl (by decide) ?_
  refine r_istore_n rfl (Nat.le_of_ble_eq_true rfl) rfl ?_
  refine r_iconst_ (a := 0) rfl (by decide) ?_
  refine r_istore_n rfl (Nat.le_of_ble_eq_true rfl) rfl ?_
  subst he
  exact r_weak (L1 := [some (.ref 60), some (.int v0), some (.int (0 : Int32)), some (.int (0 : Int32))]) ⟨rfl, rfl, rfl, rfl, trivial⟩ (lp_X12_lieAt_4 fu _ _ _ hk)

def f_X12_timesIn_5 (fu : Nat) : Nat → Int32 → Int32 → Int64 → Int32
  | 0, _, _, _ => 0
  | n + 1, x2, x3, x4 =>
    if ((lg_cmp x4 (0 : Int64)) ≤ 0) then x3 else if ((lg_cmp (x4 - x4 / (27 : Int64) * (27 : Int64)) x2.toInt64) = 0) then f_X12_timesIn_5 fu n x2 (x3 + 1) (x4 / (27 : Int64)) else f_X12_timesIn_5 fu n x2 x3 (x4 / (27 : Int64))

def p_X12_timesIn_5 (fu : Nat) : Nat → Int32 → Int32 → Int64 → Prop
  | 0, _, _, _ => False
  | n + 1, x2, x3, x4 =>
    ((((lg_cmp x4 (0 : Int64)) ≤ 0) → True) ∧ (¬ ((lg_cmp x4 (0 : Int64)) ≤ 0) → ((((lg_cmp (x4 - x4 / (27 : Int64) * (27 : Int64)) x2.toInt64) = 0) → p_X12_timesIn_5 fu n x2 (x3 + 1) (x4 / (27 : Int64))) ∧ (¬ ((lg_cmp (x4 - x4 / (27 : Int64) * (27 : Int64)) x2.toInt64) = 0) → p_X12_timesIn_5 fu n x2 x3 (x4 / (27 : Int64))))))

set_option maxRecDepth 100000 in
set_option maxHeartbeats 1000000 in
theorem lp_X12_timesIn_5 {G : ab_G} {fu : Nat} {d : Nat} {h : ab_H} : ∀ (n : Nat) (x2 : Int32) (x3 : Int32) (x4 : Int64), p_X12_timesIn_5 fu n x2 x3 x4 → ab_C G d 0 0 M_X12_timesIn 5 [none, none, some (.int x2), some (.int x3), some (.long x4), none] [] h (rt (some (.int (f_X12_timesIn_5 fu n x2 x3 x4))) h) := by
  intro n
  induction n with
  | zero => intro x2 x3 x4 hk; exact hk.elim
  | succ n ih =>
    intro x2 x3 x4 hk
    generalize he : f_X12_timesIn_5 fu (n + 1) x2 x3 x4 = res
    unfold f_X12_timesIn_5 at he
    unfold p_X12_timesIn_5 at hk
    refine r_lload rfl rfl ?_
    refine r_lconst (a := 0) rfl (by decide) ?_
    refine r_lcmp rfl ?_
    refine r_if_le rfl (fun c_9 => ?_) (fun c_9 => ?_)
    · rw [if_pos c_9] at he
      replace hk := hk.1 c_9
      refine r_iload_n rfl rfl ?_
      refine r_iret rfl rfl rfl ?_
      first | with_reducible exact fin_ri he | exact fin_ri he
    · rw [if_neg c_9] at he
      replace hk := hk.2 c_9
      refine r_lload rfl rfl ?_
      refine r_ldc2_w rfl ?_
      refine r_lrem rfl (by decide) ?_
      refine r_iload_n rfl rfl ?_
      refine r_i2l rfl ?_
      refine r_lcmp rfl ?_
      refine r_if_ne rfl (fun c_21 => ?_) (fun c_21 => ?_)
      · rw [if_neg c_21] at he
        replace hk := hk.2 c_21
        refine r_lload rfl rfl ?_
        refine r_ldc2_w rfl ?_
        refine r_ldiv rfl (by decide) ?_
        refine r_lstore rfl (Nat.le_of_ble_eq_true rfl) rfl ?_
        refine r_goto rfl ?_
        subst he
        exact r_weak (L1 := [none, none, some (.int x2), some (.int x3), some (.long (x4 / (27 : Int64))), none]) ⟨rfl, rfl, rfl, trivial⟩ (ih _ _ _ hk)
      · rw [if_pos c_21] at he
        replace hk := hk.1 c_21
        refine r_iinc (b := x3 + 1) rfl rfl rfl (Nat.le_of_ble_eq_true rfl) rfl ?_
        refine r_lload rfl rfl ?_
        refine r_ldc2_w rfl ?_
        refine r_ldiv rfl (by decide) ?_
        refine r_lstore rfl (Nat.le_of_ble_eq_true rfl) rfl ?_
        refine r_goto rfl ?_
        subst he
        exact r_weak (L1 := [none, none, some (.int x2), some (.int (x3 + 1)), some (.long (x4 / (27 : Int64))), none]) ⟨rfl, rfl, rfl, trivial⟩ (ih _ _ _ hk)

def f_X12_timesIn (fu : Nat) (v0 : Int64) (v1 : Int32) : Int32 :=
  f_X12_timesIn_5 fu fu v1 (0 : Int32) v0

def p_X12_timesIn (fu : Nat) (v0 : Int64) (v1 : Int32) : Prop :=
  p_X12_timesIn_5 fu fu v1 (0 : Int32) v0

set_option maxRecDepth 100000 in
set_option maxHeartbeats 1000000 in
theorem s_X12_timesIn {G : ab_G} {fu : Nat} {d : Nat} {h : ab_H} {v0 : Int64} {v1 : Int32} (hk : p_X12_timesIn fu v0 v1) : ab_C G d 0 0 M_X12_timesIn 0 (ab_ent [.long v0, .int v1]) [] h (rt (some (.int (f_X12_timesIn fu v0 v1))) h) := by
  generalize he : (f_X12_timesIn fu v0 v1) = res
  unfold f_X12_timesIn at he
  unfold p_X12_timesIn at hk
  refine r_weak (L1 := [some (.long v0), none, some (.int v1), none, none, none]) ⟨rfl, rfl, trivial⟩ ?_
  refine r_iconst_ (a := 0) rfl (by decide) ?_
  refine r_istore_n rfl (Nat.le_of_ble_eq_true rfl) rfl ?_
  refine r_lload_n rfl rfl ?_
  refine r_lstore rfl (Nat.le_of_ble_eq_true rfl) rfl ?_
  subst he
  exact r_weak (L1 := [none, none, some (.int v1), some (.int (0 : Int32)), some (.long v0), none]) ⟨rfl, rfl, rfl, trivial⟩ (lp_X12_timesIn_5 fu _ _ _ hk)

def f_X12_pieceDown (fu : Nat) (v0 : Int32) (s : fl_I) (l : fl_L) : Int32 :=
  if ((f_X12_doesLie fu v0 s l) = 0) then (s 95 ((132 : Int32) + (s 95 ((64 : Int32) + v0).toNatClampNeg)).toNatClampNeg) else (s 95 ((32 : Int32) + v0).toNatClampNeg)

def p_X12_pieceDown (fu : Nat) (v0 : Int32) (s : fl_I) (l : fl_L) : Prop :=
  (p_X12_doesLie fu v0 s l) ∧ ((((f_X12_doesLie fu v0 s l) = 0) → (vp_in ((64 : Int32) + v0) 141) ∧ (vp_in ((132 : Int32) + (s 95 ((64 : Int32) + v0).toNatClampNeg)) 141) ∧ True) ∧ (¬ ((f_X12_doesLie fu v0 s l) = 0) → (vp_in ((32 : Int32) + v0) 141) ∧ True))

set_option maxRecDepth 100000 in
set_option maxHeartbeats 1000000 in
theorem s_X12_pieceDown {G : ab_G} {fu : Nat} {d : Nat} {D : fl_D} {s : fl_I} {l : fl_L} {v0 : Int32} (hk : p_X12_pieceDown fu v0 s l) : ab_C G (d + 1) 0 0 M_X12_pieceDown 0 (ab_ent [.ref 60, .int v0]) [] (hp D s l) (rt (some (.int (f_X12_pieceDown fu v0 s l))) (hp D s l)) := by
  generalize he : (f_X12_pieceDown fu v0 s l) = res
  unfold f_X12_pieceDown at he
  unfold p_X12_pieceDown at hk
  refine r_weak (L1 := [some (.ref 60), some (.int v0)]) ⟨rfl, rfl, trivial⟩ ?_
  refine r_aload_n rfl rfl ?_
  refine r_iload_n rfl rfl ?_
  obtain ⟨hb0, hk⟩ := hk
  refine q_callV0 [_] _ rfl kY_X12_doesLie kT_X12_doesLie rfl rfl (Nat.le_of_ble_eq_true rfl) (Nat.le_of_ble_eq_true rfl) (cc_60 _) (s_X12_doesLie hb0) (fun r h q => ?_)
  obtain ⟨rfl, rfl⟩ := q
  simp only [Option.toList, List.cons_append, List.nil_append]
  refine r_if_eq rfl (fun c_5 => ?_) (fun c_5 => ?_)
  · rw [if_pos c_5] at he
    replace hk := hk.1 c_5
    refine r_aload_n rfl rfl ?_
    refine q_getfield rfl (cc_60 _) rfl ?_
    refine r_sipush_ (a := 132) rfl (by decide) ?_
    refine r_aload_n rfl rfl ?_
    refine q_getfield rfl (cc_60 _) rfl ?_
    refine r_bipush_ (a := 64) rfl (by decide) ?_
    refine r_iload_n rfl rfl ?_
    refine r_iadd rfl ?_
    obtain ⟨hb1, hk⟩ := hk
    refine q_iald rfl (cc_95 _) hb1 ?_
    refine r_iadd rfl ?_
    obtain ⟨hb2, hk⟩ := hk
    refine q_iald rfl (cc_95 _) hb2 ?_
    refine r_iret rfl rfl rfl ?_
    first | with_reducible exact fin_ri he | exact fin_ri he
  · rw [if_neg c_5] at he
    replace hk := hk.2 c_5
    refine r_aload_n rfl rfl ?_
    refine q_getfield rfl (cc_60 _) rfl ?_
    refine r_bipush_ (a := 32) rfl (by decide) ?_
    refine r_iload_n rfl rfl ?_
    refine r_iadd rfl ?_
    obtain ⟨hb3, hk⟩ := hk
    refine q_iald rfl (cc_95 _) hb3 ?_
    refine r_goto rfl ?_
    refine r_iret rfl rfl rfl ?_
    first | with_reducible exact fin_ri he | exact fin_ri he

def f_X3_take (fu : Nat) (v0 : Int32) (s : fl_I) (l : fl_L) : Int32 × fl_I × fl_L :=
  if ((f_X3_kindNow fu s l) = v0) then if ((s 3 2) < (400 : Int32)) then ((1 : Int32), (wi s 3 2 ((s 3 2) + (1 : Int32))), l) else ((f_X3_stop fu (2 : Int32) s l).1, (f_X3_stop fu (2 : Int32) s l).2.1, (f_X3_stop fu (2 : Int32) s l).2.2) else ((f_X3_stop fu (1 : Int32) s l).1, (f_X3_stop fu (1 : Int32) s l).2.1, (f_X3_stop fu (1 : Int32) s l).2.2)

def p_X3_take (fu : Nat) (v0 : Int32) (s : fl_I) (l : fl_L) : Prop :=
  (p_X3_kindNow fu s l) ∧ ((((f_X3_kindNow fu s l) = v0) → ((((s 3 2) < (400 : Int32)) → True) ∧ (¬ ((s 3 2) < (400 : Int32)) → (p_X3_stop fu (2 : Int32) s l) ∧ ((f_X3_stop fu (2 : Int32) s l).1 = 0 ∨ (f_X3_stop fu (2 : Int32) s l).1 = 1) ∧ True))) ∧ (¬ ((f_X3_kindNow fu s l) = v0) → (p_X3_stop fu (1 : Int32) s l) ∧ ((f_X3_stop fu (1 : Int32) s l).1 = 0 ∨ (f_X3_stop fu (1 : Int32) s l).1 = 1) ∧ True))

set_option maxRecDepth 100000 in
set_option maxHeartbeats 1000000 in
theorem s_X3_take {G : ab_G} {fu : Nat} {d : Nat} {D : fl_D} {s : fl_I} {l : fl_L} {v0 : Int32} (hk : p_X3_take fu v0 s l) : ab_C G (d + 1) 0 0 M_X3_take 0 (ab_ent [.ref 3, .int v0]) [] (hp D s l) (rt (some (.int (f_X3_take fu v0 s l).1)) (hp D (f_X3_take fu v0 s l).2.1 (f_X3_take fu v0 s l).2.2)) := by
  generalize he : (f_X3_take fu v0 s l) = res
  unfold f_X3_take at he
  unfold p_X3_take at hk
  refine r_weak (L1 := [some (.ref 3), some (.int v0)]) ⟨rfl, rfl, trivial⟩ ?_
  refine r_aload_n rfl rfl ?_
  obtain ⟨hb0, hk⟩ := hk
  refine q_callV0 [] _ rfl kY_X3_kindNow kT_X3_kindNow rfl rfl (Nat.le_of_ble_eq_true rfl) (Nat.le_of_ble_eq_true rfl) (cc_3 _) (s_X3_kindNow hb0) (fun r h q => ?_)
  obtain ⟨rfl, rfl⟩ := q
  simp only [Option.toList, List.cons_append, List.nil_append]
  refine r_iload_n rfl rfl ?_
  refine r_icmp_eq rfl (fun c_5 => ?_) (fun c_5 => ?_)
  · rw [if_pos c_5] at he
    replace hk := hk.1 c_5
    refine r_aload_n rfl rfl ?_
    refine q_getfield rfl (cc_3 _) rfl ?_
    refine r_sipush_ (a := 400) rfl (by decide) ?_
    refine r_icmp_lt rfl (fun c_21 => ?_) (fun c_21 => ?_)
    · rw [if_pos c_21] at he
      replace hk := hk.1 c_21
      refine r_aload_n rfl rfl ?_
      refine r_dup rfl rfl ?_
      refine q_getfield rfl (cc_3 _) rfl ?_
      refine r_iconst_ (a := 1) rfl (by decide) ?_
      refine r_iadd rfl ?_
      refine w_put rfl (cc_3 _) ff_3_2 ft_3_2 (fun _ _ => (Nat.le_of_ble_eq_true rfl)) (fun _ _ => rfl) ?_
      refine r_iconst_ (a := 1) rfl (by decide) ?_
      refine r_iret rfl rfl rfl ?_
      first | with_reducible exact fin_i he | exact fin_i he
    · rw [if_neg c_21] at he
      replace hk := hk.2 c_21
      refine r_aload_n rfl rfl ?_
      refine r_iconst_ (a := 2) rfl (by decide) ?_
      obtain ⟨hb1, hk⟩ := hk
      refine q_callV0 [_] _ rfl kY_X3_stop kT_X3_stop rfl rfl (Nat.le_of_ble_eq_true rfl) (Nat.le_of_ble_eq_true rfl) (cc_3 _) (s_X3_stop hb1) (fun r h q => ?_)
      obtain ⟨rfl, rfl⟩ := q
      simp only [Option.toList, List.cons_append, List.nil_append]
      obtain ⟨hb2, hk⟩ := hk
      refine r_iret rfl rfl (nar_b hb2) ?_
      first | with_reducible exact fin_i he | exact fin_i he
  · rw [if_neg c_5] at he
    replace hk := hk.2 c_5
    refine r_aload_n rfl rfl ?_
    refine r_iconst_ (a := 1) rfl (by decide) ?_
    obtain ⟨hb3, hk⟩ := hk
    refine q_callV0 [_] _ rfl kY_X3_stop kT_X3_stop rfl rfl (Nat.le_of_ble_eq_true rfl) (Nat.le_of_ble_eq_true rfl) (cc_3 _) (s_X3_stop hb3) (fun r h q => ?_)
    obtain ⟨rfl, rfl⟩ := q
    simp only [Option.toList, List.cons_append, List.nil_append]
    obtain ⟨hb4, hk⟩ := hk
    refine r_iret rfl rfl (nar_b hb4) ?_
    first | with_reducible exact fin_i he | exact fin_i he

def f_X9_lieOn_2 (fu : Nat) : Nat → Int32 → Nat → fl_I → fl_L → fl_I × fl_L
  | 0, x1, a, s, l => (s, l)
  | n + 1, x1, a, s, l =>
    if ((s a 1) ≤ x1) then (s, l) else if ((f_X10_isLying fu x1 a s l) = 0) then f_X9_lieOn_2 fu n (x1 + 1) a s l else f_X9_lieOn_2 fu n (x1 + 1) a (wi s (a + 2) x1.toNatClampNeg (i_min (999 : Int32) ((s (a + 2) x1.toNatClampNeg) + (1 : Int32)))) l

def p_X9_lieOn_2 (fu : Nat) : Nat → Int32 → Nat → fl_I → fl_L → Prop
  | 0, _, _, _, _ => False
  | n + 1, x1, a, s, l =>
    ((((s a 1) ≤ x1) → True) ∧ (¬ ((s a 1) ≤ x1) → (p_X10_isLying fu x1 a s l) ∧ ((((f_X10_isLying fu x1 a s l) = 0) → p_X9_lieOn_2 fu n (x1 + 1) a s l) ∧ (¬ ((f_X10_isLying fu x1 a s l) = 0) → (vp_in x1 32) ∧ (vp_in x1 32) ∧ p_X9_lieOn_2 fu n (x1 + 1) a (wi s (a + 2) x1.toNatClampNeg (i_min (999 : Int32) ((s (a + 2) x1.toNatClampNeg) + (1 : Int32)))) l))))

set_option maxRecDepth 100000 in
set_option maxHeartbeats 1000000 in
theorem lp_X9_lieOn_2 {G : ab_G} {fu : Nat} {d : Nat} {D : fl_D} {a : Nat} (hya : isY D a) : ∀ (n : Nat) (x1 : Int32) (s : fl_I) (l : fl_L), p_X9_lieOn_2 fu n x1 a s l → ab_C G (d + 1) 0 0 M_X9_lieOn 2 [some (.ref a), some (.int x1)] [] (hp D s l) (rt none (hp D (f_X9_lieOn_2 fu n x1 a s l).1 (f_X9_lieOn_2 fu n x1 a s l).2)) := by
  intro n
  induction n with
  | zero => intro x1 s l hk; exact hk.elim
  | succ n ih =>
    intro x1 s l hk
    generalize he : f_X9_lieOn_2 fu (n + 1) x1 a s l = res
    unfold f_X9_lieOn_2 at he
    unfold p_X9_lieOn_2 at hk
    refine r_iload_n rfl rfl ?_
    refine r_aload_n rfl rfl ?_
    refine q_getfield rfl (cY_0 hya) rfl ?_
    refine r_icmp_ge rfl (fun c_7 => ?_) (fun c_7 => ?_)
    · rw [if_pos c_7] at he
      replace hk := hk.1 c_7
      refine r_ret rfl rfl ?_
      first | with_reducible exact fin_v he | exact fin_v he
    · rw [if_neg c_7] at he
      replace hk := hk.2 c_7
      refine r_aload_n rfl rfl ?_
      refine r_iload_n rfl rfl ?_
      obtain ⟨hb0, hk⟩ := hk
      refine q_callV0 [_] _ rfl kY_X10_isLying kT_X10_isLying rfl rfl (Nat.le_of_ble_eq_true rfl) (Nat.le_of_ble_eq_true rfl) (cY_0 hya) (s_X10_isLying hya hb0) (fun r h q => ?_)
      obtain ⟨rfl, rfl⟩ := q
      simp only [Option.toList, List.cons_append, List.nil_append]
      refine r_if_eq rfl (fun c_15 => ?_) (fun c_15 => ?_)
      · rw [if_pos c_15] at he
        replace hk := hk.1 c_15
        refine r_iinc (b := x1 + 1) rfl rfl rfl (Nat.le_of_ble_eq_true rfl) rfl ?_
        refine r_goto rfl ?_
        subst he
        exact r_weak (L1 := [some (.ref a), some (.int (x1 + 1))]) ⟨rfl, rfl, trivial⟩ (ih _ _ _ hk)
      · rw [if_neg c_15] at he
        replace hk := hk.2 c_15
        refine r_aload_n rfl rfl ?_
        refine q_getfield rfl (cY_0 hya) rfl ?_
        refine r_iload_n rfl rfl ?_
        refine r_sipush_ (a := 999) rfl (by decide) ?_
        refine r_aload_n rfl rfl ?_
        refine q_getfield rfl (cY_0 hya) rfl ?_
        refine r_iload_n rfl rfl ?_
        obtain ⟨hb1, hk⟩ := hk
        refine q_iald rfl (cY_2 hya) hb1 ?_
        refine r_iconst_ (a := 1) rfl (by decide) ?_
        refine r_iadd rfl ?_
        refine r_mmin rfl (Nat.le_of_ble_eq_true rfl) ?_
        obtain ⟨hb2, hk⟩ := hk
        refine w_iast rfl (cY_2 hya) hb2 ?_
        refine r_iinc (b := x1 + 1) rfl rfl rfl (Nat.le_of_ble_eq_true rfl) rfl ?_
        refine r_goto rfl ?_
        subst he
        exact r_weak (L1 := [some (.ref a), some (.int (x1 + 1))]) ⟨rfl, rfl, trivial⟩ (ih _ _ _ hk)

def f_X9_lieOn (fu : Nat) (a : Nat) (s : fl_I) (l : fl_L) : fl_I × fl_L :=
  f_X9_lieOn_2 fu fu (0 : Int32) a s l

def p_X9_lieOn (fu : Nat) (a : Nat) (s : fl_I) (l : fl_L) : Prop :=
  p_X9_lieOn_2 fu fu (0 : Int32) a s l

set_option maxRecDepth 100000 in
set_option maxHeartbeats 1000000 in
theorem s_X9_lieOn {G : ab_G} {fu : Nat} {d : Nat} {D : fl_D} {s : fl_I} {l : fl_L} {a : Nat} (hya : isY D a)  (hk : p_X9_lieOn fu a s l) : ab_C G (d + 1) 0 0 M_X9_lieOn 0 (ab_ent [.ref a]) [] (hp D s l) (rt none (hp D (f_X9_lieOn fu a s l).1 (f_X9_lieOn fu a s l).2)) := by
  generalize he : (f_X9_lieOn fu a s l) = res
  unfold f_X9_lieOn at he
  unfold p_X9_lieOn at hk
  refine r_weak (L1 := [some (.ref a), none]) ⟨rfl, trivial⟩ ?_
  refine r_iconst_ (a := 0) rfl (by decide) ?_
  refine r_istore_n rfl (Nat.le_of_ble_eq_true rfl) rfl ?_
  subst he
  exact r_weak (L1 := [some (.ref a), some (.int (0 : Int32))]) ⟨rfl, rfl, trivial⟩ (lp_X9_lieOn_2 hya fu _ _ _ hk)

