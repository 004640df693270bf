def M_J0_coder_7d493 : ab_M := (yJ0_coder_7d493, cJ0_coder_7d493, 1, (some .byte), 99, 0, [
  [nn, nn, nn, oj (.ifCond .eq 10) 6 13, nn, nn, oo (.aload_n 0) 7, nn, nn, nn, oj (.goto 4) 13 14, nn, nn, oo (.iconst 1) 14, oo .ireturn 15, nn]])
def P_J0_coder_7d493 : List (List (List Nat)) := [[[],[],[],[],[],[],[],[],[],[],[],[],[],[],[],[]]]
set_option maxRecDepth 100000 in
theorem kT_J0_coder_7d493 : ab_okT M_J0_coder_7d493 := ab_okT_of (P := P_J0_coder_7d493) 16 (Nat.le_of_ble_eq_true rfl) (fun pc h => ab_chkR_of (lo := 0) (len := 16) (by decide +kernel) pc (Nat.zero_le _) (by omega))
theorem kY_J0_coder_7d493 : ab_okY M_J0_coder_7d493 := ab_okY_of 170 109 (by decide +kernel)
def M_J0_length_8abf5 : ab_M := (yJ0_length_8abf5, cJ0_length_8abf5, 1, (some .int), 99, 0, [
  [oo (.aload_n 0) 1, nn, nn, nn, oo .arraylength 5, oo (.aload_n 0) 6, om (.invokevirtual 335) 9 0 yJ0_coder_7d493, nn, nn, oo .ishr 10, oo .ireturn 11, nn, nn, nn, nn, nn]])
def P_J0_length_8abf5 : List (List (List Nat)) := [[[],[],[],[],[],[],[167,168,169],[],[],[],[],[],[],[],[],[]]]
set_option maxRecDepth 100000 in
theorem kT_J0_length_8abf5 : ab_okT M_J0_length_8abf5 := ab_okT_of (P := P_J0_length_8abf5) 16 (Nat.le_of_ble_eq_true rfl) (fun pc h => ab_chkR_of (lo := 0) (len := 16) (by decide +kernel) pc (Nat.zero_le _) (by omega))
theorem kY_J0_length_8abf5 : ab_okY M_J0_length_8abf5 := ab_okY_of 166 109 (by decide +kernel)
def M_J0_isLatin1_aae02 : ab_M := (yJ0_isLatin1_aae02, cJ0_isLatin1_aae02, 1, (some .boolean), 99, 0, [
  [nn, nn, nn, oj (.ifCond .eq 14) 6 17, nn, nn, oo (.aload_n 0) 7, nn, nn, nn, oj (.ifCond .ne 7) 13 17, nn, nn, oo (.iconst 1) 14, oj (.goto 4) 17 18, nn],
  [nn, oo (.iconst 0) 18, oo .ireturn 19, nn, nn, nn, nn, nn, nn, nn, nn, nn, nn, nn, nn, nn]])
def P_J0_isLatin1_aae02 : List (List (List Nat)) := [[[],[],[],[],[],[],[],[],[],[],[],[],[],[],[],[]], [[],[],[],[],[],[],[],[],[],[],[],[],[],[],[],[]]]
set_option maxRecDepth 100000 in
theorem kT_J0_isLatin1_aae02 : ab_okT M_J0_isLatin1_aae02 := ab_okT_of (P := P_J0_isLatin1_aae02) 32 (Nat.le_of_ble_eq_true rfl) (fun pc h => ab_chkR_of (lo := 0) (len := 32) (by decide +kernel) pc (Nat.zero_le _) (by omega))
theorem kY_J0_isLatin1_aae02 : ab_okY M_J0_isLatin1_aae02 := ab_okY_of 180 109 (by decide +kernel)
def M_J3_checkIndex_8e157 : ab_M := (yJ3_checkIndex_8e157, cJ3_checkIndex_8e157, 3, (some .int), 99, 3, [
  [oo (.iload_n 0) 1, oj (.ifCond .lt 8) 4 9, nn, nn, oo (.iload_n 0) 5, oo (.iload_n 1) 6, oj (.if_icmp .lt 10) 9 16, nn, nn, oo (.aload_n 2) 10, oo (.iload_n 0) 11, oo (.iload_n 1) 12, nn, nn, nn, nn],
  [oo (.iload_n 0) 17, oo .ireturn 18, nn, nn, nn, nn, nn, nn, nn, nn, nn, nn, nn, nn, nn, nn]])
def P_J3_checkIndex_8e157 : List (List (List Nat)) := [[[],[],[],[],[],[],[],[],[],[],[],[],[],[],[],[]], [[],[],[],[],[],[],[],[],[],[],[],[],[],[],[],[]]]
set_option maxRecDepth 100000 in
theorem kT_J3_checkIndex_8e157 : ab_okT M_J3_checkIndex_8e157 := ab_okT_of (P := P_J3_checkIndex_8e157) 32 (Nat.le_of_ble_eq_true rfl) (fun pc h => ab_chkR_of (lo := 0) (len := 32) (by decide +kernel) pc (Nat.zero_le _) (by omega))
theorem kY_J3_checkIndex_8e157 : ab_okY M_J3_checkIndex_8e157 := ab_okY_of 191 111 (by decide +kernel)
def M_J0_checkIndex_df160 : ab_M := (yJ0_checkIndex_df160, cJ0_checkIndex_df160, 2, none, 99, 2, [
  [oo (.iload_n 0) 1, oo (.iload_n 1) 2, nn, nn, nn, om (.invokestatic 1059) 8 0 yJ3_checkIndex_8e157, nn, nn, oo .pop 9, oo .return_ 10, nn, nn, nn, nn, nn, nn]])
def P_J0_checkIndex_df160 : List (List (List Nat)) := [[[],[],[],[],[],[189,190],[],[],[],[],[],[],[],[],[],[]]]
set_option maxRecDepth 100000 in
theorem kT_J0_checkIndex_df160 : ab_okT M_J0_checkIndex_df160 := ab_okT_of (P := P_J0_checkIndex_df160) 16 (Nat.le_of_ble_eq_true rfl) (fun pc h => ab_chkR_of (lo := 0) (len := 16) (by decide +kernel) pc (Nat.zero_le _) (by omega))
theorem kY_J0_checkIndex_df160 : ab_okY M_J0_checkIndex_df160 := ab_okY_of 186 109 (by decide +kernel)
def M_J1_charAt_3b067 : ab_M := (yJ1_charAt_3b067, cJ1_charAt_3b067, 2, (some .char), 99, 2, [
  [oo (.iload_n 1) 1, oo (.aload_n 0) 2, oo .arraylength 3, om (.invokestatic 9) 6 0 yJ0_checkIndex_df160, nn, nn, oo (.aload_n 0) 7, oo (.iload_n 1) 8, oo .baload 9, oo (.sipush 255) 12, nn, nn, oo .iand 13, oo .i2c 14, oo .ireturn 15, nn]])
def P_J1_charAt_3b067 : List (List (List Nat)) := [[[],[],[],[184,185],[],[],[],[],[],[],[],[],[],[],[],[]]]
set_option maxRecDepth 100000 in
theorem kT_J1_charAt_3b067 : ab_okT M_J1_charAt_3b067 := ab_okT_of (P := P_J1_charAt_3b067) 16 (Nat.le_of_ble_eq_true rfl) (fun pc h => ab_chkR_of (lo := 0) (len := 16) (by decide +kernel) pc (Nat.zero_le _) (by omega))
theorem kY_J1_charAt_3b067 : ab_okY M_J1_charAt_3b067 := ab_okY_of 183 110 (by decide +kernel)
def M_J0_charAt_5068e : ab_M := (yJ0_charAt_5068e, cJ0_charAt_5068e, 2, (some .char), 99, 1, [
  [oo (.aload_n 0) 1, om (.invokevirtual 492) 4 0 yJ0_isLatin1_aae02, nn, nn, oj (.ifCond .eq 12) 7 16, nn, nn, oo (.aload_n 0) 8, nn, nn, nn, oo (.iload_n 1) 12, om (.invokestatic 495) 15 0 yJ1_charAt_3b067, nn, nn, oo .ireturn 16],
  [oo (.aload_n 0) 17, nn, nn, nn, oo (.iload_n 1) 21, nn, nn, nn, oo .ireturn 25, nn, nn, nn, nn, nn, nn, nn]])
def P_J0_charAt_5068e : List (List (List Nat)) := [[[],[177,178,179],[],[],[],[],[],[],[],[],[],[],[181,182],[],[],[]], [[],[],[],[],[],[],[],[],[],[],[],[],[],[],[],[]]]
set_option maxRecDepth 100000 in
theorem kT_J0_charAt_5068e : ab_okT M_J0_charAt_5068e := ab_okT_of (P := P_J0_charAt_5068e) 32 (Nat.le_of_ble_eq_true rfl) (fun pc h => ab_chkR_of (lo := 0) (len := 32) (by decide +kernel) pc (Nat.zero_le _) (by omega))
theorem kY_J0_charAt_5068e : ab_okY M_J0_charAt_5068e := ab_okY_of 176 109 (by decide +kernel)
theorem st_lV : Cond.fieldLink "java/lang/String" 9 "java/lang/String" "value" "[B" ∈ ab_tbl := ab_mem 1793 (by decide +kernel) rfl
theorem st_lC : Cond.fieldLink "java/lang/String" 15 "java/lang/String" "coder" "B" ∈ ab_tbl := ab_mem 1794 (by decide +kernel) rfl
theorem st_lS : Cond.fieldLink "java/lang/String" 38 "java/lang/String" "COMPACT_STRINGS" "Z" ∈ ab_tbl := ab_mem 171 (by decide +kernel) rfl
theorem st_lF : Cond.fieldLink "java/lang/String" 1053 "jdk/internal/util/Preconditions" "SIOOBE_FORMATTER" "Ljava/util/function/BiFunction;" ∈ ab_tbl := ab_mem 187 (by decide +kernel) rfl
section st_rules
variable {G : ab_G} {d kc ks : Nat} {M : ab_M} {pc n x y : Nat} {cv : Value} {nm : MethodName} {L : List (Option Value)} {st : List Value} {h : ab_H} {Q : Option Value → ab_H → Prop}
theorem r_ldcS (ho : ab_op M pc = some (.ldc 25, n, x, y, cv, nm)) (hcl : M.1.cls = "ConfettiRound$Tokens") (k : ab_C G d kc ks M n L (.retAddr 1 :: st) h Q) : ab_C G d kc ks M pc L st h Q := by
  intro ok p e R s m args below meth c Z F hend H locs cells slots ls hw hS hc hs hl
  have h1 := ok _ _ ho
  have hn : pc + 2 = n := h1.2.1
  have hd := ab_dc 2 h1 hn
  subst hn
  have hf := F.2.2.2.1
  rw [hcl] at hf
  exact va_ldcS F.1 F.2.1 hf F.2.2.2.2.2.2.2.2.1.2.2.2.2.2.2.1 hd (k ok p e R s m args below meth c Z F hend H locs cells slots ls hw hS hc hs hl)
theorem r_getS (hd : decode M.2.1 pc = .ok (.getfield 9, 3)) (hcl : M.1.cls = "java/lang/String") (k : ab_C G d kc ks M (pc + 3) L (.retAddr 2 :: st) h Q) : ab_C G d kc ks M pc L (.retAddr 1 :: st) h Q := by
  intro ok p e R s m args below meth c Z F hend H locs cells slots ls hw hS hc hs hl
  have hf := F.2.2.2.1
  rw [hcl] at hf
  exact vk_getf F.1 F.2.1 (F.2.2.2.2.2.2.2.2.1.2.2.2.2.2.1.1 0 Nat.zero_lt_one).2.2.1 hS hf (F.2.2.2.2.2.2.2.1 _ st_lV) (fun _ h9 => h9) hd (k ok p e R s m args below meth c Z F hend H locs cells slots ls hw hS hc hs hl)
theorem r_getC (hd : decode M.2.1 pc = .ok (.getfield 15, 3)) (hcl : M.1.cls = "java/lang/String") (k : ab_C G d kc ks M (pc + 3) L (.int 0 :: st) h Q) : ab_C G d kc ks M pc L (.retAddr 1 :: st) h Q := by
  intro ok p e R s m args below meth c Z F hend H locs cells slots ls hw hS hc hs hl
  have hf := F.2.2.2.1
  rw [hcl] at hf
  exact vk_getf F.1 F.2.1 (F.2.2.2.2.2.2.2.2.1.2.2.2.2.2.1.1 0 Nat.zero_lt_one).2.1 hS hf (F.2.2.2.2.2.2.2.1 _ st_lC) (fun _ h9 => h9) hd (k ok p e R s m args below meth c Z F hend H locs cells slots ls hw hS hc hs hl)
theorem r_gets1 (hd : decode M.2.1 pc = .ok (.getstatic 38, 3)) (hcl : M.1.cls = "java/lang/String") (k : ab_C G d kc ks M (pc + 3) L (.int 1 :: st) h Q) : ab_C G d kc ks M pc L st h Q := by
  intro ok p e R s m args below meth c Z F hend H locs cells slots ls hw hS hc hs hl
  have hf := F.2.2.2.1
  rw [hcl] at hf
  exact va_gets F.1 F.2.1 F.2.2.2.2.2.2.2.2.1.2.2.2.2.2.2.2.1 hS hf (F.2.2.2.2.2.2.2.1 _ st_lS) (fun _ h9 => h9) hd (k ok p e R s m args below meth c Z F hend H locs cells slots ls hw hS hc hs hl)
theorem r_gets3 (hd : decode M.2.1 pc = .ok (.getstatic 1053, 3)) (hcl : M.1.cls = "java/lang/String") (k : ab_C G d kc ks M (pc + 3) L (.retAddr 3 :: st) h Q) : ab_C G d kc ks M pc L st h Q := by
  intro ok p e R s m args below meth c Z F hend H locs cells slots ls hw hS hc hs hl
  have hf := F.2.2.2.1
  rw [hcl] at hf
  exact va_gets F.1 F.2.1 F.2.2.2.2.2.2.2.2.1.2.2.2.2.2.2.2.2 hS hf (F.2.2.2.2.2.2.2.1 _ st_lF) (fun _ h9 => h9) hd (k ok p e R s m args below meth c Z F hend H locs cells slots ls hw hS hc hs hl)
theorem r_tlen (ho : ab_op M pc = some (.arraylength, n, x, y, cv, nm)) (k : ab_C G d kc ks M n L (.int 110 :: st) h Q) : ab_C G d kc ks M pc L (.retAddr 2 :: st) h Q := by
  intro ok p e R s m args below meth c Z F hend H locs cells slots ls hw hS hc hs hl
  have h1 := ok _ _ ho
  have hn : pc + 1 = n := h1.2.1
  have hd := ab_dc 1 h1 hn
  subst hn
  exact va_tlen F.1 F.2.1 (F.2.2.2.2.2.2.2.2.1.2.2.2.2.2.1.1 0 Nat.zero_lt_one).2.2.2 hS rfl hd (k ok p e R s m args below meth c Z F hend H locs cells slots ls hw hS hc hs hl)
theorem r_tb {i : Int32} (ho : ab_op M pc = some (.baload, n, x, y, cv, nm)) (hi : vp_in i 110) (k : ab_C G d kc ks M n L (.int (st_by.getD i.toNatClampNeg 0) :: st) h Q) : ab_C G d kc ks M pc L (.int i :: .retAddr 2 :: st) h Q := by
  intro ok p e R s m args below meth c Z F hend H locs cells slots ls hw hS hc hs hl
  have h1 := ok _ _ ho
  have hn : pc + 1 = n := h1.2.1
  have hd := ab_dc 1 h1 hn
  subst hn
  exact va_tb F.1 F.2.1 (F.2.2.2.2.2.2.2.2.1.2.2.2.2.2.1.1 0 Nat.zero_lt_one).2.2.2 hS hi rfl hd (k ok p e R s m args below meth c Z F hend H locs cells slots ls hw hS hc hs hl)
theorem r_i2c {a : Int32} (ho : ab_op M pc = some (.i2c, n, x, y, cv, nm)) (k : ab_C G d kc ks M n L (.int (a.toUInt32 % 65536).toInt32 :: st) h Q) : ab_C G d kc ks M pc L (.int a :: st) h Q := by
  intro ok p e R s m args below meth c Z F hend H locs cells slots ls hw hS hc hs hl
  have h1 := ok _ _ ho
  have hn : pc + 1 = n := h1.2.1
  have hd := ab_dc 1 h1 hn
  subst hn
  exact lv_i2c F.1 F.2.1 hd rfl (k ok p e R s m args below meth c Z F hend H locs cells slots ls hw hS hc hs hl)
/-- a call on the String constant -/
theorem r_callVS {M1 : ab_M} {i : Nat} {Q1 : Option Value → ab_H → Prop} (As rest : List Value) (ho : ab_op M pc = some (.invokevirtual i, n, x, y, cv, M1.1)) (okY : ab_okY M1) (okT : ab_okT M1) (hcl : M1.1.cls = "java/lang/String") (hst : st = As.reverse ++ .retAddr 1 :: rest) (hn : As.length = M1.2.2.2.2.2.1) (hAs : (lg_sl (.retAddr 1 :: As)).length ≤ M1.2.2.1) (hrs : (rest.map fun v => v.category).sum ≤ 8)
    (hC : ab_C G d 0 0 M1 0 (ab_ent (.retAddr 1 :: As)) [] h Q1) (kk : ∀ r h', Q1 r h' → ab_C G (d + 1) kc ks M n L (r.toList ++ rest) h' Q) : ab_C G (d + 1) kc ks M pc L st h Q := by
  intro ok p e R s m args below meth c Z F hend H locs cells slots ls hw hS hc hs hl
  have h1 := ok _ _ ho
  have hn' : pc + 3 = n := h1.2.1
  have hd := ab_dc 3 h1 hn'
  subst hn'
  subst hst
  have F0' := F
  obtain ⟨f1, f2, f3, f4, f5, f6, f7, f8, f9, f10, f11, f12⟩ := F
  have hlk := h1.2.2.2.2.1
  have hrec := vk_recv f9.2.2.2.2.2.1 Nat.zero_lt_one hS
  rw [← hcl] at hrec
  exact ab_run (kc1 := 0) (ks1 := 0) (va_runV (As := As.map (ab_v G)) (b := G.2.2.2.2.2.2.2.1) (rest := rest.map (ab_v G)) ⟨f1, f2, f3, f4, f8⟩ (ab_met okY okT hAs hC) ⟨ab_cB okY f8 (hlk _ List.mem_cons_self) f11 f12, f8 _ (hlk _ (List.mem_cons_of_mem _ List.mem_cons_self)), f8 _ (hlk _ (List.mem_cons_of_mem _ (List.mem_cons_of_mem _ List.mem_cons_self)))⟩ ⟨ab_blind, hrec, ab_pre (As := .retAddr 1 :: As) f9 f10 hw hS⟩ rfl ((List.length_map _).trans hn) hl.1 (by simp [List.map_append, List.map_reverse, ab_v]) (lv_room (by rw [ab_sum]; exact hrs)) hd ⟨by omega, by omega⟩) hS
    (fun r h' H1 locs1 hq hw1 hS1 => kk r h' hq ok p e R s m args below meth c Z F0' hend H1 locs1 cells slots ls hw1 hS1 (by omega) (by omega) hl)
end st_rules
theorem s_coder {G : ab_G} {d : Nat} {h : ab_H} : ab_C G d 0 0 M_J0_coder_7d493 0 (ab_ent [.retAddr 1]) [] h (rt (some (.int 0)) h) := by
  refine r_gets1 (by decide +kernel) rfl ?_
  refine r_if_eq rfl (fun c => absurd c (by decide)) (fun _ => ?_)
  refine r_xload_n (by decide) rfl rfl ?_
  refine r_getC (by decide +kernel) rfl ?_
  refine r_goto rfl ?_
  exact r_iret rfl rfl rfl ⟨rfl, rfl⟩
theorem s_length {G : ab_G} {d : Nat} {h : ab_H} : ab_C G (d + 1) 0 0 M_J0_length_8abf5 0 (ab_ent [.retAddr 1]) [] h (rt (some (.int 110)) h) := by
  refine r_xload_n (by decide) rfl rfl ?_
  refine r_getS (by decide +kernel) rfl ?_
  refine r_tlen rfl ?_
  refine r_xload_n (by decide) rfl rfl ?_
  refine r_callVS [] _ rfl kY_J0_coder_7d493 kT_J0_coder_7d493 rfl rfl rfl (Nat.le_of_ble_eq_true rfl) (Nat.le_of_ble_eq_true rfl) s_coder (fun r h q => ?_)
  obtain ⟨rfl, rfl⟩ := q
  refine r_ishr rfl ?_
  exact r_iret rfl rfl rfl ⟨by decide, rfl⟩
theorem s_isLatin1 {G : ab_G} {d : Nat} {h : ab_H} : ab_C G d 0 0 M_J0_isLatin1_aae02 0 (ab_ent [.retAddr 1]) [] h (rt (some (.int 1)) h) := by
  refine r_gets1 (by decide +kernel) rfl ?_
  refine r_if_eq rfl (fun c => absurd c (by decide)) (fun _ => ?_)
  refine r_xload_n (by decide) rfl rfl ?_
  refine r_getC (by decide +kernel) rfl ?_
  refine r_if_ne rfl (fun c => absurd rfl c) (fun _ => ?_)
  refine r_iconst_ (a := 1) rfl (by decide) ?_
  refine r_goto rfl ?_
  exact r_iret rfl rfl rfl ⟨rfl, rfl⟩
theorem s_check3 {G : ab_G} {d : Nat} {h : ab_H} {i : Int32} (h1 : ¬ i < 0) (h2 : i < 110) : ab_C G d 0 0 M_J3_checkIndex_8e157 0 (ab_ent [.int i, .int 110, .retAddr 3]) [] h (rt (some (.int i)) h) := by
  refine r_iload_n rfl rfl ?_
  refine r_if_lt rfl (fun c => absurd c h1) (fun _ => ?_)
  refine r_iload_n rfl rfl ?_
  refine r_iload_n rfl rfl ?_
  refine r_icmp_lt rfl (fun _ => ?_) (fun c => absurd h2 c)
  refine r_iload_n rfl rfl ?_
  exact r_iret rfl rfl rfl ⟨rfl, rfl⟩
theorem s_check {G : ab_G} {d : Nat} {h : ab_H} {i : Int32} (h1 : ¬ i < 0) (h2 : i < 110) : ab_C G (d + 1) 0 0 M_J0_checkIndex_df160 0 (ab_ent [.int i, .int 110]) [] h (rt none h) := by
  refine r_iload_n rfl rfl ?_
  refine r_iload_n rfl rfl ?_
  refine r_gets3 (by decide +kernel) rfl ?_
  refine r_callS0 [.int i, .int 110, .retAddr 3] _ rfl kY_J3_checkIndex_8e157 kT_J3_checkIndex_8e157 rfl rfl (Nat.le_of_ble_eq_true rfl) (Nat.le_of_ble_eq_true rfl) (s_check3 h1 h2) (fun r h q => ?_)
  obtain ⟨rfl, rfl⟩ := q
  refine r_pop rfl rfl ?_
  exact r_ret rfl rfl ⟨rfl, rfl⟩
theorem st_c1 : ∀ j : Nat, j < 110 → ((st_by.getD j 0 &&& 255).toUInt32 % 65536).toInt32 = st_by.getD j 0 := by decide +kernel
theorem st_c2 : ∀ j : Nat, j < 110 → (st_by.getD j 0).toUInt32.toUInt16.toUInt32.toInt32 = st_by.getD j 0 := by decide +kernel
theorem s_latin {G : ab_G} {d : Nat} {h : ab_H} {j : Nat} (hj : j < 110) : ab_C G (d + 2) 0 0 M_J1_charAt_3b067 0 (ab_ent [.retAddr 2, .int (nI j)]) [] h (rt (some (.int (st_by.getD j 0))) h) := by
  have h1 : ¬ nI j < 0 := nI_pos (by omega)
  have h2 : nI j < 110 := nI_lt (a := j) (b := 110) hj (by omega)
  refine r_iload_n rfl rfl ?_
  refine r_xload_n (by decide) rfl rfl ?_
  refine r_tlen rfl ?_
  refine r_callS0 [.int (nI j), .int 110] _ rfl kY_J0_checkIndex_df160 kT_J0_checkIndex_df160 rfl rfl (Nat.le_of_ble_eq_true rfl) (Nat.le_of_ble_eq_true rfl) (s_check h1 h2) (fun r h q => ?_)
  obtain ⟨rfl, rfl⟩ := q
  refine r_xload_n (by decide) rfl rfl ?_
  refine r_iload_n rfl rfl ?_
  refine r_tb rfl (vp_in_nI hj (by omega)) ?_
  rw [show (nI j).toNatClampNeg = j from nI_clamp (by omega)]
  refine r_sipush_ (a := 255) rfl (by decide) ?_
  refine r_iand rfl ?_
  refine r_i2c rfl ?_
  rw [st_c1 j hj]
  exact r_iret rfl rfl (congrArg Value.int (st_c2 j hj)) ⟨rfl, rfl⟩
theorem s_charAt {G : ab_G} {d : Nat} {h : ab_H} {j : Nat} (hj : j < 110) : ab_C G (d + 3) 0 0 M_J0_charAt_5068e 0 (ab_ent [.retAddr 1, .int (nI j)]) [] h (rt (some (.int (st_by.getD j 0))) h) := by
  refine r_xload_n (by decide) rfl rfl ?_
  refine r_callVS [] _ rfl kY_J0_isLatin1_aae02 kT_J0_isLatin1_aae02 rfl rfl rfl (Nat.le_of_ble_eq_true rfl) (Nat.le_of_ble_eq_true rfl) s_isLatin1 (fun r h q => ?_)
  obtain ⟨rfl, rfl⟩ := q
  refine r_if_eq rfl (fun c => absurd c (by decide)) (fun _ => ?_)
  refine r_xload_n (by decide) rfl rfl ?_
  refine r_getS (by decide +kernel) rfl ?_
  refine r_iload_n rfl rfl ?_
  refine r_callS0 [.retAddr 2, .int (nI j)] _ rfl kY_J1_charAt_3b067 kT_J1_charAt_3b067 rfl rfl (Nat.le_of_ble_eq_true rfl) (Nat.le_of_ble_eq_true rfl) (s_latin hj) (fun r h q => ?_)
  obtain ⟨rfl, rfl⟩ := q
  exact r_iret rfl rfl (congrArg Value.int (st_c2 j hj)) ⟨rfl, rfl⟩
/-! Tokens() -/
/-- what the words of the String come to -/
def st_f : Nat → Nat → Nat → Int32 → (Nat → Int64) → Nat → Int64
  | 0, _, _, _, q => q
  | n + 1, i, w, g, q => if 21 ≤ w then q else if st_by.getD i 0 = 32 then st_f n (i + 1) (w + 1) 0 q else st_f n (i + 1) w (g + 1) (vp_updL q w (f_X11_withSign 0 (q w) g (st_by.getD i 0 - 97 + 1)))
theorem ab_uu (h : ab_H) (r : Nat) (e e' : ab_E) : ab_u (ab_u h r e) r e' = ab_u h r e' := by
  refine Prod.ext ?_ rfl
  funext x
  by_cases hx : x = r <;> simp [ab_u, hx]
theorem pt_withSign (fu : Nat) (v : Int64) (i s : Int32) : p_X11_withSign fu v i s := ⟨fun _ => trivial, fun _ => ⟨fun _ => trivial, fun _ => trivial⟩⟩
set_option maxRecDepth 100000 in
set_option maxHeartbeats 2000000 in
theorem st_loop {G : ab_G} {d : Nat} {h : ab_H} {q r : Nat} {fs : List Value} (hq : h.1 q = some (.inr (6, fs))) (hf : fs[3]? = some (.ref r)) (hr : q ≠ r) : ∀ (n i w : Nat) (g : Int32) (f : Nat → Int64), i + n = 110 → w ≤ 21 →
    ab_C G (d + 4) 0 0 M_X6_init 45 [some (.ref q), some (.int (nI w)), some (.int g), some (.int (nI i)), none] [] (ab_u h r (.inl (1, 21, .inr (.inl f)))) (rt none (ab_u h r (.inl (1, 21, .inr (.inl (st_f n i w g f)))))) := by
  have hq1 : ∀ e, (ab_u h r e).1 q = some (.inr (6, fs)) := fun e => (ab_u_ne h e hr).trans hq
  intro n
  induction n with
  | zero =>
    intro i w g f hi hw
    have hi : i = 110 := by omega
    subst hi
    refine r_iload_n rfl rfl ?_
    refine r_ldcS rfl rfl ?_
    refine r_callVS [] _ rfl kY_J0_length_8abf5 kT_J0_length_8abf5 rfl rfl rfl (Nat.le_of_ble_eq_true rfl) (Nat.le_of_ble_eq_true rfl) s_length (fun r h q => ?_)
    obtain ⟨rfl, rfl⟩ := q
    refine r_icmp_ge rfl (fun _ => ?_) (fun c => absurd (by decide) c)
    exact r_ret rfl rfl ⟨rfl, rfl⟩
  | succ n ih =>
    intro i w g f hi hw
    have hi1 : i < 110 := by omega
    refine r_iload_n rfl rfl ?_
    refine r_ldcS rfl rfl ?_
    refine r_callVS [] _ rfl kY_J0_length_8abf5 kT_J0_length_8abf5 rfl rfl rfl (Nat.le_of_ble_eq_true rfl) (Nat.le_of_ble_eq_true rfl) s_length (fun r h q => ?_)
    obtain ⟨rfl, rfl⟩ := q
    refine r_icmp_ge rfl (fun c => absurd (nI_le_of (n := i) (z := 110) c) (by omega)) (fun _ => ?_)
    refine r_iload_n rfl rfl ?_
    refine r_bipush_ (a := 21) rfl (by decide) ?_
    refine r_icmp_ge rfl (fun c => ?_) (fun c => ?_)
    · have hw1 : 21 ≤ w := nI_le_of (n := w) (z := 21) c
      rw [st_f, if_pos hw1]
      exact r_ret rfl rfl ⟨rfl, rfl⟩
    · have hw1 : w < 21 := nI_lt_of (n := w) (z := 21) c
      rw [st_f, if_neg (by omega : ¬ 21 ≤ w)]
      refine r_ldcS rfl rfl ?_
      refine r_iload_n rfl rfl ?_
      refine r_callVS [.int (nI i)] _ rfl kY_J0_charAt_5068e kT_J0_charAt_5068e rfl rfl rfl (Nat.le_of_ble_eq_true rfl) (Nat.le_of_ble_eq_true rfl) (s_charAt hi1) (fun r h q => ?_)
      obtain ⟨rfl, rfl⟩ := q
      refine r_istore rfl (Nat.le_of_ble_eq_true rfl) rfl ?_
      refine r_iload rfl rfl ?_
      refine r_bipush_ (a := 32) rfl (by decide) ?_
      refine r_icmp_ne rfl (fun c => ?_) (fun c => ?_)
      · rw [if_neg c]
        refine r_aload_n rfl rfl ?_
        refine r_getfield rfl (hq1 _) hf ?_
        refine r_iload_n rfl rfl ?_
        refine r_aload_n rfl rfl ?_
        refine r_getfield rfl (hq1 _) hf ?_
        refine r_iload_n rfl rfl ?_
        refine r_lald rfl (ab_u_same _ _ _) (vp_in_nI hw1 (by omega)) ?_
        rw [show (nI w).toNatClampNeg = w from nI_clamp (by omega)]
        refine r_iload_n rfl rfl ?_
        refine r_iload rfl rfl ?_
        refine r_bipush_ (a := 97) rfl (by decide) ?_
        refine r_isub rfl ?_
        refine r_iconst_ (a := 1) rfl (by decide) ?_
        refine r_iadd rfl ?_
        refine r_callSN0 [_, _, _] _ rfl kY_X11_withSign kT_X11_withSign rfl rfl (Nat.le_of_ble_eq_true rfl) (Nat.le_of_ble_eq_true rfl) (s_X11_withSign (fu := 0) (pt_withSign _ _ _ _)) (fun r h q => ?_)
        obtain ⟨rfl, rfl⟩ := q
        refine r_last rfl (ab_u_same _ _ _) (vp_in_nI hw1 (by omega)) ?_
        rw [ab_uu, show (nI w).toNatClampNeg = w from nI_clamp (by omega)]
        refine r_iinc (b := g + 1) rfl rfl rfl (Nat.le_of_ble_eq_true rfl) rfl ?_
        refine r_iinc (b := nI (i + 1)) rfl rfl (nI_1 i) (Nat.le_of_ble_eq_true rfl) rfl ?_
        refine r_goto rfl ?_
        refine r_weak (L1 := [some (.ref q), some (.int (nI w)), some (.int (g + 1)), some (.int (nI (i + 1))), none]) ⟨rfl, rfl, rfl, rfl, trivial⟩ ?_
        exact ih (i + 1) w (g + 1) _ (by omega) hw
      · have c1 : st_by.getD i 0 = 32 := c
        rw [if_pos c1]
        refine r_iinc (b := nI (w + 1)) rfl rfl (nI_1 w) (Nat.le_of_ble_eq_true rfl) rfl ?_
        refine r_iconst_ (a := 0) rfl (by decide) ?_
        refine r_istore_n rfl (Nat.le_of_ble_eq_true rfl) rfl ?_
        refine r_goto rfl ?_
        refine r_iinc (b := nI (i + 1)) rfl rfl (nI_1 i) (Nat.le_of_ble_eq_true rfl) rfl ?_
        refine r_goto rfl ?_
        refine r_weak (L1 := [some (.ref q), some (.int (nI (w + 1))), some (.int 0), some (.int (nI (i + 1))), none]) ⟨rfl, rfl, rfl, rfl, trivial⟩ ?_
        exact ih (i + 1) (w + 1) 0 _ (by omega) (by omega)
/-- the words that are quoted -/
def st_q : Nat → Int64 := st_f 110 0 0 0 (fun _ => 0)
theorem hl_u3 {cs : List ab_E} {q : Nat} {o a b c e e' : ab_E} : ab_u (hl (cs.set q o ++ [a, b, c, e])) (cs.length + 3) e' = hl (cs.set q o ++ [a, b, c, e']) := by
  refine Prod.ext ?_ ?_
  · funext x
    show (if x = cs.length + 3 then some e' else (cs.set q o ++ [a, b, c, e])[x]?) = (cs.set q o ++ [a, b, c, e'])[x]?
    by_cases h : x = cs.length + 3
    · subst h; rw [if_pos rfl, List.getElem?_append_right (by simp)]; simp
    · rw [if_neg h]
      by_cases h1 : x < cs.length
      · rw [List.getElem?_append_left (by simpa using h1), List.getElem?_append_left (by simpa using h1)]
      · rw [List.getElem?_append_right (by simp; omega), List.getElem?_append_right (by simp; omega), List.length_set]
        obtain ⟨k, rfl⟩ : ∃ k, x = cs.length + k := ⟨x - cs.length, by omega⟩
        rw [Nat.add_sub_cancel_left]
        match k, h with
        | 0, _ => rfl
        | 1, _ => rfl
        | 2, _ => rfl
        | 3, h => exact absurd rfl h
        | k + 4, _ => rfl
  · simp [ab_u, hl]
set_option maxRecDepth 100000 in
set_option maxHeartbeats 1000000 in
theorem i_X6 {G : ab_G} {d : Nat} {cs : List ab_E} {q : Nat} (hq : cs[q]? = some (.inr (6, [.null, .null, .null, .null, .int 0]))) : ab_C G (d + 4) 4 1224 M_X6_init 0 (ab_ent [.ref q]) [] (hl cs) (rt none (hl (cs.set q (.inr (6, [.ref cs.length, .ref (cs.length + 1), .ref (cs.length + 2), .ref (cs.length + 3), .int 0])) ++ [.inl (0, 401, .inl fun _ => 0), .inl (0, 401, .inl fun _ => 0), .inl (1, 401, .inr (.inl fun _ => 0)), .inl (1, 21, .inr (.inl st_q))]))) := by
  have hlt := hl_lt hq
  rw [hl_start hq]
  refine r_aload_n rfl rfl ?_
  refine r_objinit rfl (Nat.le_of_ble_eq_true rfl) ?_
  refine r_aload_n rfl rfl ?_
  refine r_sipush_ (a := 401) rfl (by decide) ?_
  refine r_newarray (kc := 3) (ks := 823) (ty := .int) (kd := 0) (a0 := (401, .inl fun _ => 0)) (N := 401) rfl rfl (fun _ => rfl) (fun _ h9 => by cases h9) (fun _ => rfl) (by decide) (by decide) (by decide) ?_
  rw [hl_new, hl_len, List.append_assoc]
  simp only [List.cons_append, List.nil_append, List.length_cons, List.length_nil, Nat.zero_add, Nat.reduceAdd, Nat.add_zero]
  refine r_putfieldF rfl (hl_get hlt) (by decide +kernel) rfl (by decide +kernel) (ty := .array .int) (by decide +kernel) rfl rfl (Nat.le_of_ble_eq_true rfl) (show _ = [.ref cs.length, .null, .null, .null, .int 0] from rfl) ?_
  rw [hl_put hlt]
  refine r_aload_n rfl rfl ?_
  refine r_sipush_ (a := 401) rfl (by decide) ?_
  refine r_newarray (kc := 2) (ks := 422) (ty := .int) (kd := 0) (a0 := (401, .inl fun _ => 0)) (N := 401) rfl rfl (fun _ => rfl) (fun _ h9 => by cases h9) (fun _ => rfl) (by decide) (by decide) (by decide) ?_
  rw [hl_new, hl_len, List.append_assoc]
  simp only [List.cons_append, List.nil_append, List.length_cons, List.length_nil, Nat.zero_add, Nat.reduceAdd, Nat.add_zero]
  refine r_putfieldF rfl (hl_get hlt) (by decide +kernel) rfl (by decide +kernel) (ty := .array .int) (by decide +kernel) rfl rfl (Nat.le_of_ble_eq_true rfl) (show _ = [.ref cs.length, .ref (cs.length + 1), .null, .null, .int 0] from rfl) ?_
  rw [hl_put hlt]
  refine r_aload_n rfl rfl ?_
  refine r_sipush_ (a := 401) rfl (by decide) ?_
  refine r_newarray (kc := 1) (ks := 21) (ty := .long) (kd := 1) (a0 := (401, .inr (.inl fun _ => 0))) (N := 401) rfl rfl (fun _ => rfl) (fun _ h9 => by cases h9) (fun _ => rfl) (by decide) (by decide) (by decide) ?_
  rw [hl_new, hl_len, List.append_assoc]
  simp only [List.cons_append, List.nil_append, List.length_cons, List.length_nil, Nat.zero_add, Nat.reduceAdd, Nat.add_zero]
  refine r_putfieldF rfl (hl_get hlt) (by decide +kernel) rfl (by decide +kernel) (ty := .array .long) (by decide +kernel) rfl rfl (Nat.le_of_ble_eq_true rfl) (show _ = [.ref cs.length, .ref (cs.length + 1), .ref (cs.length + 2), .null, .int 0] from rfl) ?_
  rw [hl_put hlt]
  refine r_aload_n rfl rfl ?_
  refine r_bipush_ (a := 21) rfl (by decide) ?_
  refine r_newarray (kc := 0) (ks := 0) (ty := .long) (kd := 1) (a0 := (21, .inr (.inl fun _ => 0))) (N := 21) rfl rfl (fun _ => rfl) (fun _ h9 => by cases h9) (fun _ => rfl) (by decide) (by decide) (by decide) ?_
  rw [hl_new, hl_len, List.append_assoc]
  simp only [List.cons_append, List.nil_append, List.length_cons, List.length_nil, Nat.zero_add, Nat.reduceAdd, Nat.add_zero]
  refine r_putfieldF rfl (hl_get hlt) (by decide +kernel) rfl (by decide +kernel) (ty := .array .long) (by decide +kernel) rfl rfl (Nat.le_of_ble_eq_true rfl) (show _ = [.ref cs.length, .ref (cs.length + 1), .ref (cs.length + 2), .ref (cs.length + 3), .int 0] from rfl) ?_
  rw [hl_put hlt]
  refine r_weak (L1 := [some (.ref q), none, none, none, none]) ⟨rfl, trivial⟩ ?_
  refine r_iconst_ (a := 0) rfl (by decide) ?_
  refine r_istore_n rfl (Nat.le_of_ble_eq_true rfl) rfl ?_
  refine r_iconst_ (a := 0) rfl (by decide) ?_
  refine r_istore_n rfl (Nat.le_of_ble_eq_true rfl) rfl ?_
  refine r_iconst_ (a := 0) rfl (by decide) ?_
  refine r_istore_n rfl (Nat.le_of_ble_eq_true rfl) rfl ?_
  refine r_weak (L1 := [some (.ref q), some (.int (nI 0)), some (.int 0), some (.int (nI 0)), none]) ⟨rfl, rfl, rfl, rfl, trivial⟩ ?_
  have e0 := hl_u3 (cs := cs) (q := q) (o := .inr (6, [.ref cs.length, .ref (cs.length + 1), .ref (cs.length + 2), .ref (cs.length + 3), .int 0])) (a := .inl (0, 401, .inl fun _ => 0)) (b := .inl (0, 401, .inl fun _ => 0)) (c := .inl (1, 401, .inr (.inl fun _ => 0))) (e := .inl (1, 21, .inr (.inl fun _ => 0))) (e' := .inl (1, 21, .inr (.inl fun _ => 0)))
  have e1 := hl_u3 (cs := cs) (q := q) (o := .inr (6, [.ref cs.length, .ref (cs.length + 1), .ref (cs.length + 2), .ref (cs.length + 3), .int 0])) (a := .inl (0, 401, .inl fun _ => 0)) (b := .inl (0, 401, .inl fun _ => 0)) (c := .inl (1, 401, .inr (.inl fun _ => 0))) (e := .inl (1, 21, .inr (.inl fun _ => 0))) (e' := .inl (1, 21, .inr (.inl st_q)))
  rw [← e0, ← e1]
  unfold st_q
  exact st_loop (hl_get hlt) rfl (by omega) 110 0 0 0 (fun _ => 0) rfl (by omega)

