def M_J6_compare_7cf53 : ab_M := (yJ6_compare_7cf53, cJ6_compare_7cf53, 2, (some .int), 99, 2, [
  [oo (.iload_n 0) 1, oo (.iload_n 1) 2, oj (.if_icmp .ge 7) 5 9, nn, nn, oo (.iconst (-1)) 6, oj (.goto 13) 9 19, nn, nn, oo (.iload_n 0) 10, oo (.iload_n 1) 11, oj (.if_icmp .ne 7) 14 18, nn, nn, oo (.iconst 0) 15, oj (.goto 4) 18 19],
  [nn, nn, oo (.iconst 1) 19, oo .ireturn 20, nn, nn, nn, nn, nn, nn, nn, nn, nn, nn, nn, nn]])
def P_J6_compare_7cf53 : List (List (List Nat)) := [[[],[],[],[],[],[],[],[],[],[],[],[],[],[],[],[]], [[],[],[],[],[],[],[],[],[],[],[],[],[],[],[],[]]]
set_option maxRecDepth 100000 in
theorem kT_J6_compare_7cf53 : ab_okT M_J6_compare_7cf53 := ab_okT_of (P := P_J6_compare_7cf53) 32 (Nat.le_of_ble_eq_true rfl) (fun pc h => ab_chkR_of (lo := 0) (len := 32) (by decide +kernel) pc (Nat.zero_le _) (by omega))
theorem kY_J6_compare_7cf53 : ab_okY M_J6_compare_7cf53 := ab_okY_of 854 125 (by decide +kernel)
def M_J6_bitCount_0f7a4 : ab_M := (yJ6_bitCount_0f7a4, cJ6_bitCount_0f7a4, 1, (some .int), 99, 1, [
  [oo (.iload_n 0) 1, oo (.iload_n 0) 2, oo (.iconst 1) 3, oo .iushr 4, oc (.ldc_w 265) 7 (.int (1431655765)), nn, nn, oo .iand 8, oo .isub 9, oo (.istore_n 0) 10, oo (.iload_n 0) 11, oc (.ldc_w 266) 14 (.int (858993459)), nn, nn, oo .iand 15, oo (.iload_n 0) 16],
  [oo (.iconst 2) 17, oo .iushr 18, oc (.ldc_w 266) 21 (.int (858993459)), nn, nn, oo .iand 22, oo .iadd 23, oo (.istore_n 0) 24, oo (.iload_n 0) 25, oo (.iload_n 0) 26, oo (.iconst 4) 27, oo .iushr 28, oo .iadd 29, oc (.ldc_w 267) 32 (.int (252645135)), nn, nn],
  [oo .iand 33, oo (.istore_n 0) 34, oo (.iload_n 0) 35, oo (.iload_n 0) 36, oo (.bipush 8) 38, nn, oo .iushr 39, oo .iadd 40, oo (.istore_n 0) 41, oo (.iload_n 0) 42, oo (.iload_n 0) 43, oo (.bipush 16) 45, nn, oo .iushr 46, oo .iadd 47, oo (.istore_n 0) 48],
  [oo (.iload_n 0) 49, oo (.bipush 63) 51, nn, oo .iand 52, oo .ireturn 53, nn, nn, nn, nn, nn, nn, nn, nn, nn, nn, nn]])
def P_J6_bitCount_0f7a4 : List (List (List Nat)) := [[[],[],[],[],[996],[],[],[],[],[],[],[997],[],[],[],[]], [[],[],[997],[],[],[],[],[],[],[],[],[],[],[998],[],[]], [[],[],[],[],[],[],[],[],[],[],[],[],[],[],[],[]], [[],[],[],[],[],[],[],[],[],[],[],[],[],[],[],[]]]
set_option maxRecDepth 100000 in
theorem kT_J6_bitCount_0f7a4 : ab_okT M_J6_bitCount_0f7a4 := ab_okT_of (P := P_J6_bitCount_0f7a4) 64 (Nat.le_of_ble_eq_true rfl) (fun pc h => ab_chkR_of (lo := 0) (len := 64) (by decide +kernel) pc (Nat.zero_le _) (by omega))
theorem kY_J6_bitCount_0f7a4 : ab_okY M_J6_bitCount_0f7a4 := ab_okY_of 995 125 (by decide +kernel)
def M_J7_fill_53178 : ab_M := (yJ7_fill_53178, cJ7_fill_53178, 4, none, 99, 2, [
  [oo (.iconst 0) 1, oo (.istore_n 2) 2, oo (.aload_n 0) 3, oo .arraylength 4, oo (.istore_n 3) 5, oo (.iload_n 2) 6, oo (.iload_n 3) 7, oj (.if_icmp .ge 13) 10 20, nn, nn, oo (.aload_n 0) 11, oo (.iload_n 2) 12, oo (.iload_n 1) 13, oo .iastore 14, oo (.iinc 2 1) 17, nn],
  [nn, oj (.goto (-12)) 20 5, nn, nn, oo .return_ 21, nn, nn, nn, nn, nn, nn, nn, nn, nn, nn, nn]])
def P_J7_fill_53178 : List (List (List Nat)) := [[[],[],[],[],[],[],[],[],[],[],[],[],[],[],[],[]], [[],[],[],[],[],[],[],[],[],[],[],[],[],[],[],[]]]
set_option maxRecDepth 100000 in
theorem kT_J7_fill_53178 : ab_okT M_J7_fill_53178 := ab_okT_of (P := P_J7_fill_53178) 32 (Nat.le_of_ble_eq_true rfl) (fun pc h => ab_chkR_of (lo := 0) (len := 32) (by decide +kernel) pc (Nat.zero_le _) (by omega))
theorem kY_J7_fill_53178 : ab_okY M_J7_fill_53178 := ab_okY_of 522 123 (by decide +kernel)
