def M_X7_init : ab_M := (yX7_init, cX7_init, 1, none, 7, 0, [
  [oo (.aload_n 0) 1, om (.invokespecial 3) 4 0 Lib.objectInit, nn, nn, oo (.aload_n 0) 5, oo (.bipush 20) 7, nn, oo (.newarray .int) 9, nn, of (.putfield 9) 12 7 1, nn, nn, oo .return_ 13, nn, nn, nn]])
def P_X7_init : List (List (List Nat)) := [[[],[501,132],[],[],[],[],[],[233],[],[504],[],[],[],[],[],[]]]
set_option maxRecDepth 100000 in
theorem kT_X7_init : ab_okT M_X7_init := ab_okT_of (P := P_X7_init) 16 (Nat.le_of_ble_eq_true rfl) (fun pc h => ab_chkR_of (lo := 0) (len := 16) (by decide +kernel) pc (Nat.zero_le _) (by omega))
theorem kY_X7_init : ab_okY M_X7_init := ab_okY_of 500 120 (by decide +kernel)
def M_X7_add : ab_M := (yX7_add, cX7_add, 3, (some .int), 7, 2, [
  [oo (.aload_n 0) 1, of (.getfield 15) 4 7 0, nn, nn, oj (.ifCond .lt 12) 7 16, nn, nn, oo (.aload_n 0) 8, of (.getfield 15) 11 7 0, nn, nn, oo (.bipush 20) 13, nn, oj (.if_icmp .lt 5) 16 18, nn, nn],
  [oo (.iconst (-1)) 17, oo .ireturn 18, oo (.aload_n 0) 19, of (.getfield 9) 22 7 1, nn, nn, oo (.aload_n 0) 23, of (.getfield 15) 26 7 0, nn, nn, oo (.iload_n 2) 27, oj (.ifCond .eq 7) 30 34, nn, nn, oo (.iload_n 1) 31, oj (.goto 5) 34 36],
  [nn, nn, oo (.iload_n 1) 35, oo .ineg 36, oo .iastore 37, oo (.aload_n 0) 38, oo .dup 39, of (.getfield 15) 42 7 0, nn, nn, oo (.iconst 1) 43, oo .iadd 44, of (.putfield 15) 47 7 0, nn, nn, oo (.aload_n 0) 48],
  [of (.getfield 15) 51 7 0, nn, nn, oo (.iconst 1) 52, oo .isub 53, oo .ireturn 54, nn, nn, nn, nn, nn, nn, nn, nn, nn, nn]])
def P_X7_add : List (List (List Nat)) := [[[],[502],[],[],[],[],[],[],[502],[],[],[],[],[],[],[]], [[],[],[],[504],[],[],[],[502],[],[],[],[],[],[],[],[]], [[],[],[],[],[],[],[],[502],[],[],[],[],[502],[],[],[]], [[502],[],[],[],[],[],[],[],[],[],[],[],[],[],[],[]]]
set_option maxRecDepth 100000 in
theorem kT_X7_add : ab_okT M_X7_add := ab_okT_of (P := P_X7_add) 64 (Nat.le_of_ble_eq_true rfl) (fun pc h => ab_chkR_of (lo := 0) (len := 64) (by decide +kernel) pc (Nat.zero_le _) (by omega))
theorem kY_X7_add : ab_okY M_X7_add := ab_okY_of 1059 120 (by decide +kernel)
def M_X7_left : ab_M := (yX7_left, cX7_left, 5, (some .int), 7, 2, [
  [oo (.iconst 0) 1, oo (.istore_n 3) 2, oo (.iconst 0) 3, oo (.istore 4) 5, nn, oo (.iload 4) 7, nn, oo (.aload_n 1) 8, of (.getfield 19) 11 5 1, nn, nn, oj (.if_icmp .ge 31) 14 42, nn, nn, oo (.aload_n 0) 15, oo (.aload_n 1) 16],
  [of (.getfield 24) 19 5 5, nn, nn, oo (.iload 4) 21, nn, oo .laload 22, oo (.iload_n 2) 23, om (.invokevirtual 28) 26 0 yX7_agrees, nn, nn, oj (.ifCond .eq 10) 29 36, nn, nn, oo (.iload_n 3) 30, oo (.iconst 1) 31, oo (.iload 4) 33],
  [nn, oo .ishl 34, oo .ior 35, oo (.istore_n 3) 36, oo (.iinc 4 1) 39, nn, nn, oj (.goto (-34)) 42 5, nn, nn, oo (.iload_n 3) 43, oo .ireturn 44, nn, nn, nn, nn]])
def P_X7_left : List (List (List Nat)) := [[[],[],[],[],[],[],[],[],[279],[],[],[],[],[],[],[]], [[293],[],[],[],[],[],[],[1072,1074,33],[],[],[],[],[],[],[],[]], [[],[],[],[],[],[],[],[],[],[],[],[],[],[],[],[]]]
set_option maxRecDepth 100000 in
theorem kT_X7_left : ab_okT M_X7_left := ab_okT_of (P := P_X7_left) 48 (Nat.le_of_ble_eq_true rfl) (fun pc h => ab_chkR_of (lo := 0) (len := 48) (by decide +kernel) pc (Nat.zero_le _) (by omega))
theorem kY_X7_left : ab_okY M_X7_left := ab_okY_of 1071 120 (by decide +kernel)
def M_X7_agrees : ab_M := (yX7_agrees, cX7_agrees, 5, (some .boolean), 7, 2, [
  [oo (.iconst 0) 1, oo (.istore 4) 3, nn, oo (.iload 4) 5, nn, oo (.iload_n 3) 6, oj (.if_icmp .ge 50) 9 56, nn, nn, oo (.iload 4) 11, nn, oo (.bipush 20) 13, nn, oj (.if_icmp .ge 43) 16 56, nn, nn],
  [oo (.lload_n 1) 17, oo (.aload_n 0) 18, of (.getfield 9) 21 7 1, nn, nn, oo (.iload 4) 23, nn, oo .iaload 24, om (.invokestatic 32) 27 0 yJ9_abs_0f7a4, nn, nn, om (.invokestatic 38) 30 0 yX7_hasSign, nn, nn, oo (.aload_n 0) 31, of (.getfield 9) 34 7 1],
  [nn, nn, oo (.iload 4) 36, nn, oo .iaload 37, oj (.ifCond .le 7) 40 44, nn, nn, oo (.iconst 1) 41, oj (.goto 4) 44 45, nn, nn, oo (.iconst 0) 45, oj (.if_icmp .eq 5) 48 50, nn, nn],
  [oo (.iconst 0) 49, oo .ireturn 50, oo (.iinc 4 1) 53, nn, nn, oj (.goto (-50)) 56 3, nn, nn, oo (.iconst 1) 57, oo .ireturn 58, nn, nn, nn, nn, nn, nn]])
def P_X7_agrees : List (List (List Nat)) := [[[],[],[],[],[],[],[],[],[],[],[],[],[],[],[],[]], [[],[],[504],[],[],[],[],[],[1076,899],[],[],[1077,1078],[],[],[],[504]], [[],[],[],[],[],[],[],[],[],[],[],[],[],[],[],[]], [[],[],[],[],[],[],[],[],[],[],[],[],[],[],[],[]]]
set_option maxRecDepth 100000 in
theorem kT_X7_agrees : ab_okT M_X7_agrees := ab_okT_of (P := P_X7_agrees) 64 (Nat.le_of_ble_eq_true rfl) (fun pc h => ab_chkR_of (lo := 0) (len := 64) (by decide +kernel) pc (Nat.zero_le _) (by omega))
theorem kY_X7_agrees : ab_okY M_X7_agrees := ab_okY_of 1075 120 (by decide +kernel)
def M_X7_bestQuestion : ab_M := (yX7_bestQuestion, cX7_bestQuestion, 8, (some .int), 7, 2, [
  [oo (.bipush (-2)) 2, nn, oo (.istore_n 3) 3, oo (.iload_n 2) 4, oj (.ifCond .ne 7) 7 11, nn, nn, oo (.iconst 0) 8, oj (.goto 5) 11 13, nn, nn, oo (.bipush 9) 13, nn, oo (.istore 4) 15, nn, oo (.iconst 1) 16],
  [oo (.istore 5) 18, nn, oo (.iload 5) 20, nn, oo (.bipush 26) 22, nn, oj (.if_icmp .gt 86) 25 108, nn, nn, oo (.iconst 0) 26, oo (.istore 6) 28, nn, oo (.iconst 0) 29, oo (.istore 7) 31, nn, oo (.iload 7) 33],
  [nn, oo (.aload_n 1) 34, of (.getfield 19) 37 5 1, nn, nn, oj (.if_icmp .ge 37) 40 74, nn, nn, oo (.iload_n 2) 41, oo (.iload 7) 43, nn, oo .ishr 44, oo (.iconst 1) 45, oo .iand 46, oo (.iconst 1) 47, oj (.if_icmp .ne 21) 50 68],
  [nn, nn, oo (.aload_n 1) 51, of (.getfield 24) 54 5 5, nn, nn, oo (.iload 7) 56, nn, oo .laload 57, oo (.iload 5) 59, nn, om (.invokestatic 38) 62 0 yX7_hasSign, nn, nn, oj (.ifCond .eq 6) 65 68, nn],
  [nn, oo (.iinc 6 1) 68, nn, nn, oo (.iinc 7 1) 71, nn, nn, oj (.goto (-40)) 74 31, nn, nn, oo (.iload 6) 76, nn, oo (.iload_n 2) 77, om (.invokestatic 41) 80 0 yJ6_bitCount_0f7a4, nn, nn],
  [oo (.iload 6) 82, nn, oo .isub 83, om (.invokestatic 46) 86 0 yJ9_max_7cf53, nn, nn, oo (.istore 7) 88, nn, oo (.iload 7) 90, nn, oo (.iload 4) 92, nn, oj (.if_icmp .ge 10) 95 102, nn, nn, oo (.iload 7) 97],
  [nn, oo (.istore 4) 99, nn, oo (.iload 5) 101, nn, oo (.istore_n 3) 102, oo (.iinc 5 1) 105, nn, nn, oj (.goto (-87)) 108 18, nn, nn, oo (.iload_n 3) 109, oo .ireturn 110, nn, nn]])
def P_X7_bestQuestion : List (List (List Nat)) := [[[],[],[],[],[],[],[],[],[],[],[],[],[],[],[],[]], [[],[],[],[],[],[],[],[],[],[],[],[],[],[],[],[]], [[],[],[279],[],[],[],[],[],[],[],[],[],[],[],[],[]], [[],[],[],[293],[],[],[],[],[],[],[],[1077,1078],[],[],[],[]], [[],[],[],[],[],[],[],[],[],[],[],[],[],[1089,994],[],[]], [[],[],[],[1090,782],[],[],[],[],[],[],[],[],[],[],[],[]], [[],[],[],[],[],[],[],[],[],[],[],[],[],[],[],[]]]
set_option maxRecDepth 100000 in
theorem kT_X7_bestQuestion : ab_okT M_X7_bestQuestion := ab_okT_of (P := P_X7_bestQuestion) 112 (Nat.le_of_ble_eq_true rfl) (fun pc h => ab_chkR_of (lo := 0) (len := 112) (by decide +kernel) pc (Nat.zero_le _) (by omega))
theorem kY_X7_bestQuestion : ab_okY M_X7_bestQuestion := ab_okY_of 1088 120 (by decide +kernel)
def M_X7_hasSign : ab_M := (yX7_hasSign, cX7_hasSign, 4, (some .boolean), 7, 2, [
  [oo (.iconst 0) 1, oo (.istore_n 3) 2, oo (.iload_n 3) 3, oo (.bipush 8) 5, nn, oj (.if_icmp .ge 20) 8 25, nn, nn, oo (.lload_n 0) 9, oo (.iload_n 3) 10, om (.invokestatic 50) 13 1 yX11_signAt, nn, nn, oo (.iload_n 2) 14, oj (.if_icmp .ne 5) 17 19, nn],
  [nn, oo (.iconst 1) 18, oo .ireturn 19, oo (.iinc 3 1) 22, nn, nn, oj (.goto (-20)) 25 2, nn, nn, oo (.iconst 0) 26, oo .ireturn 27, nn, nn, nn, nn, nn]])
def P_X7_hasSign : List (List (List Nat)) := [[[],[],[],[],[],[],[],[],[],[],[691,1080],[],[],[],[],[]], [[],[],[],[],[],[],[],[],[],[],[],[],[],[],[],[]]]
set_option maxRecDepth 100000 in
theorem kT_X7_hasSign : ab_okT M_X7_hasSign := ab_okT_of (P := P_X7_hasSign) 32 (Nat.le_of_ble_eq_true rfl) (fun pc h => ab_chkR_of (lo := 0) (len := 32) (by decide +kernel) pc (Nat.zero_le _) (by omega))
theorem kY_X7_hasSign : ab_okY M_X7_hasSign := ab_okY_of 1079 120 (by decide +kernel)
