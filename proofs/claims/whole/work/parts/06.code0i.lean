def M_X8_init : ab_M := (yX8_init, cX8_init, 1, none, 8, 0, [
  [oo (.aload_n 0) 1, om (.invokespecial 3) 4 0 Lib.objectInit, nn, nn, oo (.aload_n 0) 5, oo (.bipush 10) 7, nn, oo (.newarray .int) 9, nn, of (.putfield 9) 12 8 1, nn, nn, oo (.aload_n 0) 13, oo (.bipush 80) 15, nn, oo (.newarray .int) 17],
  [nn, of (.putfield 15) 20 8 2, nn, nn, oo (.aload_n 0) 21, oo (.iconst 0) 22, oo (.newarray .int) 24, nn, of (.putfield 18) 27 8 3, nn, nn, oo .return_ 28, nn, nn, nn, nn]])
def P_X8_init : List (List (List Nat)) := [[[],[472,132],[],[],[],[],[],[233],[],[474],[],[],[],[],[],[233]], [[],[475],[],[],[],[],[233],[],[476],[],[],[],[],[],[],[]]]
set_option maxRecDepth 100000 in
theorem kT_X8_init : ab_okT M_X8_init := ab_okT_of (P := P_X8_init) 32 (Nat.le_of_ble_eq_true rfl) (fun pc h => ab_chkR_of (lo := 0) (len := 32) (by decide +kernel) pc (Nat.zero_le _) (by omega))
theorem kY_X8_init : ab_okY M_X8_init := ab_okY_of 471 118 (by decide +kernel)
def M_X8_gather : ab_M := (yX8_gather, cX8_gather, 4, (some .boolean), 8, 2, [
  [oo (.aload_n 1) 1, oo (.aload_n 0) 2, of (.getfield 15) 5 8 2, nn, nn, om (.invokevirtual 21) 8 0 yX10_countAll, nn, nn, oo (.aload_n 0) 9, oo (.iconst 0) 10, of (.putfield 27) 13 8 0, nn, nn, oo (.iconst 0) 14, oo (.istore_n 3) 15, oo (.iload_n 3) 16],
  [oo (.bipush 80) 18, nn, oj (.if_icmp .ge 54) 21 72, nn, nn, oo (.aload_n 0) 22, of (.getfield 15) 25 8 2, nn, nn, oo (.iload_n 3) 26, oo .iaload 27, oj (.ifCond .le 39) 30 66, nn, nn, oo (.iload_n 3) 31, oo (.iload_n 2) 32],
  [oj (.if_icmp .eq 34) 35 66, nn, nn, oo (.aload_n 0) 36, of (.getfield 27) 39 8 0, nn, nn, oo (.bipush 10) 41, nn, oj (.if_icmp .lt 5) 44 46, nn, nn, oo (.iconst 0) 45, oo .ireturn 46, oo (.aload_n 0) 47, of (.getfield 9) 50 8 1],
  [nn, nn, oo (.aload_n 0) 51, of (.getfield 27) 54 8 0, nn, nn, oo (.iload_n 3) 55, oo .iastore 56, oo (.aload_n 0) 57, oo .dup 58, of (.getfield 27) 61 8 0, nn, nn, oo (.iconst 1) 62, oo .iadd 63, of (.putfield 27) 66 8 0],
  [nn, nn, oo (.iinc 3 1) 69, nn, nn, oj (.goto (-54)) 72 15, nn, nn, oo (.aload_n 0) 73, om (.invokevirtual 31) 76 0 yX8_fillFrom, nn, nn, oo (.iconst 1) 77, oo .ireturn 78, nn, nn]])
def P_X8_gather : List (List (List Nat)) := [[[],[],[475],[],[],[909,879,880],[],[],[],[],[473],[],[],[],[],[]], [[],[],[],[],[],[],[475],[],[],[],[],[],[],[],[],[]], [[],[],[],[],[473],[],[],[],[],[],[],[],[],[],[],[474]], [[],[],[],[473],[],[],[],[],[],[],[473],[],[],[],[],[473]], [[],[],[],[],[],[],[],[],[],[910,912,28],[],[],[],[],[],[]]]
set_option maxRecDepth 100000 in
theorem kT_X8_gather : ab_okT M_X8_gather := ab_okT_of (P := P_X8_gather) 80 (Nat.le_of_ble_eq_true rfl) (fun pc h => ab_chkR_of (lo := 0) (len := 80) (by decide +kernel) pc (Nat.zero_le _) (by omega))
theorem kY_X8_gather : ab_okY M_X8_gather := ab_okY_of 908 118 (by decide +kernel)
def M_X8_all : ab_M := (yX8_all, cX8_all, 1, (some .int), 8, 0, [
  [oo (.iconst 1) 1, oo (.aload_n 0) 2, of (.getfield 27) 5 8 0, nn, nn, oo .ishl 6, oo (.iconst 1) 7, oo .isub 8, oo .ireturn 9, nn, nn, nn, nn, nn, nn, nn]])
def P_X8_all : List (List (List Nat)) := [[[],[],[473],[],[],[],[],[],[],[],[],[],[],[],[],[]]]
set_option maxRecDepth 100000 in
theorem kT_X8_all : ab_okT M_X8_all := ab_okT_of (P := P_X8_all) 16 (Nat.le_of_ble_eq_true rfl) (fun pc h => ab_chkR_of (lo := 0) (len := 16) (by decide +kernel) pc (Nat.zero_le _) (by omega))
theorem kY_X8_all : ab_okY M_X8_all := ab_okY_of 917 118 (by decide +kernel)
def M_X8_index : ab_M := (yX8_index, cX8_index, 2, (some .int), 8, 2, [
  [oo (.iload_n 0) 1, oo (.bipush 10) 3, nn, oo .imul 4, oo (.iload_n 1) 5, oo .iadd 6, oo .ireturn 7, nn, nn, nn, nn, nn, nn, nn, nn, nn]])
def P_X8_index : List (List (List Nat)) := [[[],[],[],[],[],[],[],[],[],[],[],[],[],[],[],[]]]
set_option maxRecDepth 100000 in
theorem kT_X8_index : ab_okT M_X8_index := ab_okT_of (P := P_X8_index) 16 (Nat.le_of_ble_eq_true rfl) (fun pc h => ab_chkR_of (lo := 0) (len := 16) (by decide +kernel) pc (Nat.zero_le _) (by omega))
theorem kY_X8_index : ab_okY M_X8_index := ab_okY_of 920 118 (by decide +kernel)
def M_X8_fillFrom : ab_M := (yX8_fillFrom, cX8_fillFrom, 3, none, 8, 0, [
  [oo (.aload_n 0) 1, of (.getfield 18) 4 8 3, nn, nn, oo .arraylength 5, oo (.aload_n 0) 6, om (.invokevirtual 34) 9 0 yX8_all, nn, nn, oo (.iconst 1) 10, oo .iadd 11, oo (.iconst 0) 12, om (.invokestatic 38) 15 0 yX8_index, nn, nn, oj (.if_icmp .ge 16) 18 31],
  [nn, nn, oo (.aload_n 0) 19, oo (.sipush 1024) 22, nn, nn, oo (.iconst 0) 23, om (.invokestatic 38) 26 0 yX8_index, nn, nn, oo (.newarray .int) 28, nn, of (.putfield 18) 31 8 3, nn, nn, oo (.iconst 1) 32],
  [oo (.istore_n 1) 33, oo (.iload_n 1) 34, oo (.aload_n 0) 35, om (.invokevirtual 34) 38 0 yX8_all, nn, nn, oj (.if_icmp .gt 61) 41 99, nn, nn, oo (.iconst 0) 42, oo (.istore_n 2) 43, oo (.iload_n 2) 44, oo (.aload_n 0) 45, of (.getfield 27) 48 8 0, nn, nn],
  [oj (.if_icmp .ge 45) 51 93, nn, nn, oo (.iload_n 1) 52, oo (.iload_n 2) 53, oo .ishr 54, oo (.iconst 1) 55, oo .iand 56, oo (.iconst 1) 57, oj (.if_icmp .ne 30) 60 87, nn, nn, oo (.aload_n 0) 61, of (.getfield 18) 64 8 3, nn, nn],
  [oo (.iload_n 1) 65, oo (.iload_n 2) 66, om (.invokestatic 38) 69 0 yX8_index, nn, nn, oo (.aload_n 0) 70, oo (.aload_n 0) 71, of (.getfield 9) 74 8 1, nn, nn, oo (.iload_n 2) 75, oo .iaload 76, oo (.iload_n 1) 77, oo (.iconst 1) 78, oo (.iload_n 2) 79, oo .ishl 80],
  [oo (.iconst (-1)) 81, oo .ixor 82, oo .iand 83, om (.invokevirtual 42) 86 0 yX8_fewest, nn, nn, oo .iastore 87, oo (.iinc 2 1) 90, nn, nn, oj (.goto (-47)) 93 43, nn, nn, oo (.iinc 1 1) 96, nn, nn],
  [oj (.goto (-63)) 99 33, nn, nn, oo .return_ 100, nn, nn, nn, nn, nn, nn, nn, nn, nn, nn, nn, nn]])
def P_X8_fillFrom : List (List (List Nat)) := [[[],[476],[],[],[],[],[914,915,916],[],[],[],[],[],[918,919],[],[],[]], [[],[],[],[],[],[],[],[918,919],[],[],[233],[],[476],[],[],[]], [[],[],[],[914,915,916],[],[],[],[],[],[],[],[],[],[473],[],[]], [[],[],[],[],[],[],[],[],[],[],[],[],[],[476],[],[]], [[],[],[918,919],[],[],[],[],[474],[],[],[],[],[],[],[],[]], [[],[],[],[921,922,923],[],[],[],[],[],[],[],[],[],[],[],[]], [[],[],[],[],[],[],[],[],[],[],[],[],[],[],[],[]]]
set_option maxRecDepth 100000 in
theorem kT_X8_fillFrom : ab_okT M_X8_fillFrom := ab_okT_of (P := P_X8_fillFrom) 112 (Nat.le_of_ble_eq_true rfl) (fun pc h => ab_chkR_of (lo := 0) (len := 112) (by decide +kernel) pc (Nat.zero_le _) (by omega))
theorem kY_X8_fillFrom : ab_okY M_X8_fillFrom := ab_okY_of 913 118 (by decide +kernel)
def M_X8_fewest : ab_M := (yX8_fewest, cX8_fewest, 5, (some .int), 8, 2, [
  [oo (.iload_n 2) 1, oj (.ifCond .ne 7) 4 8, nn, nn, oo (.iconst 0) 5, oj (.goto 5) 8 10, nn, nn, oc (.ldc 45) 10 (.int (1000000)), nn, oo (.istore_n 3) 11, oo (.iconst 0) 12, oo (.istore 4) 14, nn, oo (.iload 4) 16, nn],
  [oo (.aload_n 0) 17, of (.getfield 27) 20 8 0, nn, nn, oj (.if_icmp .ge 47) 23 67, nn, nn, oo (.iload_n 2) 24, oo (.iload 4) 26, nn, oo .ishr 27, oo (.iconst 1) 28, oo .iand 29, oo (.iconst 1) 30, oj (.if_icmp .ne 31) 33 61, nn],
  [nn, oo (.iload_n 3) 34, oo (.iload_n 1) 35, oo (.aload_n 0) 36, of (.getfield 9) 39 8 1, nn, nn, oo (.iload 4) 41, nn, oo .iaload 42, om (.invokestatic 46) 45 1 yX11_apart, nn, nn, oo (.aload_n 0) 46, of (.getfield 18) 49 8 3, nn],
  [nn, oo (.iload_n 2) 50, oo (.iload 4) 52, nn, om (.invokestatic 38) 55 0 yX8_index, nn, nn, oo .iaload 56, oo .iadd 57, om (.invokestatic 49) 60 0 yJ9_min_7cf53, nn, nn, oo (.istore_n 3) 61, oo (.iinc 4 1) 64, nn, nn],
  [oj (.goto (-50)) 67 14, nn, nn, oo (.iload_n 3) 68, oo .ireturn 69, nn, nn, nn, nn, nn, nn, nn, nn, nn, nn, nn]])
def P_X8_fewest : List (List (List Nat)) := [[[],[],[],[],[],[],[],[],[925],[],[],[],[],[],[],[]], [[],[473],[],[],[],[],[],[],[],[],[],[],[],[],[],[]], [[],[],[],[],[474],[],[],[],[],[],[896,926],[],[],[],[476],[]], [[],[],[],[],[918,919],[],[],[],[],[927,515],[],[],[],[],[],[]], [[],[],[],[],[],[],[],[],[],[],[],[],[],[],[],[]]]
set_option maxRecDepth 100000 in
theorem kT_X8_fewest : ab_okT M_X8_fewest := ab_okT_of (P := P_X8_fewest) 80 (Nat.le_of_ble_eq_true rfl) (fun pc h => ab_chkR_of (lo := 0) (len := 80) (by decide +kernel) pc (Nat.zero_le _) (by omega))
theorem kY_X8_fewest : ab_okY M_X8_fewest := ab_okY_of 924 118 (by decide +kernel)
def M_X8_firstCell : ab_M := (yX8_firstCell, cX8_firstCell, 4, (some .int), 8, 1, [
  [oo (.aload_n 0) 1, oo (.iload_n 1) 2, oo (.aload_n 0) 3, om (.invokevirtual 34) 6 0 yX8_all, nn, nn, om (.invokevirtual 42) 9 0 yX8_fewest, nn, nn, oo (.istore_n 2) 10, oo (.iconst 0) 11, oo (.istore_n 3) 12, oo (.iload_n 3) 13, oo (.aload_n 0) 14, of (.getfield 27) 17 8 0, nn],
  [nn, oj (.if_icmp .ge 44) 20 61, nn, nn, oo (.iload_n 1) 21, oo (.aload_n 0) 22, of (.getfield 9) 25 8 1, nn, nn, oo (.iload_n 3) 26, oo .iaload 27, om (.invokestatic 46) 30 1 yX11_apart, nn, nn, oo (.aload_n 0) 31, of (.getfield 18) 34 8 3],
  [nn, nn, oo (.aload_n 0) 35, om (.invokevirtual 34) 38 0 yX8_all, nn, nn, oo (.iload_n 3) 39, om (.invokestatic 38) 42 0 yX8_index, nn, nn, oo .iaload 43, oo .iadd 44, oo (.iload_n 2) 45, oj (.if_icmp .ne 10) 48 55, nn, nn],
  [oo (.aload_n 0) 49, of (.getfield 9) 52 8 1, nn, nn, oo (.iload_n 3) 53, oo .iaload 54, oo .ireturn 55, oo (.iinc 3 1) 58, nn, nn, oj (.goto (-46)) 61 12, nn, nn, oo (.bipush (-2)) 63, nn, oo .ireturn 64]])
def P_X8_firstCell : List (List (List Nat)) := [[[],[],[],[914,915,916],[],[],[921,922,923],[],[],[],[],[],[],[],[473],[]], [[],[],[],[],[],[],[474],[],[],[],[],[896,926],[],[],[],[476]], [[],[],[],[914,915,916],[],[],[],[918,919],[],[],[],[],[],[],[],[]], [[],[474],[],[],[],[],[],[],[],[],[],[],[],[],[],[]]]
set_option maxRecDepth 100000 in
theorem kT_X8_firstCell : ab_okT M_X8_firstCell := ab_okT_of (P := P_X8_firstCell) 64 (Nat.le_of_ble_eq_true rfl) (fun pc h => ab_chkR_of (lo := 0) (len := 64) (by decide +kernel) pc (Nat.zero_le _) (by omega))
theorem kY_X8_firstCell : ab_okY M_X8_firstCell := ab_okY_of 933 118 (by decide +kernel)
def M_X8_shared : ab_M := (yX8_shared, cX8_shared, 6, (some .int), 8, 2, [
  [oc (.ldc 45) 2 (.int (1000000)), nn, oo (.istore_n 3) 3, oo (.iconst 0) 4, oo (.istore 4) 6, nn, oo (.iload 4) 8, nn, oo (.aload_n 0) 9, om (.invokevirtual 34) 12 0 yX8_all, nn, nn, oj (.if_icmp .gt 42) 15 54, nn, nn, oo (.aload_n 0) 16],
  [oo (.iload_n 1) 17, oo (.iload 4) 19, nn, om (.invokevirtual 42) 22 0 yX8_fewest, nn, nn, oo (.aload_n 0) 23, oo (.iload_n 2) 24, oo (.aload_n 0) 25, om (.invokevirtual 34) 28 0 yX8_all, nn, nn, oo (.iload 4) 30, nn, oo (.iconst (-1)) 31, oo .ixor 32],
  [oo .iand 33, om (.invokevirtual 42) 36 0 yX8_fewest, nn, nn, om (.invokestatic 54) 39 0 yJ9_max_7cf53, nn, nn, oo (.istore 5) 41, nn, oo (.iload_n 3) 42, oo (.iload 5) 44, nn, om (.invokestatic 49) 47 0 yJ9_min_7cf53, nn, nn, oo (.istore_n 3) 48],
  [oo (.iinc 4 1) 51, nn, nn, oj (.goto (-45)) 54 6, nn, nn, oo (.iload_n 3) 55, oo .ireturn 56, nn, nn, nn, nn, nn, nn, nn, nn]])
def P_X8_shared : List (List (List Nat)) := [[[925],[],[],[],[],[],[],[],[],[914,915,916],[],[],[],[],[],[]], [[],[],[],[921,922,923],[],[],[],[],[],[914,915,916],[],[],[],[],[],[]], [[],[921,922,923],[],[],[942,782],[],[],[],[],[],[],[],[927,515],[],[],[]], [[],[],[],[],[],[],[],[],[],[],[],[],[],[],[],[]]]
set_option maxRecDepth 100000 in
theorem kT_X8_shared : ab_okT M_X8_shared := ab_okT_of (P := P_X8_shared) 64 (Nat.le_of_ble_eq_true rfl) (fun pc h => ab_chkR_of (lo := 0) (len := 64) (by decide +kernel) pc (Nat.zero_le _) (by omega))
theorem kY_X8_shared : ab_okY M_X8_shared := ab_okY_of 941 118 (by decide +kernel)
