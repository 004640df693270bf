def M_X10_init : ab_M := (yX10_init, cX10_init, 1, none, 10, 0, [
  [oo (.aload_n 0) 1, om (.invokespecial 3) 4 0 Lib.objectInit, nn, nn, oo (.aload_n 0) 5, oo (.bipush 32) 7, nn, oo (.newarray .int) 9, nn, of (.putfield 9) 12 10 3, nn, nn, oo (.aload_n 0) 13, oo (.bipush 32) 15, nn, oo (.newarray .int) 17],
  [nn, of (.putfield 15) 20 10 4, nn, nn, oo (.aload_n 0) 21, oo (.iconst 4) 22, oo (.newarray .int) 24, nn, of (.putfield 18) 27 10 5, nn, nn, oo (.aload_n 0) 28, oo (.iconst 4) 29, oo (.newarray .int) 31, nn, of (.putfield 21) 34 10 6],
  [nn, nn, oo (.aload_n 0) 35, oo (.iconst 4) 36, oo (.newarray .int) 38, nn, of (.putfield 24) 41 10 7, nn, nn, oo .return_ 42, nn, nn, nn, nn, nn, nn]])
def P_X10_init : List (List (List Nat)) := [[[],[376,132],[],[],[],[],[],[233],[],[388],[],[],[],[],[],[233]], [[],[391],[],[],[],[],[233],[],[395],[],[],[],[],[233],[],[398]], [[],[],[],[],[233],[],[401],[],[],[],[],[],[],[],[],[]]]
set_option maxRecDepth 100000 in
theorem kT_X10_init : ab_okT M_X10_init := ab_okT_of (P := P_X10_init) 48 (Nat.le_of_ble_eq_true rfl) (fun pc h => ab_chkR_of (lo := 0) (len := 48) (by decide +kernel) pc (Nat.zero_le _) (by omega))
theorem kY_X10_init : ab_okY M_X10_init := ab_okY_of 375 114 (by decide +kernel)
def M_X10_begin : ab_M := (yX10_begin, cX10_begin, 2, none, 10, 1, [
  [oo (.aload_n 0) 1, oo (.iconst 0) 2, of (.putfield 27) 5 10 0, nn, nn, oo (.aload_n 0) 6, oo (.bipush 32) 8, nn, oo (.aload_n 1) 9, of (.getfield 31) 12 5 3, nn, nn, om (.invokestatic 36) 15 0 yJ9_min_7cf53, nn, nn, of (.putfield 42) 18 10 1],
  [nn, nn, oo (.aload_n 0) 19, oo (.iconst 4) 20, oo (.aload_n 1) 21, of (.getfield 43) 24 5 2, nn, nn, om (.invokestatic 36) 27 0 yJ9_min_7cf53, nn, nn, of (.putfield 46) 30 10 2, nn, nn, oo (.aload_n 1) 31, of (.getfield 47) 34 5 9],
  [nn, nn, oo (.iconst 0) 35, oo (.aload_n 0) 36, of (.getfield 9) 39 10 3, nn, nn, oo (.iconst 0) 40, oo (.bipush 32) 42, nn, om (.invokestatic 50) 45 0 arraycopyName, nn, nn, oo (.aload_n 1) 46, of (.getfield 56) 49 5 10, nn],
  [nn, oo (.iconst 0) 50, oo (.aload_n 0) 51, of (.getfield 18) 54 10 5, nn, nn, oo (.iconst 0) 55, oo (.iconst 4) 56, om (.invokestatic 50) 59 0 arraycopyName, nn, nn, oo (.aload_n 0) 60, of (.getfield 15) 63 10 4, nn, nn, oo (.iconst 0) 64],
  [om (.invokestatic 59) 67 0 yJ7_fill_53178, nn, nn, oo (.aload_n 0) 68, of (.getfield 21) 71 10 6, nn, nn, oo (.bipush (-2)) 73, nn, om (.invokestatic 59) 76 0 yJ7_fill_53178, nn, nn, oo (.aload_n 0) 77, of (.getfield 24) 80 10 7, nn, nn],
  [oo (.iconst 0) 81, om (.invokestatic 59) 84 0 yJ7_fill_53178, nn, nn, oo .return_ 85, nn, nn, nn, nn, nn, nn, nn, nn, nn, nn, nn]])
def P_X10_begin : List (List (List Nat)) := [[[],[],[377],[],[],[],[],[],[],[287],[],[],[514,515],[],[],[382]], [[],[],[],[],[],[284],[],[],[514,515],[],[],[385],[],[],[],[306]], [[],[],[],[],[388],[],[],[],[],[],[517,518],[],[],[],[308],[]], [[],[],[],[395],[],[],[],[],[517,518],[],[],[],[391],[],[],[]], [[520,521],[],[],[],[398],[],[],[],[],[520,521],[],[],[],[401],[],[]], [[],[520,521],[],[],[],[],[],[],[],[],[],[],[],[],[],[]]]
set_option maxRecDepth 100000 in
theorem kT_X10_begin : ab_okT M_X10_begin := ab_okT_of (P := P_X10_begin) 96 (Nat.le_of_ble_eq_true rfl) (fun pc h => ab_chkR_of (lo := 0) (len := 96) (by decide +kernel) pc (Nat.zero_le _) (by omega))
theorem kY_X10_begin : ab_okY M_X10_begin := ab_okY_of 513 114 (by decide +kernel)
def M_X10_copy : ab_M := (yX10_copy, cX10_copy, 2, none, 10, 1, [
  [oo (.aload_n 0) 1, oo (.aload_n 1) 2, of (.getfield 27) 5 10 0, nn, nn, of (.putfield 27) 8 10 0, nn, nn, oo (.aload_n 0) 9, oo (.aload_n 1) 10, of (.getfield 42) 13 10 1, nn, nn, of (.putfield 42) 16 10 1, nn, nn],
  [oo (.aload_n 0) 17, oo (.aload_n 1) 18, of (.getfield 46) 21 10 2, nn, nn, of (.putfield 46) 24 10 2, nn, nn, oo (.aload_n 1) 25, of (.getfield 9) 28 10 3, nn, nn, oo (.iconst 0) 29, oo (.aload_n 0) 30, of (.getfield 9) 33 10 3, nn],
  [nn, oo (.iconst 0) 34, oo (.bipush 32) 36, nn, om (.invokestatic 50) 39 0 arraycopyName, nn, nn, oo (.aload_n 1) 40, of (.getfield 15) 43 10 4, nn, nn, oo (.iconst 0) 44, oo (.aload_n 0) 45, of (.getfield 15) 48 10 4, nn, nn],
  [oo (.iconst 0) 49, oo (.bipush 32) 51, nn, om (.invokestatic 50) 54 0 arraycopyName, nn, nn, oo (.aload_n 1) 55, of (.getfield 18) 58 10 5, nn, nn, oo (.iconst 0) 59, oo (.aload_n 0) 60, of (.getfield 18) 63 10 5, nn, nn, oo (.iconst 0) 64],
  [oo (.iconst 4) 65, om (.invokestatic 50) 68 0 arraycopyName, nn, nn, oo (.aload_n 1) 69, of (.getfield 21) 72 10 6, nn, nn, oo (.iconst 0) 73, oo (.aload_n 0) 74, of (.getfield 21) 77 10 6, nn, nn, oo (.iconst 0) 78, oo (.iconst 4) 79, om (.invokestatic 50) 82 0 arraycopyName],
  [nn, nn, oo (.aload_n 1) 83, of (.getfield 24) 86 10 7, nn, nn, oo (.iconst 0) 87, oo (.aload_n 0) 88, of (.getfield 24) 91 10 7, nn, nn, oo (.iconst 0) 92, oo (.iconst 4) 93, om (.invokestatic 50) 96 0 arraycopyName, nn, nn],
  [oo .return_ 97, nn, nn, nn, nn, nn, nn, nn, nn, nn, nn, nn, nn, nn, nn, nn]])
def P_X10_copy : List (List (List Nat)) := [[[],[],[377],[],[],[377],[],[],[],[],[382],[],[],[382],[],[]], [[],[],[385],[],[],[385],[],[],[],[388],[],[],[],[],[388],[]], [[],[],[],[],[517,518],[],[],[],[391],[],[],[],[],[391],[],[]], [[],[],[],[517,518],[],[],[],[395],[],[],[],[],[395],[],[],[]], [[],[517,518],[],[],[],[398],[],[],[],[],[398],[],[],[],[],[517,518]], [[],[],[],[401],[],[],[],[],[401],[],[],[],[],[517,518],[],[]], [[],[],[],[],[],[],[],[],[],[],[],[],[],[],[],[]]]
set_option maxRecDepth 100000 in
theorem kT_X10_copy : ab_okT M_X10_copy := ab_okT_of (P := P_X10_copy) 112 (Nat.le_of_ble_eq_true rfl) (fun pc h => ab_chkR_of (lo := 0) (len := 112) (by decide +kernel) pc (Nat.zero_le _) (by omega))
theorem kY_X10_copy : ab_okY M_X10_copy := ab_okY_of 823 114 (by decide +kernel)
def M_X10_isLying : ab_M := (yX10_isLying, cX10_isLying, 2, (some .boolean), 10, 1, [
  [oo (.aload_n 0) 1, of (.getfield 9) 4 10 3, nn, nn, oo (.iload_n 1) 5, oo .iaload 6, oo (.bipush 80) 8, nn, oj (.if_icmp .ge 7) 11 15, nn, nn, oo (.iconst 1) 12, oj (.goto 4) 15 16, nn, nn, oo (.iconst 0) 16],
  [oo .ireturn 17, nn, nn, nn, nn, nn, nn, nn, nn, nn, nn, nn, nn, nn, nn, nn]])
def P_X10_isLying : List (List (List Nat)) := [[[],[388],[],[],[],[],[],[],[],[],[],[],[],[],[],[]], [[],[],[],[],[],[],[],[],[],[],[],[],[],[],[],[]]]
set_option maxRecDepth 100000 in
theorem kT_X10_isLying : ab_okT M_X10_isLying := ab_okT_of (P := P_X10_isLying) 32 (Nat.le_of_ble_eq_true rfl) (fun pc h => ab_chkR_of (lo := 0) (len := 32) (by decide +kernel) pc (Nat.zero_le _) (by omega))
theorem kY_X10_isLying : ab_okY M_X10_isLying := ab_okY_of 741 114 (by decide +kernel)
def M_X10_holder : ab_M := (yX10_holder, cX10_holder, 2, (some .int), 10, 1, [
  [oo (.aload_n 0) 1, of (.getfield 9) 4 10 3, nn, nn, oo (.iload_n 1) 5, oo .iaload 6, oo (.bipush 80) 8, nn, oj (.if_icmp .ge 8) 11 16, nn, nn, oo (.bipush (-2)) 13, nn, oj (.goto 12) 16 25, nn, nn],
  [oo (.aload_n 0) 17, of (.getfield 9) 20 10 3, nn, nn, oo (.iload_n 1) 21, oo .iaload 22, oo (.bipush 80) 24, nn, oo .isub 25, oo .ireturn 26, nn, nn, nn, nn, nn, nn]])
def P_X10_holder : List (List (List Nat)) := [[[],[388],[],[],[],[],[],[],[],[],[],[],[],[],[],[]], [[],[388],[],[],[],[],[],[],[],[],[],[],[],[],[],[]]]
set_option maxRecDepth 100000 in
theorem kT_X10_holder : ab_okT M_X10_holder := ab_okT_of (P := P_X10_holder) 32 (Nat.le_of_ble_eq_true rfl) (fun pc h => ab_chkR_of (lo := 0) (len := 32) (by decide +kernel) pc (Nat.zero_le _) (by omega))
theorem kY_X10_holder : ab_okY M_X10_holder := ab_okY_of 749 114 (by decide +kernel)
def M_X10_cellOf : ab_M := (yX10_cellOf, cX10_cellOf, 3, (some .int), 10, 1, [
  [oo (.aload_n 0) 1, oo (.iload_n 1) 2, om (.invokevirtual 65) 5 0 yX10_holder, nn, nn, oo (.istore_n 2) 6, oo (.iload_n 2) 7, oj (.ifCond .lt 17) 10 24, nn, nn, oo (.iload_n 2) 11, oo (.iconst 4) 12, oj (.if_icmp .ge 12) 15 24, nn, nn, oo (.aload_n 0) 16],
  [of (.getfield 18) 19 10 5, nn, nn, oo (.iload_n 2) 20, oo .iaload 21, oj (.goto 9) 24 30, nn, nn, oo (.aload_n 0) 25, of (.getfield 9) 28 10 3, nn, nn, oo (.iload_n 1) 29, oo .iaload 30, oo .ireturn 31, nn]])
def P_X10_cellOf : List (List (List Nat)) := [[[],[],[746,747,748],[],[],[],[],[],[],[],[],[],[],[],[],[]], [[395],[],[],[],[],[],[],[],[],[388],[],[],[],[],[],[]]]
set_option maxRecDepth 100000 in
theorem kT_X10_cellOf : ab_okT M_X10_cellOf := ab_okT_of (P := P_X10_cellOf) 32 (Nat.le_of_ble_eq_true rfl) (fun pc h => ab_chkR_of (lo := 0) (len := 32) (by decide +kernel) pc (Nat.zero_le _) (by omega))
theorem kY_X10_cellOf : ab_okY M_X10_cellOf := ab_okY_of 745 114 (by decide +kernel)
def M_X10_putInHat : ab_M := (yX10_putInHat, cX10_putInHat, 3, none, 10, 2, [
  [oo (.aload_n 0) 1, of (.getfield 9) 4 10 3, nn, nn, oo (.iload_n 1) 5, oo (.bipush 80) 7, nn, oo (.iload_n 2) 8, oo .iadd 9, oo .iastore 10, oo (.aload_n 0) 11, of (.getfield 15) 14 10 4, nn, nn, oo (.iload_n 1) 15, oo (.iconst 0) 16],
  [oo .iastore 17, oo (.aload_n 0) 18, of (.getfield 24) 21 10 7, nn, nn, oo (.iload_n 2) 22, oo .dup2 23, oo .iaload 24, oo (.iconst 1) 25, oo .iadd 26, oo .iastore 27, oo .return_ 28, nn, nn, nn, nn]])
def P_X10_putInHat : List (List (List Nat)) := [[[],[388],[],[],[],[],[],[],[],[],[],[391],[],[],[],[]], [[],[],[401],[],[],[],[],[],[],[],[],[],[],[],[],[]]]
set_option maxRecDepth 100000 in
theorem kT_X10_putInHat : ab_okT M_X10_putInHat := ab_okT_of (P := P_X10_putInHat) 32 (Nat.le_of_ble_eq_true rfl) (fun pc h => ab_chkR_of (lo := 0) (len := 32) (by decide +kernel) pc (Nat.zero_le _) (by omega))
theorem kY_X10_putInHat : ab_okY M_X10_putInHat := ab_okY_of 840 114 (by decide +kernel)
def M_X10_layDown : ab_M := (yX10_layDown, cX10_layDown, 3, none, 10, 1, [
  [oo (.aload_n 0) 1, oo (.iload_n 1) 2, om (.invokevirtual 65) 5 0 yX10_holder, nn, nn, oo (.istore_n 2) 6, oo (.iload_n 2) 7, oj (.ifCond .lt 37) 10 44, nn, nn, oo (.iload_n 2) 11, oo (.iconst 4) 12, oj (.if_icmp .ge 32) 15 44, nn, nn, oo (.aload_n 0) 16],
  [of (.getfield 24) 19 10 7, nn, nn, oo (.iload_n 2) 20, oo .dup2 21, oo .iaload 22, oo (.iconst 1) 23, oo .isub 24, oo .iastore 25, oo (.aload_n 0) 26, of (.getfield 9) 29 10 3, nn, nn, oo (.iload_n 1) 30, oo (.aload_n 0) 31, of (.getfield 18) 34 10 5],
  [nn, nn, oo (.iload_n 2) 35, oo .iaload 36, oo .iastore 37, oo (.aload_n 0) 38, of (.getfield 15) 41 10 4, nn, nn, oo (.iload_n 1) 42, oo (.iconst 0) 43, oo .iastore 44, oo .return_ 45, nn, nn, nn]])
def P_X10_layDown : List (List (List Nat)) := [[[],[],[746,747,748],[],[],[],[],[],[],[],[],[],[],[],[],[]], [[401],[],[],[],[],[],[],[],[],[],[388],[],[],[],[],[395]], [[],[],[],[],[],[],[391],[],[],[],[],[],[],[],[],[]]]
set_option maxRecDepth 100000 in
theorem kT_X10_layDown : ab_okT M_X10_layDown := ab_okT_of (P := P_X10_layDown) 48 (Nat.le_of_ble_eq_true rfl) (fun pc h => ab_chkR_of (lo := 0) (len := 48) (by decide +kernel) pc (Nat.zero_le _) (by omega))
theorem kY_X10_layDown : ab_okY M_X10_layDown := ab_okY_of 832 114 (by decide +kernel)
def M_X10_countLying : ab_M := (yX10_countLying, cX10_countLying, 3, (some .int), 10, 0, [
  [oo (.aload_n 0) 1, of (.getfield 42) 4 10 1, nn, nn, oo (.istore_n 1) 5, oo (.iconst 0) 6, oo (.istore_n 2) 7, oo (.iload_n 2) 8, oo (.aload_n 0) 9, of (.getfield 46) 12 10 2, nn, nn, oj (.if_icmp .ge 18) 15 30, nn, nn, oo (.iload_n 1) 16],
  [oo (.aload_n 0) 17, of (.getfield 24) 20 10 7, nn, nn, oo (.iload_n 2) 21, oo .iaload 22, oo .isub 23, oo (.istore_n 1) 24, oo (.iinc 2 1) 27, nn, nn, oj (.goto (-20)) 30 7, nn, nn, oo (.iload_n 1) 31, oo .ireturn 32]])
def P_X10_countLying : List (List (List Nat)) := [[[],[382],[],[],[],[],[],[],[],[385],[],[],[],[],[],[]], [[],[401],[],[],[],[],[],[],[],[],[],[],[],[],[],[]]]
set_option maxRecDepth 100000 in
theorem kT_X10_countLying : ab_okT M_X10_countLying := ab_okT_of (P := P_X10_countLying) 32 (Nat.le_of_ble_eq_true rfl) (fun pc h => ab_chkR_of (lo := 0) (len := 32) (by decide +kernel) pc (Nat.zero_le _) (by omega))
theorem kY_X10_countLying : ab_okY M_X10_countLying := ab_okY_of 1039 114 (by decide +kernel)
def M_X10_countAt : ab_M := (yX10_countAt, cX10_countAt, 4, (some .int), 10, 1, [
  [oo (.iconst 0) 1, oo (.istore_n 2) 2, oo (.iconst 0) 3, oo (.istore_n 3) 4, oo (.iload_n 3) 5, oo (.aload_n 0) 6, of (.getfield 42) 9 10 1, nn, nn, oj (.if_icmp .ge 22) 12 31, nn, nn, oo (.aload_n 0) 13, of (.getfield 9) 16 10 3, nn, nn],
  [oo (.iload_n 3) 17, oo .iaload 18, oo (.iload_n 1) 19, oj (.if_icmp .ne 6) 22 25, nn, nn, oo (.iinc 2 1) 25, nn, nn, oo (.iinc 3 1) 28, nn, nn, oj (.goto (-24)) 31 4, nn, nn, oo (.iload_n 2) 32],
  [oo .ireturn 33, nn, nn, nn, nn, nn, nn, nn, nn, nn, nn, nn, nn, nn, nn, nn]])
def P_X10_countAt : List (List (List Nat)) := [[[],[],[],[],[],[],[382],[],[],[],[],[],[],[388],[],[]], [[],[],[],[],[],[],[],[],[],[],[],[],[],[],[],[]], [[],[],[],[],[],[],[],[],[],[],[],[],[],[],[],[]]]
set_option maxRecDepth 100000 in
theorem kT_X10_countAt : ab_okT M_X10_countAt := ab_okT_of (P := P_X10_countAt) 48 (Nat.le_of_ble_eq_true rfl) (fun pc h => ab_chkR_of (lo := 0) (len := 48) (by decide +kernel) pc (Nat.zero_le _) (by omega))
theorem kY_X10_countAt : ab_okY M_X10_countAt := ab_okY_of 758 114 (by decide +kernel)
def M_X10_countAll : ab_M := (yX10_countAll, cX10_countAll, 4, none, 10, 1, [
  [oo (.aload_n 1) 1, oo (.iconst 0) 2, om (.invokestatic 59) 5 0 yJ7_fill_53178, nn, nn, oo (.iconst 0) 6, oo (.istore_n 2) 7, oo (.iload_n 2) 8, oo (.aload_n 0) 9, of (.getfield 42) 12 10 1, nn, nn, oj (.if_icmp .ge 39) 15 51, nn, nn, oo (.aload_n 0) 16],
  [of (.getfield 9) 19 10 3, nn, nn, oo (.iload_n 2) 20, oo .iaload 21, oo (.istore_n 3) 22, oo (.iload_n 3) 23, oj (.ifCond .lt 22) 26 45, nn, nn, oo (.iload_n 3) 27, oo (.bipush 80) 29, nn, oj (.if_icmp .ge 16) 32 45, nn, nn],
  [oo (.iload_n 3) 33, oo (.aload_n 1) 34, oo .arraylength 35, oj (.if_icmp .ge 10) 38 45, nn, nn, oo (.aload_n 1) 39, oo (.iload_n 3) 40, oo .dup2 41, oo .iaload 42, oo (.iconst 1) 43, oo .iadd 44, oo .iastore 45, oo (.iinc 2 1) 48, nn, nn],
  [oj (.goto (-41)) 51 7, nn, nn, oo .return_ 52, nn, nn, nn, nn, nn, nn, nn, nn, nn, nn, nn, nn]])
def P_X10_countAll : List (List (List Nat)) := [[[],[],[520,521],[],[],[],[],[],[],[382],[],[],[],[],[],[]], [[388],[],[],[],[],[],[],[],[],[],[],[],[],[],[],[]], [[],[],[],[],[],[],[],[],[],[],[],[],[],[],[],[]], [[],[],[],[],[],[],[],[],[],[],[],[],[],[],[],[]]]
set_option maxRecDepth 100000 in
theorem kT_X10_countAll : ab_okT M_X10_countAll := ab_okT_of (P := P_X10_countAll) 64 (Nat.le_of_ble_eq_true rfl) (fun pc h => ab_chkR_of (lo := 0) (len := 64) (by decide +kernel) pc (Nat.zero_le _) (by omega))
theorem kY_X10_countAll : ab_okY M_X10_countAll := ab_okY_of 881 114 (by decide +kernel)
def M_X10_countCells : ab_M := (yX10_countCells, cX10_countCells, 7, (some .int), 10, 1, [
  [oo (.aload_n 0) 1, oo (.aload_n 1) 2, om (.invokevirtual 69) 5 0 yX10_countAll, nn, nn, oo (.iconst 0) 6, oo (.istore_n 2) 7, oo (.aload_n 1) 8, oo (.astore_n 3) 9, oo (.aload_n 3) 10, oo .arraylength 11, oo (.istore 4) 13, nn, oo (.iconst 0) 14, oo (.istore 5) 16, nn],
  [oo (.iload 5) 18, nn, oo (.iload 4) 20, nn, oj (.if_icmp .ge 23) 23 43, nn, nn, oo (.aload_n 3) 24, oo (.iload 5) 26, nn, oo .iaload 27, oo (.istore 6) 29, nn, oo (.iload 6) 31, nn, oj (.ifCond .le 6) 34 37],
  [nn, nn, oo (.iinc 2 1) 37, nn, nn, oo (.iinc 5 1) 40, nn, nn, oj (.goto (-24)) 43 16, nn, nn, oo (.iload_n 2) 44, oo .ireturn 45, nn, nn, nn]])
def P_X10_countCells : List (List (List Nat)) := [[[],[],[1107,879,880],[],[],[],[],[],[],[],[],[],[],[],[],[]], [[],[],[],[],[],[],[],[],[],[],[],[],[],[],[],[]], [[],[],[],[],[],[],[],[],[],[],[],[],[],[],[],[]]]
set_option maxRecDepth 100000 in
theorem kT_X10_countCells : ab_okT M_X10_countCells := ab_okT_of (P := P_X10_countCells) 48 (Nat.le_of_ble_eq_true rfl) (fun pc h => ab_chkR_of (lo := 0) (len := 48) (by decide +kernel) pc (Nat.zero_le _) (by omega))
theorem kY_X10_countCells : ab_okY M_X10_countCells := ab_okY_of 1106 114 (by decide +kernel)
