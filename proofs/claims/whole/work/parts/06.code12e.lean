def M_X12_lawTells : ab_M := (yX12_lawTells, cX12_lawTells, 7, (some .int), 12, 2, [
  [oo (.iconst 3) 1, oo (.aload_n 0) 2, of (.getfield 239) 5 12 18, nn, nn, oo .imul 6, oo (.iload_n 1) 7, oo .iadd 8, oo (.istore_n 3) 9, oo (.aload_n 0) 10, of (.getfield 82) 13 12 34, nn, nn, oo (.iload_n 3) 14, oo .iaload 15, oo (.aload_n 0) 16],
  [of (.getfield 85) 19 12 35, nn, nn, oo (.iload_n 3) 20, oo .iaload 21, oj (.if_icmp .ne 5) 24 26, nn, nn, oo (.iload_n 2) 25, oo .ireturn 26, oo (.aload_n 0) 27, oo (.iconst 0) 28, of (.putfield 313) 31 12 49, nn, nn, oo (.aload_n 0) 32],
  [of (.getfield 82) 35 12 34, nn, nn, oo (.iload_n 3) 36, oo .iaload 37, oo (.istore 4) 39, nn, oo (.iload 4) 41, nn, oo (.aload_n 0) 42, of (.getfield 85) 45 12 35, nn, nn, oo (.iload_n 3) 46, oo .iaload 47, oj (.if_icmp .ge 112) 50 159],
  [nn, nn, oo (.aload_n 0) 51, of (.getfield 88) 54 12 37, nn, nn, oo (.iload 4) 56, nn, oo .baload 57, oj (.ifCond .eq 62) 60 119, nn, nn, oo (.aload_n 0) 61, oo (.aload_n 0) 62, of (.getfield 92) 65 12 38, nn],
  [nn, oo (.iload 4) 67, nn, oo .iaload 68, oo (.aload_n 0) 69, of (.getfield 95) 72 12 39, nn, nn, oo (.iload 4) 74, nn, oo .iaload 75, om (.invokevirtual 354) 78 0 yX12_termOf, nn, nn, oo (.istore 5) 80, nn],
  [oo (.aload_n 0) 81, oo (.aload_n 0) 82, of (.getfield 95) 85 12 39, nn, nn, oo (.iload 4) 87, nn, oo .iaload 88, oo (.aload_n 0) 89, of (.getfield 98) 92 12 40, nn, nn, oo (.iload 4) 94, nn, oo .iaload 95, om (.invokevirtual 354) 98 0 yX12_termOf],
  [nn, nn, oo (.istore 6) 100, nn, oo (.aload_n 0) 101, of (.getfield 313) 104 12 49, nn, nn, oj (.ifCond .eq 5) 107 109, nn, nn, oo (.iconst 0) 108, oo .ireturn 109, oo (.iload 5) 111, nn, oo (.iload 6) 113],
  [nn, oj (.if_icmp .lt 6) 116 119, nn, nn, oj (.goto 37) 119 153, nn, nn, oo (.aload_n 0) 120, oo (.aload_n 0) 121, of (.getfield 98) 124 12 40, nn, nn, oo (.iload 4) 126, nn, oo .iaload 127, oo (.aload_n 0) 128],
  [of (.getfield 101) 131 12 41, nn, nn, oo (.iload 4) 133, nn, oo .iaload 134, om (.invokevirtual 354) 137 0 yX12_termOf, nn, nn, oo (.istore 5) 139, nn, oo (.aload_n 0) 140, of (.getfield 313) 143 12 49, nn, nn, oj (.ifCond .eq 7) 146 150],
  [nn, nn, oo (.iconst 0) 147, oj (.goto 5) 150 152, nn, nn, oo (.iload 5) 152, nn, oo .ireturn 153, oo (.iinc 4 1) 156, nn, nn, oj (.goto (-117)) 159 39, nn, nn, oo (.iconst 0) 160],
  [oo .ireturn 161, nn, nn, nn, nn, nn, nn, nn, nn, nn, nn, nn, nn, nn, nn, nn]])
def P_X12_lawTells : List (List (List Nat)) := [[[],[],[1169],[],[],[],[],[],[],[],[1185],[],[],[],[],[]], [[1186],[],[],[],[],[],[],[],[],[],[],[],[1200],[],[],[]], [[1185],[],[],[],[],[],[],[],[],[],[1186],[],[],[],[],[]], [[],[],[],[1188],[],[],[],[],[],[],[],[],[],[],[1189],[]], [[],[],[],[],[],[1190],[],[],[],[],[],[1532,1534,75],[],[],[],[]], [[],[],[1190],[],[],[],[],[],[],[1191],[],[],[],[],[],[1532,1534,75]], [[],[],[],[],[],[1200],[],[],[],[],[],[],[],[],[],[]], [[],[],[],[],[],[],[],[],[],[1191],[],[],[],[],[],[]], [[1192],[],[],[],[],[],[1532,1534,75],[],[],[],[],[],[1200],[],[],[]], [[],[],[],[],[],[],[],[],[],[],[],[],[],[],[],[]], [[],[],[],[],[],[],[],[],[],[],[],[],[],[],[],[]]]
set_option maxRecDepth 100000 in
theorem kT_X12_lawTells : ab_okT M_X12_lawTells := ab_okT_of (P := P_X12_lawTells) 176 (Nat.le_of_ble_eq_true rfl) (fun pc h => ab_chkR_of (lo := 0) (len := 176) (by decide +kernel) pc (Nat.zero_le _) (by omega))
theorem kY_X12_lawTells : ab_okY M_X12_lawTells := ab_okY_of 1531 124 (by decide +kernel)
def M_X12_looksAt : ab_M := (yX12_looksAt, cX12_looksAt, 2, none, 12, 1, [
  [oo (.aload_n 0) 1, om (.invokevirtual 357) 4 0 yX12_looks, nn, nn, oo (.aload_n 0) 5, of (.getfield 113) 8 12 47, nn, nn, oo (.iconst 0) 9, oo (.aload_n 0) 10, of (.getfield 125) 13 12 55, nn, nn, oo (.iload_n 1) 14, oo .iaload 15, oo .iastore 16],
  [oo (.aload_n 0) 17, of (.getfield 113) 20 12 47, nn, nn, oo (.iconst 1) 21, oo (.aload_n 0) 22, of (.getfield 122) 25 12 51, nn, nn, oo (.iload_n 1) 26, oo .iaload 27, oo .iastore 28, oo (.aload_n 0) 29, of (.getfield 113) 32 12 47, nn, nn],
  [oo (.iconst 2) 33, oo (.aload_n 0) 34, of (.getfield 122) 37 12 51, nn, nn, oo (.bipush 32) 39, nn, oo (.iload_n 1) 40, oo .iadd 41, oo .iaload 42, oo .iastore 43, oo (.aload_n 0) 44, of (.getfield 113) 47 12 47, nn, nn, oo (.iconst 4) 48],
  [oo (.aload_n 0) 49, of (.getfield 122) 52 12 51, nn, nn, oo (.bipush 96) 54, nn, oo (.iload_n 1) 55, oo .iadd 56, oo .iaload 57, oo .iastore 58, oo (.aload_n 0) 59, of (.getfield 113) 62 12 47, nn, nn, oo (.bipush 7) 64, nn],
  [oo (.aload_n 0) 65, oo (.aload_n 0) 66, oo (.iload_n 1) 67, om (.invokevirtual 351) 70 0 yX12_cellOf, nn, nn, om (.invokevirtual 360) 73 0 yX12_lieAt, nn, nn, oo .iastore 74, oo (.aload_n 0) 75, of (.getfield 113) 78 12 47, nn, nn, oo (.bipush 8) 80, nn],
  [oo (.iload_n 1) 81, oo .iastore 82, oo .return_ 83, nn, nn, nn, nn, nn, nn, nn, nn, nn, nn, nn, nn, nn]])
def P_X12_looksAt : List (List (List Nat)) := [[[],[1516,1518,71],[],[],[],[1198],[],[],[],[],[1206],[],[],[],[],[]], [[],[1198],[],[],[],[],[1202],[],[],[],[],[],[],[1198],[],[]], [[],[],[1202],[],[],[],[],[],[],[],[],[],[1198],[],[],[]], [[],[1202],[],[],[],[],[],[],[],[],[],[1198],[],[],[],[]], [[],[],[],[1520,1522,72],[],[],[1524,1526,73],[],[],[],[],[1198],[],[],[],[]], [[],[],[],[],[],[],[],[],[],[],[],[],[],[],[],[]]]
set_option maxRecDepth 100000 in
theorem kT_X12_looksAt : ab_okT M_X12_looksAt := ab_okT_of (P := P_X12_looksAt) 96 (Nat.le_of_ble_eq_true rfl) (fun pc h => ab_chkR_of (lo := 0) (len := 96) (by decide +kernel) pc (Nat.zero_le _) (by omega))
theorem kY_X12_looksAt : ab_okY M_X12_looksAt := ab_okY_of 1515 124 (by decide +kernel)
def M_X12_isBlown : ab_M := (yX12_isBlown, cX12_isBlown, 2, (some .boolean), 12, 1, [
  [oo (.aload_n 0) 1, oo (.iload_n 1) 2, om (.invokevirtual 363) 5 0 yX12_looksAt, nn, nn, oo (.aload_n 0) 6, oo (.iconst 0) 7, oo (.iconst 0) 8, om (.invokevirtual 366) 11 0 yX12_lawTells, nn, nn, oj (.ifCond .le 7) 14 18, nn, nn, oo (.iconst 1) 15, oj (.goto 4) 18 19],
  [nn, nn, oo (.iconst 0) 19, oo .ireturn 20, nn, nn, nn, nn, nn, nn, nn, nn, nn, nn, nn, nn]])
def P_X12_isBlown : List (List (List Nat)) := [[[],[],[1512,1514,70],[],[],[],[],[],[1528,1530,74],[],[],[],[],[],[],[]], [[],[],[],[],[],[],[],[],[],[],[],[],[],[],[],[]]]
set_option maxRecDepth 100000 in
theorem kT_X12_isBlown : ab_okT M_X12_isBlown := ab_okT_of (P := P_X12_isBlown) 32 (Nat.le_of_ble_eq_true rfl) (fun pc h => ab_chkR_of (lo := 0) (len := 32) (by decide +kernel) pc (Nat.zero_le _) (by omega))
theorem kY_X12_isBlown : ab_okY M_X12_isBlown := ab_okY_of 1511 124 (by decide +kernel)
def M_X12_takesOf : ab_M := (yX12_takesOf, cX12_takesOf, 2, (some .int), 12, 1, [
  [oo (.aload_n 0) 1, oo (.iload_n 1) 2, om (.invokevirtual 363) 5 0 yX12_looksAt, nn, nn, oo (.aload_n 0) 6, oo (.iconst 1) 7, oo (.iconst 1) 8, om (.invokevirtual 366) 11 0 yX12_lawTells, nn, nn, oo (.iconst 0) 12, oo (.bipush 99) 14, nn, om (.invokestatic 369) 17 0 yX12_within, nn],
  [nn, oo .ireturn 18, nn, nn, nn, nn, nn, nn, nn, nn, nn, nn, nn, nn, nn, nn]])
def P_X12_takesOf : List (List (List Nat)) := [[[],[],[1512,1514,70],[],[],[],[],[],[1528,1530,74],[],[],[],[],[],[1540,1541],[]], [[],[],[],[],[],[],[],[],[],[],[],[],[],[],[],[]]]
set_option maxRecDepth 100000 in
theorem kT_X12_takesOf : ab_okT M_X12_takesOf := ab_okT_of (P := P_X12_takesOf) 32 (Nat.le_of_ble_eq_true rfl) (fun pc h => ab_chkR_of (lo := 0) (len := 32) (by decide +kernel) pc (Nat.zero_le _) (by omega))
theorem kY_X12_takesOf : ab_okY M_X12_takesOf := ab_okY_of 1539 124 (by decide +kernel)
def M_X12_paysOf : ab_M := (yX12_paysOf, cX12_paysOf, 3, (some .int), 12, 2, [
  [oo (.aload_n 0) 1, om (.invokevirtual 357) 4 0 yX12_looks, nn, nn, oo (.aload_n 0) 5, of (.getfield 113) 8 12 47, nn, nn, oo (.iconst 0) 9, oo (.aload_n 0) 10, of (.getfield 125) 13 12 55, nn, nn, oo (.iload_n 2) 14, oo .iaload 15, oo .iastore 16],
  [oo (.aload_n 0) 17, of (.getfield 113) 20 12 47, nn, nn, oo (.iconst 5) 21, oo (.aload_n 0) 22, of (.getfield 70) 25 12 30, nn, nn, oo (.iconst 4) 26, oo (.aload_n 0) 27, of (.getfield 239) 30 12 18, nn, nn, oo .imul 31, oo (.iload_n 1) 32],
  [oo .iadd 33, oo .iaload 34, oo .iastore 35, oo (.aload_n 0) 36, of (.getfield 113) 39 12 47, nn, nn, oo (.bipush 6) 41, nn, oo (.aload_n 0) 42, oo (.iload_n 1) 43, om (.invokevirtual 372) 46 0 yX12_inHat, nn, nn, oo .iastore 47, oo (.aload_n 0) 48],
  [of (.getfield 113) 51 12 47, nn, nn, oo (.bipush 8) 53, nn, oo (.iload_n 1) 54, oo .iastore 55, oo (.aload_n 0) 56, oo (.iconst 2) 57, oo (.iconst 1) 58, om (.invokevirtual 366) 61 0 yX12_lawTells, nn, nn, oo (.iconst 0) 62, oo (.bipush 99) 64, nn],
  [om (.invokestatic 369) 67 0 yX12_within, nn, nn, oo .ireturn 68, nn, nn, nn, nn, nn, nn, nn, nn, nn, nn, nn, nn]])
def P_X12_paysOf : List (List (List Nat)) := [[[],[1516,1518,71],[],[],[],[1198],[],[],[],[],[1206],[],[],[],[],[]], [[],[1198],[],[],[],[],[1181],[],[],[],[],[1169],[],[],[],[]], [[],[],[],[],[1198],[],[],[],[],[],[],[1551,1553,78],[],[],[],[]], [[1198],[],[],[],[],[],[],[],[],[],[1528,1530,74],[],[],[],[],[]], [[1540,1541],[],[],[],[],[],[],[],[],[],[],[],[],[],[],[]]]
set_option maxRecDepth 100000 in
theorem kT_X12_paysOf : ab_okT M_X12_paysOf := ab_okT_of (P := P_X12_paysOf) 80 (Nat.le_of_ble_eq_true rfl) (fun pc h => ab_chkR_of (lo := 0) (len := 80) (by decide +kernel) pc (Nat.zero_le _) (by omega))
theorem kY_X12_paysOf : ab_okY M_X12_paysOf := ab_okY_of 1562 124 (by decide +kernel)
def M_X12_owedTo : ab_M := (yX12_owedTo, cX12_owedTo, 4, (some .int), 12, 1, [
  [oo (.iconst 0) 1, oo (.istore_n 2) 2, oo (.iconst 0) 3, oo (.istore_n 3) 4, oo (.iload_n 3) 5, oo (.aload_n 0) 6, of (.getfield 324) 9 12 54, nn, nn, oj (.if_icmp .ge 31) 12 40, nn, nn, oo (.aload_n 0) 13, of (.getfield 122) 16 12 51, nn, nn],
  [oo (.bipush 64) 18, nn, oo (.iload_n 3) 19, oo .iadd 20, oo .iaload 21, oo (.iload_n 1) 22, oj (.if_icmp .ne 12) 25 34, nn, nn, oo (.iload_n 2) 26, oo (.aload_n 0) 27, oo (.iload_n 1) 28, oo (.iload_n 3) 29, om (.invokevirtual 375) 32 0 yX12_paysOf, nn, nn],
  [oo .iadd 33, oo (.istore_n 2) 34, oo (.iinc 3 1) 37, nn, nn, oj (.goto (-33)) 40 4, nn, nn, oo (.iload_n 2) 41, oo .ireturn 42, nn, nn, nn, nn, nn, nn]])
def P_X12_owedTo : List (List (List Nat)) := [[[],[],[],[],[],[],[1205],[],[],[],[],[],[],[1202],[],[]], [[],[],[],[],[],[],[],[],[],[],[],[],[],[1559,1561,80],[],[]], [[],[],[],[],[],[],[],[],[],[],[],[],[],[],[],[]]]
set_option maxRecDepth 100000 in
theorem kT_X12_owedTo : ab_okT M_X12_owedTo := ab_okT_of (P := P_X12_owedTo) 48 (Nat.le_of_ble_eq_true rfl) (fun pc h => ab_chkR_of (lo := 0) (len := 48) (by decide +kernel) pc (Nat.zero_le _) (by omega))
theorem kY_X12_owedTo : ab_okY M_X12_owedTo := ab_okY_of 1558 124 (by decide +kernel)
def M_X12_pickerGoes : ab_M := (yX12_pickerGoes, cX12_pickerGoes, 3, none, 12, 1, [
  [oo (.aload_n 0) 1, of (.getfield 122) 4 12 51, nn, nn, oo (.sipush 136) 7, nn, nn, oo (.iload_n 1) 8, oo .iadd 9, oo .iaload 10, oo (.istore_n 2) 11, oo (.iload_n 2) 12, oj (.ifCond .ge 4) 15 16, nn, nn, oo .return_ 16],
  [oo (.aload_n 0) 17, of (.getfield 122) 20 12 51, nn, nn, oo (.sipush 128) 23, nn, nn, oo (.iload_n 1) 24, oo .iadd 25, oo .iaload 26, oo (.iload_n 2) 27, oo (.bipush 10) 29, nn, oo .irem 30, oj (.if_icmp .eq 41) 33 71, nn],
  [nn, oo (.aload_n 0) 34, of (.getfield 122) 37 12 51, nn, nn, oo (.sipush 128) 40, nn, nn, oo (.iload_n 1) 41, oo .iadd 42, oo .dup2 43, oo .iaload 44, oo (.aload_n 0) 45, of (.getfield 122) 48 12 51, nn, nn],
  [oo (.sipush 128) 51, nn, nn, oo (.iload_n 1) 52, oo .iadd 53, oo .iaload 54, oo (.iload_n 2) 55, oo (.bipush 10) 57, nn, oo .irem 58, oj (.if_icmp .ge 7) 61 65, nn, nn, oo (.iconst 1) 62, oj (.goto 4) 65 66, nn],
  [nn, oo (.iconst (-1)) 66, oo .iadd 67, oo .iastore 68, oj (.goto 55) 71 123, nn, nn, oo (.aload_n 0) 72, of (.getfield 122) 75 12 51, nn, nn, oo (.sipush 132) 78, nn, nn, oo (.iload_n 1) 79, oo .iadd 80],
  [oo .iaload 81, oo (.iload_n 2) 82, oo (.bipush 10) 84, nn, oo .idiv 85, oj (.if_icmp .eq 38) 88 123, nn, nn, oo (.aload_n 0) 89, of (.getfield 122) 92 12 51, nn, nn, oo (.sipush 132) 95, nn, nn, oo (.iload_n 1) 96],
  [oo .iadd 97, oo .dup2 98, oo .iaload 99, oo (.aload_n 0) 100, of (.getfield 122) 103 12 51, nn, nn, oo (.sipush 132) 106, nn, nn, oo (.iload_n 1) 107, oo .iadd 108, oo .iaload 109, oo (.iload_n 2) 110, oo (.bipush 10) 112, nn],
  [oo .idiv 113, oj (.if_icmp .ge 7) 116 120, nn, nn, oo (.iconst 1) 117, oj (.goto 4) 120 121, nn, nn, oo (.iconst (-1)) 121, oo .iadd 122, oo .iastore 123, oo (.aload_n 0) 124, oo (.iload_n 1) 125, om (.invokevirtual 378) 128 0 yX12_cellOfPicker, nn, nn],
  [oo (.iload_n 2) 129, oj (.if_icmp .ne 15) 132 144, nn, nn, oo (.aload_n 0) 133, of (.getfield 122) 136 12 51, nn, nn, oo (.sipush 136) 139, nn, nn, oo (.iload_n 1) 140, oo .iadd 141, oo (.bipush (-2)) 143, nn, oo .iastore 144],
  [oo .return_ 145, nn, nn, nn, nn, nn, nn, nn, nn, nn, nn, nn, nn, nn, nn, nn]])
def P_X12_pickerGoes : List (List (List Nat)) := [[[],[1202],[],[],[],[],[],[],[],[],[],[],[],[],[],[]], [[],[1202],[],[],[],[],[],[],[],[],[],[],[],[],[],[]], [[],[],[1202],[],[],[],[],[],[],[],[],[],[],[1202],[],[]], [[],[],[],[],[],[],[],[],[],[],[],[],[],[],[],[]], [[],[],[],[],[],[],[],[],[1202],[],[],[],[],[],[],[]], [[],[],[],[],[],[],[],[],[],[1202],[],[],[],[],[],[]], [[],[],[],[],[1202],[],[],[],[],[],[],[],[],[],[],[]], [[],[],[],[],[],[],[],[],[],[],[],[],[],[1609,1611,86],[],[]], [[],[],[],[],[],[1202],[],[],[],[],[],[],[],[],[],[]], [[],[],[],[],[],[],[],[],[],[],[],[],[],[],[],[]]]
set_option maxRecDepth 100000 in
theorem kT_X12_pickerGoes : ab_okT M_X12_pickerGoes := ab_okT_of (P := P_X12_pickerGoes) 160 (Nat.le_of_ble_eq_true rfl) (fun pc h => ab_chkR_of (lo := 0) (len := 160) (by decide +kernel) pc (Nat.zero_le _) (by omega))
theorem kY_X12_pickerGoes : ab_okY M_X12_pickerGoes := ab_okY_of 1608 124 (by decide +kernel)
def M_X12_picksUp : ab_M := (yX12_picksUp, cX12_picksUp, 4, none, 12, 1, [
  [oo (.aload_n 0) 1, oo (.iload_n 1) 2, om (.invokevirtual 372) 5 0 yX12_inHat, nn, nn, oo (.istore_n 2) 6, oo (.iconst 0) 7, oo (.istore_n 3) 8, oo (.iload_n 3) 9, oo (.aload_n 0) 10, of (.getfield 324) 13 12 54, nn, nn, oj (.if_icmp .ge 73) 16 86, nn, nn],
  [oo (.iload_n 2) 17, oo (.aload_n 0) 18, of (.getfield 70) 21 12 30, nn, nn, oo (.iconst 4) 22, oo (.aload_n 0) 23, of (.getfield 239) 26 12 18, nn, nn, oo .imul 27, oo (.iload_n 1) 28, oo .iadd 29, oo .iaload 30, oj (.if_icmp .ge 56) 33 86, nn],
  [nn, oo (.aload_n 0) 34, oo (.iload_n 3) 35, om (.invokevirtual 348) 38 0 yX12_doesLie, nn, nn, oj (.ifCond .eq 42) 41 80, nn, nn, oo (.aload_n 0) 42, oo (.iload_n 3) 43, om (.invokevirtual 351) 46 0 yX12_cellOf, nn, nn, oo (.aload_n 0) 47, oo (.iload_n 1) 48],
  [om (.invokevirtual 378) 51 0 yX12_cellOfPicker, nn, nn, oj (.if_icmp .eq 6) 54 57, nn, nn, oj (.goto 26) 57 80, nn, nn, oo (.aload_n 0) 58, of (.getfield 122) 61 12 51, nn, nn, oo (.bipush 64) 63, nn, oo (.iload_n 3) 64],
  [oo .iadd 65, oo (.iload_n 1) 66, oo .iastore 67, oo (.aload_n 0) 68, of (.getfield 122) 71 12 51, nn, nn, oo (.bipush 96) 73, nn, oo (.iload_n 3) 74, oo .iadd 75, oo (.iconst 0) 76, oo .iastore 77, oo (.iinc 2 1) 80, nn, nn],
  [oo (.iinc 3 1) 83, nn, nn, oj (.goto (-75)) 86 8, nn, nn, oo .return_ 87, nn, nn, nn, nn, nn, nn, nn, nn, nn]])
def P_X12_picksUp : List (List (List Nat)) := [[[],[],[1551,1553,78],[],[],[],[],[],[],[],[1205],[],[],[],[],[]], [[],[],[1181],[],[],[],[],[1169],[],[],[],[],[],[],[],[]], [[],[],[],[1500,1502,67],[],[],[],[],[],[],[],[1520,1522,72],[],[],[],[]], [[1609,1611,86],[],[],[],[],[],[],[],[],[],[1202],[],[],[],[],[]], [[],[],[],[],[1202],[],[],[],[],[],[],[],[],[],[],[]], [[],[],[],[],[],[],[],[],[],[],[],[],[],[],[],[]]]
set_option maxRecDepth 100000 in
theorem kT_X12_picksUp : ab_okT M_X12_picksUp := ab_okT_of (P := P_X12_picksUp) 96 (Nat.le_of_ble_eq_true rfl) (fun pc h => ab_chkR_of (lo := 0) (len := 96) (by decide +kernel) pc (Nat.zero_le _) (by omega))
theorem kY_X12_picksUp : ab_okY M_X12_picksUp := ab_okY_of 1616 124 (by decide +kernel)
def M_X12_blows : ab_M := (yX12_blows, cX12_blows, 3, none, 12, 0, [
  [oo (.aload_n 0) 1, of (.getfield 338) 4 12 53, nn, nn, oj (.ifCond .ne 10) 7 14, nn, nn, oo (.aload_n 0) 8, om (.invokevirtual 381) 11 0 yX12_isRain, nn, nn, oj (.ifCond .ne 7) 14 18, nn, nn, oo (.iconst 1) 15, oj (.goto 4) 18 19],
  [nn, nn, oo (.iconst 0) 19, oo (.istore_n 1) 20, oo (.iconst 0) 21, oo (.istore_n 2) 22, oo (.iload_n 2) 23, oo (.aload_n 0) 24, of (.getfield 324) 27 12 54, nn, nn, oj (.if_icmp .ge 40) 30 67, nn, nn, oo (.aload_n 0) 31, of (.getfield 131) 34 12 57],
  [nn, nn, oo (.iload_n 2) 35, oo (.iload_n 1) 36, oj (.ifCond .eq 23) 39 59, nn, nn, oo (.aload_n 0) 40, oo (.iload_n 2) 41, om (.invokevirtual 348) 44 0 yX12_doesLie, nn, nn, oj (.ifCond .eq 15) 47 59, nn, nn, oo (.aload_n 0) 48],
  [oo (.iload_n 2) 49, om (.invokevirtual 385) 52 0 yX12_isBlown, nn, nn, oj (.ifCond .eq 7) 55 59, nn, nn, oo (.iconst 1) 56, oj (.goto 4) 59 60, nn, nn, oo (.iconst 0) 60, oo .bastore 61, oo (.iinc 2 1) 64, nn, nn],
  [oj (.goto (-42)) 67 22, nn, nn, oo (.iconst 0) 68, oo (.istore_n 2) 69, oo (.iload_n 2) 70, oo (.aload_n 0) 71, of (.getfield 324) 74 12 54, nn, nn, oj (.if_icmp .ge 137) 77 211, nn, nn, oo (.aload_n 0) 78, oo (.iload_n 2) 79, om (.invokevirtual 348) 82 0 yX12_doesLie],
  [nn, nn, oj (.ifCond .ne 6) 85 88, nn, nn, oj (.goto 120) 88 205, nn, nn, oo (.aload_n 0) 89, of (.getfield 131) 92 12 57, nn, nn, oo (.iload_n 2) 93, oo .baload 94, oj (.ifCond .eq 84) 97 178, nn],
  [nn, oo (.aload_n 0) 98, of (.getfield 122) 101 12 51, nn, nn, oo (.iload_n 2) 102, oo (.aload_n 0) 103, of (.getfield 122) 106 12 51, nn, nn, oo (.iload_n 2) 107, oo .iaload 108, oo (.aload_n 0) 109, of (.getfield 73) 112 12 31, nn, nn],
  [oo (.iconst 2) 113, oo (.aload_n 0) 114, of (.getfield 239) 117 12 18, nn, nn, oo .imul 118, oo .iaload 119, oo .iadd 120, oo (.iconst 0) 121, oo (.bipush 9) 123, nn, om (.invokestatic 369) 126 0 yX12_within, nn, nn, oo .iastore 127, oo (.aload_n 0) 128],
  [of (.getfield 122) 131 12 51, nn, nn, oo (.bipush 32) 133, nn, oo (.iload_n 2) 134, oo .iadd 135, oo (.aload_n 0) 136, of (.getfield 122) 139 12 51, nn, nn, oo (.bipush 32) 141, nn, oo (.iload_n 2) 142, oo .iadd 143, oo .iaload 144],
  [oo (.aload_n 0) 145, of (.getfield 73) 148 12 31, nn, nn, oo (.iconst 2) 149, oo (.aload_n 0) 150, of (.getfield 239) 153 12 18, nn, nn, oo .imul 154, oo (.iconst 1) 155, oo .iadd 156, oo .iaload 157, oo .iadd 158, oo (.iconst 0) 159, oo (.bipush 7) 161],
  [nn, om (.invokestatic 369) 164 0 yX12_within, nn, nn, oo .iastore 165, oo (.aload_n 0) 166, of (.getfield 122) 169 12 51, nn, nn, oo (.bipush 96) 171, nn, oo (.iload_n 2) 172, oo .iadd 173, oo (.iconst 0) 174, oo .iastore 175, oj (.goto 30) 178 205],
  [nn, nn, oo (.aload_n 0) 179, of (.getfield 122) 182 12 51, nn, nn, oo (.bipush 96) 184, nn, oo (.iload_n 2) 185, oo .iadd 186, oo (.aload_n 0) 187, of (.getfield 122) 190 12 51, nn, nn, oo (.bipush 96) 192, nn],
  [oo (.iload_n 2) 193, oo .iadd 194, oo .iaload 195, oo (.iconst 1) 196, oo .iadd 197, oo (.iconst 0) 198, oo (.sipush 999) 201, nn, nn, om (.invokestatic 369) 204 0 yX12_within, nn, nn, oo .iastore 205, oo (.iinc 2 1) 208, nn, nn],
  [oj (.goto (-139)) 211 69, nn, nn, oo .return_ 212, nn, nn, nn, nn, nn, nn, nn, nn, nn, nn, nn, nn]])
def P_X12_blows : List (List (List Nat)) := [[[],[1204],[],[],[],[],[],[],[1621,1623,89],[],[],[],[],[],[],[]], [[],[],[],[],[],[],[],[],[1205],[],[],[],[],[],[],[1208]], [[],[],[],[],[],[],[],[],[],[1500,1502,67],[],[],[],[],[],[]], [[],[1508,1510,69],[],[],[],[],[],[],[],[],[],[],[],[],[],[]], [[],[],[],[],[],[],[],[1205],[],[],[],[],[],[],[],[1500,1502,67]], [[],[],[],[],[],[],[],[],[],[1208],[],[],[],[],[],[]], [[],[],[1202],[],[],[],[],[1202],[],[],[],[],[],[1182],[],[]], [[],[],[1169],[],[],[],[],[],[],[],[],[1540,1541],[],[],[],[]], [[1202],[],[],[],[],[],[],[],[1202],[],[],[],[],[],[],[]], [[],[1182],[],[],[],[],[1169],[],[],[],[],[],[],[],[],[]], [[],[1540,1541],[],[],[],[],[1202],[],[],[],[],[],[],[],[],[]], [[],[],[],[1202],[],[],[],[],[],[],[],[1202],[],[],[],[]], [[],[],[],[],[],[],[],[],[],[1540,1541],[],[],[],[],[],[]], [[],[],[],[],[],[],[],[],[],[],[],[],[],[],[],[]]]
set_option maxRecDepth 100000 in
theorem kT_X12_blows : ab_okT M_X12_blows := ab_okT_of (P := P_X12_blows) 224 (Nat.le_of_ble_eq_true rfl) (fun pc h => ab_chkR_of (lo := 0) (len := 224) (by decide +kernel) pc (Nat.zero_le _) (by omega))
theorem kY_X12_blows : ab_okY M_X12_blows := ab_okY_of 1620 124 (by decide +kernel)
def M_X12_hourGoes : ab_M := (yX12_hourGoes, cX12_hourGoes, 2, none, 12, 0, [
  [oo (.iconst 0) 1, oo (.istore_n 1) 2, oo (.iload_n 1) 3, oo (.aload_n 0) 4, of (.getfield 58) 7 12 26, nn, nn, oo (.aload_n 0) 8, of (.getfield 239) 11 12 18, nn, nn, oo .iaload 12, oj (.if_icmp .ge 14) 15 26, nn, nn, oo (.aload_n 0) 16],
  [oo (.iload_n 1) 17, om (.invokevirtual 388) 20 0 yX12_pickerGoes, nn, nn, oo (.iinc 1 1) 23, nn, nn, oj (.goto (-21)) 26 2, nn, nn, oo (.iconst 0) 27, oo (.istore_n 1) 28, oo (.iload_n 1) 29, oo (.aload_n 0) 30, of (.getfield 58) 33 12 26, nn],
  [nn, oo (.aload_n 0) 34, of (.getfield 239) 37 12 18, nn, nn, oo .iaload 38, oj (.if_icmp .ge 14) 41 52, nn, nn, oo (.aload_n 0) 42, oo (.iload_n 1) 43, om (.invokevirtual 391) 46 0 yX12_picksUp, nn, nn, oo (.iinc 1 1) 49, nn],
  [nn, oj (.goto (-21)) 52 28, nn, nn, oo (.aload_n 0) 53, om (.invokevirtual 394) 56 0 yX12_blows, nn, nn, oo (.aload_n 0) 57, of (.getfield 122) 60 12 51, nn, nn, oo (.sipush 140) 63, nn, nn, oo .dup2 64],
  [oo .iaload 65, oo (.iconst 1) 66, oo .iadd 67, oo .iastore 68, oo .return_ 69, nn, nn, nn, nn, nn, nn, nn, nn, nn, nn, nn]])
def P_X12_hourGoes : List (List (List Nat)) := [[[],[],[],[],[1177],[],[],[],[1169],[],[],[],[],[],[],[]], [[],[1605,1607,85],[],[],[],[],[],[],[],[],[],[],[],[],[1177],[]], [[],[],[1169],[],[],[],[],[],[],[],[],[1613,1615,87],[],[],[],[]], [[],[],[],[],[],[1617,1619,88],[],[],[],[1202],[],[],[],[],[],[]], [[],[],[],[],[],[],[],[],[],[],[],[],[],[],[],[]]]
set_option maxRecDepth 100000 in
theorem kT_X12_hourGoes : ab_okT M_X12_hourGoes := ab_okT_of (P := P_X12_hourGoes) 80 (Nat.le_of_ble_eq_true rfl) (fun pc h => ab_chkR_of (lo := 0) (len := 80) (by decide +kernel) pc (Nat.zero_le _) (by omega))
theorem kY_X12_hourGoes : ab_okY M_X12_hourGoes := ab_okY_of 1604 124 (by decide +kernel)
def M_X12_goes : ab_M := (yX12_goes, cX12_goes, 3, none, 12, 1, [
  [oo (.iconst 0) 1, oo (.istore_n 2) 2, oo (.iload_n 2) 3, oo (.iload_n 1) 4, oj (.if_icmp .ge 13) 7 17, nn, nn, oo (.aload_n 0) 8, om (.invokevirtual 397) 11 0 yX12_hourGoes, nn, nn, oo (.iinc 2 1) 14, nn, nn, oj (.goto (-12)) 17 2, nn],
  [nn, oo .return_ 18, nn, nn, nn, nn, nn, nn, nn, nn, nn, nn, nn, nn, nn, nn]])
def P_X12_goes : List (List (List Nat)) := [[[],[],[],[],[],[],[],[],[1601,1603,84],[],[],[],[],[],[],[]], [[],[],[],[],[],[],[],[],[],[],[],[],[],[],[],[]]]
set_option maxRecDepth 100000 in
theorem kT_X12_goes : ab_okT M_X12_goes := ab_okT_of (P := P_X12_goes) 32 (Nat.le_of_ble_eq_true rfl) (fun pc h => ab_chkR_of (lo := 0) (len := 32) (by decide +kernel) pc (Nat.zero_le _) (by omega))
theorem kY_X12_goes : ab_okY M_X12_goes := ab_okY_of 1600 124 (by decide +kernel)
def M_X12_pieceAcross : ab_M := (yX12_pieceAcross, cX12_pieceAcross, 2, (some .int), 12, 1, [
  [oo (.aload_n 0) 1, oo (.iload_n 1) 2, om (.invokevirtual 348) 5 0 yX12_doesLie, nn, nn, oj (.ifCond .eq 12) 8 17, nn, nn, oo (.aload_n 0) 9, of (.getfield 122) 12 12 51, nn, nn, oo (.iload_n 1) 13, oo .iaload 14, oj (.goto 21) 17 35, nn],
  [nn, oo (.aload_n 0) 18, of (.getfield 122) 21 12 51, nn, nn, oo (.sipush 128) 24, nn, nn, oo (.aload_n 0) 25, of (.getfield 122) 28 12 51, nn, nn, oo (.bipush 64) 30, nn, oo (.iload_n 1) 31, oo .iadd 32],
  [oo .iaload 33, oo .iadd 34, oo .iaload 35, oo .ireturn 36, nn, nn, nn, nn, nn, nn, nn, nn, nn, nn, nn, nn]])
def P_X12_pieceAcross : List (List (List Nat)) := [[[],[],[1500,1502,67],[],[],[],[],[],[],[1202],[],[],[],[],[],[]], [[],[],[1202],[],[],[],[],[],[],[1202],[],[],[],[],[],[]], [[],[],[],[],[],[],[],[],[],[],[],[],[],[],[],[]]]
set_option maxRecDepth 100000 in
theorem kT_X12_pieceAcross : ab_okT M_X12_pieceAcross := ab_okT_of (P := P_X12_pieceAcross) 48 (Nat.le_of_ble_eq_true rfl) (fun pc h => ab_chkR_of (lo := 0) (len := 48) (by decide +kernel) pc (Nat.zero_le _) (by omega))
theorem kY_X12_pieceAcross : ab_okY M_X12_pieceAcross := ab_okY_of 1499 124 (by decide +kernel)
def M_X12_pieceDown : ab_M := (yX12_pieceDown, cX12_pieceDown, 2, (some .int), 12, 1, [
  [oo (.aload_n 0) 1, oo (.iload_n 1) 2, om (.invokevirtual 348) 5 0 yX12_doesLie, nn, nn, oj (.ifCond .eq 15) 8 20, nn, nn, oo (.aload_n 0) 9, of (.getfield 122) 12 12 51, nn, nn, oo (.bipush 32) 14, nn, oo (.iload_n 1) 15, oo .iadd 16],
  [oo .iaload 17, oj (.goto 21) 20 38, nn, nn, oo (.aload_n 0) 21, of (.getfield 122) 24 12 51, nn, nn, oo (.sipush 132) 27, nn, nn, oo (.aload_n 0) 28, of (.getfield 122) 31 12 51, nn, nn, oo (.bipush 64) 33],
  [nn, oo (.iload_n 1) 34, oo .iadd 35, oo .iaload 36, oo .iadd 37, oo .iaload 38, oo .ireturn 39, nn, nn, nn, nn, nn, nn, nn, nn, nn]])
def P_X12_pieceDown : List (List (List Nat)) := [[[],[],[1500,1502,67],[],[],[],[],[],[],[1202],[],[],[],[],[],[]], [[],[],[],[],[],[1202],[],[],[],[],[],[],[1202],[],[],[]], [[],[],[],[],[],[],[],[],[],[],[],[],[],[],[],[]]]
set_option maxRecDepth 100000 in
theorem kT_X12_pieceDown : ab_okT M_X12_pieceDown := ab_okT_of (P := P_X12_pieceDown) 48 (Nat.le_of_ble_eq_true rfl) (fun pc h => ab_chkR_of (lo := 0) (len := 48) (by decide +kernel) pc (Nat.zero_le _) (by omega))
theorem kY_X12_pieceDown : ab_okY M_X12_pieceDown := ab_okY_of 1507 124 (by decide +kernel)
def M_X12_piece : ab_M := (yX12_piece, cX12_piece, 3, (some .int), 12, 2, [
  [oo (.aload_n 0) 1, oo (.iload_n 1) 2, om (.invokevirtual 400) 5 0 yX12_isPiece, nn, nn, oj (.ifCond .ne 5) 8 10, nn, nn, oo (.iconst (-1)) 9, oo .ireturn 10, oo (.aload_n 0) 11, om (.invokevirtual 341) 14 0 yX12_copies, nn, nn, oo (.iload_n 2) 15, oo (.tableswitch 131 0 7 #[45, 52, 59, 65, 71, 81, 91, 113]) 60],
  [nn, nn, nn, nn, nn, nn, nn, nn, nn, nn, nn, nn, nn, nn, nn, nn],
  [nn, nn, nn, nn, nn, nn, nn, nn, nn, nn, nn, nn, nn, nn, nn, nn],
  [nn, nn, nn, nn, nn, nn, nn, nn, nn, nn, nn, nn, oo (.aload_n 0) 61, of (.getfield 125) 64 12 55, nn, nn],
  [oo (.iload_n 1) 65, oo .iaload 66, oo .ireturn 67, oo (.aload_n 0) 68, of (.getfield 128) 71 12 56, nn, nn, oo (.iload_n 1) 72, oo .iaload 73, oo .ireturn 74, oo (.aload_n 0) 75, oo (.iload_n 1) 76, om (.invokevirtual 403) 79 0 yX12_pieceAcross, nn, nn, oo .ireturn 80],
  [oo (.aload_n 0) 81, oo (.iload_n 1) 82, om (.invokevirtual 406) 85 0 yX12_pieceDown, nn, nn, oo .ireturn 86, oo (.aload_n 0) 87, of (.getfield 122) 90 12 51, nn, nn, oo (.bipush 64) 92, nn, oo (.iload_n 1) 93, oo .iadd 94, oo .iaload 95, oo .ireturn 96],
  [oo (.aload_n 0) 97, of (.getfield 122) 100 12 51, nn, nn, oo (.bipush 96) 102, nn, oo (.iload_n 1) 103, oo .iadd 104, oo .iaload 105, oo .ireturn 106, oo (.aload_n 0) 107, oo (.iload_n 1) 108, om (.invokevirtual 348) 111 0 yX12_doesLie, nn, nn, oj (.ifCond .eq 15) 114 126],
  [nn, nn, oo (.aload_n 0) 115, oo (.iload_n 1) 116, om (.invokevirtual 385) 119 0 yX12_isBlown, nn, nn, oj (.ifCond .eq 7) 122 126, nn, nn, oo (.iconst 1) 123, oj (.goto 4) 126 127, nn, nn, oo (.iconst 0) 127, oo .ireturn 128],
  [oo (.aload_n 0) 129, oo (.iload_n 1) 130, om (.invokevirtual 348) 133 0 yX12_doesLie, nn, nn, oj (.ifCond .eq 11) 136 144, nn, nn, oo (.aload_n 0) 137, oo (.iload_n 1) 138, om (.invokevirtual 409) 141 0 yX12_takesOf, nn, nn, oj (.goto 4) 144 145, nn, nn],
  [oo (.iconst 0) 145, oo .ireturn 146, oo (.iconst (-1)) 147, oo .ireturn 148, nn, nn, nn, nn, nn, nn, nn, nn, nn, nn, nn, nn]])
def P_X12_piece : List (List (List Nat)) := [[[],[],[1485,1487,64],[],[],[],[],[],[],[],[],[1492,1494,65],[],[],[],[]], [[],[],[],[],[],[],[],[],[],[],[],[],[],[],[],[]], [[],[],[],[],[],[],[],[],[],[],[],[],[],[],[],[]], [[],[],[],[],[],[],[],[],[],[],[],[],[],[1206],[],[]], [[],[],[],[],[1207],[],[],[],[],[],[],[],[1496,1498,66],[],[],[]], [[],[],[1504,1506,68],[],[],[],[],[1202],[],[],[],[],[],[],[],[]], [[],[1202],[],[],[],[],[],[],[],[],[],[],[1500,1502,67],[],[],[]], [[],[],[],[],[1508,1510,69],[],[],[],[],[],[],[],[],[],[],[]], [[],[],[1500,1502,67],[],[],[],[],[],[],[],[1536,1538,76],[],[],[],[],[]], [[],[],[],[],[],[],[],[],[],[],[],[],[],[],[],[]]]
set_option maxRecDepth 100000 in
theorem kT_X12_piece : ab_okT M_X12_piece := ab_okT_of (P := P_X12_piece) 160 (Nat.le_of_ble_eq_true rfl) (fun pc h => ab_chkR_of (lo := 0) (len := 160) (by decide +kernel) pc (Nat.zero_le _) (by omega))
theorem kY_X12_piece : ab_okY M_X12_piece := ab_okY_of 1484 124 (by decide +kernel)
