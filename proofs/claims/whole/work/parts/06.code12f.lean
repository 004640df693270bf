def M_X12_picker : ab_M := (yX12_picker, cX12_picker, 4, (some .int), 12, 2, [
  [oo (.aload_n 0) 1, oo (.iload_n 1) 2, om (.invokevirtual 412) 5 0 yX12_isPicker, nn, nn, oj (.ifCond .ne 5) 8 10, nn, nn, oo (.iconst (-1)) 9, oo .ireturn 10, oo (.aload_n 0) 11, om (.invokevirtual 341) 14 0 yX12_copies, nn, nn, oo (.aload_n 0) 15, of (.getfield 122) 18 12 51],
  [nn, nn, oo (.sipush 136) 21, nn, nn, oo (.iload_n 1) 22, oo .iadd 23, oo .iaload 24, oo (.istore_n 3) 25, oo (.iload_n 2) 26, oo (.tableswitch 118 0 6 #[42, 53, 64, 78, 84, 98, 112]) 68, nn, nn, nn, nn, nn],
  [nn, nn, nn, nn, nn, nn, nn, nn, nn, nn, nn, nn, nn, nn, nn, nn],
  [nn, nn, nn, nn, nn, nn, nn, nn, nn, nn, nn, nn, nn, nn, nn, nn],
  [nn, nn, nn, nn, oo (.aload_n 0) 69, of (.getfield 122) 72 12 51, nn, nn, oo (.sipush 128) 75, nn, nn, oo (.iload_n 1) 76, oo .iadd 77, oo .iaload 78, oo .ireturn 79, oo (.aload_n 0) 80],
  [of (.getfield 122) 83 12 51, nn, nn, oo (.sipush 132) 86, nn, nn, oo (.iload_n 1) 87, oo .iadd 88, oo .iaload 89, oo .ireturn 90, oo (.aload_n 0) 91, of (.getfield 70) 94 12 30, nn, nn, oo (.iconst 4) 95, oo (.aload_n 0) 96],
  [of (.getfield 239) 99 12 18, nn, nn, oo .imul 100, oo (.iload_n 1) 101, oo .iadd 102, oo .iaload 103, oo .ireturn 104, oo (.aload_n 0) 105, oo (.iload_n 1) 106, om (.invokevirtual 372) 109 0 yX12_inHat, nn, nn, oo .ireturn 110, oo (.iload_n 3) 111, oj (.ifCond .ge 8) 114 119],
  [nn, nn, oo (.bipush (-2)) 116, nn, oj (.goto 7) 119 123, nn, nn, oo (.iload_n 3) 120, oo (.bipush 10) 122, nn, oo .irem 123, oo .ireturn 124, oo (.iload_n 3) 125, oj (.ifCond .ge 8) 128 133, nn, nn],
  [oo (.bipush (-2)) 130, nn, oj (.goto 7) 133 137, nn, nn, oo (.iload_n 3) 134, oo (.bipush 10) 136, nn, oo .idiv 137, oo .ireturn 138, oo (.aload_n 0) 139, oo (.iload_n 1) 140, om (.invokevirtual 415) 143 0 yX12_owedTo, nn, nn, oo .ireturn 144],
  [oo (.iconst (-1)) 145, oo .ireturn 146, nn, nn, nn, nn, nn, nn, nn, nn, nn, nn, nn, nn, nn, nn]])
def P_X12_picker : List (List (List Nat)) := [[[],[],[1547,1549,77],[],[],[],[],[],[],[],[],[1492,1494,65],[],[],[],[1202]], [[],[],[],[],[],[],[],[],[],[],[],[],[],[],[],[]], [[],[],[],[],[],[],[],[],[],[],[],[],[],[],[],[]], [[],[],[],[],[],[],[],[],[],[],[],[],[],[],[],[]], [[],[],[],[],[],[1202],[],[],[],[],[],[],[],[],[],[]], [[1202],[],[],[],[],[],[],[],[],[],[],[1181],[],[],[],[]], [[1169],[],[],[],[],[],[],[],[],[],[1551,1553,78],[],[],[],[],[]], [[],[],[],[],[],[],[],[],[],[],[],[],[],[],[],[]], [[],[],[],[],[],[],[],[],[],[],[],[],[1555,1557,79],[],[],[]], [[],[],[],[],[],[],[],[],[],[],[],[],[],[],[],[]]]
set_option maxRecDepth 100000 in
theorem kT_X12_picker : ab_okT M_X12_picker := ab_okT_of (P := P_X12_picker) 160 (Nat.le_of_ble_eq_true rfl) (fun pc h => ab_chkR_of (lo := 0) (len := 160) (by decide +kernel) pc (Nat.zero_le _) (by omega))
theorem kY_X12_picker : ab_okY M_X12_picker := ab_okY_of 1546 124 (by decide +kernel)
def M_X12_lies : ab_M := (yX12_lies, cX12_lies, 3, (some .int), 12, 2, [
  [oo (.iload_n 1) 1, oo (.iload_n 2) 2, om (.invokestatic 418) 5 0 yX12_isCell, nn, nn, oj (.ifCond .ne 5) 8 10, nn, nn, oo (.iconst (-1)) 9, oo .ireturn 10, oo (.aload_n 0) 11, om (.invokevirtual 341) 14 0 yX12_copies, nn, nn, oo (.aload_n 0) 15, oo (.bipush 10) 17],
  [nn, oo (.iload_n 2) 18, oo .imul 19, oo (.iload_n 1) 20, oo .iadd 21, om (.invokevirtual 360) 24 0 yX12_lieAt, nn, nn, oo .ireturn 25, nn, nn, nn, nn, nn, nn, nn]])
def P_X12_lies : List (List (List Nat)) := [[[],[],[1567,1568],[],[],[],[],[],[],[],[],[1492,1494,65],[],[],[],[]], [[],[],[],[],[],[1524,1526,73],[],[],[],[],[],[],[],[],[],[]]]
set_option maxRecDepth 100000 in
theorem kT_X12_lies : ab_okT M_X12_lies := ab_okT_of (P := P_X12_lies) 32 (Nat.le_of_ble_eq_true rfl) (fun pc h => ab_chkR_of (lo := 0) (len := 32) (by decide +kernel) pc (Nat.zero_le _) (by omega))
theorem kY_X12_lies : ab_okY M_X12_lies := ab_okY_of 1566 124 (by decide +kernel)
def M_X12_records : ab_M := (yX12_records, cX12_records, 2, none, 12, 0, [
  [oo (.aload_n 0) 1, of (.getfield 254) 4 12 58, nn, nn, oo (.bipush 40) 6, nn, oj (.if_icmp .ne 44) 9 50, nn, nn, oo (.iconst 0) 10, oo (.istore_n 1) 11, oo (.iload_n 1) 12, oo (.sipush 5499) 15, nn, nn, oj (.if_icmp .ge 25) 18 40],
  [nn, nn, oo (.aload_n 0) 19, of (.getfield 134) 22 12 59, nn, nn, oo (.iload_n 1) 23, oo (.aload_n 0) 24, of (.getfield 134) 27 12 59, nn, nn, oo (.iload_n 1) 28, oo (.sipush 141) 31, nn, nn, oo .iadd 32],
  [oo .iaload 33, oo .iastore 34, oo (.iinc 1 1) 37, nn, nn, oj (.goto (-26)) 40 11, nn, nn, oo (.aload_n 0) 41, oo .dup 42, of (.getfield 254) 45 12 58, nn, nn, oo (.iconst 1) 46, oo .isub 47, of (.putfield 254) 50 12 58],
  [nn, nn, oo (.iconst 0) 51, oo (.istore_n 1) 52, oo (.iload_n 1) 53, oo (.sipush 141) 56, nn, nn, oj (.if_icmp .ge 30) 59 86, nn, nn, oo (.aload_n 0) 60, of (.getfield 134) 63 12 59, nn, nn, oo (.sipush 141) 66],
  [nn, nn, oo (.aload_n 0) 67, of (.getfield 254) 70 12 58, nn, nn, oo .imul 71, oo (.iload_n 1) 72, oo .iadd 73, oo (.aload_n 0) 74, of (.getfield 119) 77 12 50, nn, nn, oo (.iload_n 1) 78, oo .iaload 79, oo .iastore 80],
  [oo (.iinc 1 1) 83, nn, nn, oj (.goto (-31)) 86 52, nn, nn, oo (.aload_n 0) 87, oo .dup 88, of (.getfield 254) 91 12 58, nn, nn, oo (.iconst 1) 92, oo .iadd 93, of (.putfield 254) 96 12 58, nn, nn],
  [oo (.aload_n 0) 97, om (.invokevirtual 169) 100 0 yX12_keepsRow, nn, nn, oo .return_ 101, nn, nn, nn, nn, nn, nn, nn, nn, nn, nn, nn]])
def P_X12_records : List (List (List Nat)) := [[[],[1209],[],[],[],[],[],[],[],[],[],[],[],[],[],[]], [[],[],[],[1210],[],[],[],[],[1210],[],[],[],[],[],[],[]], [[],[],[],[],[],[],[],[],[],[],[1209],[],[],[],[],[1209]], [[],[],[],[],[],[],[],[],[],[],[],[],[1210],[],[],[]], [[],[],[],[1209],[],[],[],[],[],[],[1201],[],[],[],[],[]], [[],[],[],[],[],[],[],[],[1209],[],[],[],[],[1209],[],[]], [[],[1148,1150,39],[],[],[],[],[],[],[],[],[],[],[],[],[],[]]]
set_option maxRecDepth 100000 in
theorem kT_X12_records : ab_okT M_X12_records := ab_okT_of (P := P_X12_records) 112 (Nat.le_of_ble_eq_true rfl) (fun pc h => ab_chkR_of (lo := 0) (len := 112) (by decide +kernel) pc (Nat.zero_le _) (by omega))
theorem kY_X12_records : ab_okY M_X12_records := ab_okY_of 1581 124 (by decide +kernel)
def M_X12_goalAt : ab_M := (yX12_goalAt, cX12_goalAt, 3, (some .int), 12, 2, [
  [oo (.iload_n 2) 1, oo (.bipush 10) 3, nn, oo (.aload_n 0) 4, of (.getfield 119) 7 12 50, nn, nn, oo (.sipush 132) 10, nn, nn, oo (.iload_n 1) 11, oo .iadd 12, oo .iaload 13, oo .imul 14, oo (.aload_n 0) 15, of (.getfield 119) 18 12 50],
  [nn, nn, oo (.sipush 128) 21, nn, nn, oo (.iload_n 1) 22, oo .iadd 23, oo .iaload 24, oo .iadd 25, oj (.if_icmp .ne 8) 28 33, nn, nn, oo (.bipush (-2)) 30, nn, oj (.goto 4) 33 34, nn],
  [nn, oo (.iload_n 2) 34, oo .ireturn 35, nn, nn, nn, nn, nn, nn, nn, nn, nn, nn, nn, nn, nn]])
def P_X12_goalAt : List (List (List Nat)) := [[[],[],[],[],[1201],[],[],[],[],[],[],[],[],[],[],[1201]], [[],[],[],[],[],[],[],[],[],[],[],[],[],[],[],[]], [[],[],[],[],[],[],[],[],[],[],[],[],[],[],[],[]]]
set_option maxRecDepth 100000 in
theorem kT_X12_goalAt : ab_okT M_X12_goalAt := ab_okT_of (P := P_X12_goalAt) 48 (Nat.le_of_ble_eq_true rfl) (fun pc h => ab_chkR_of (lo := 0) (len := 48) (by decide +kernel) pc (Nat.zero_le _) (by omega))
theorem kY_X12_goalAt : ab_okY M_X12_goalAt := ab_okY_of 1577 124 (by decide +kernel)
def M_X12_send : ab_M := (yX12_send, cX12_send, 5, (some .boolean), 12, 3, [
  [oo (.aload_n 0) 1, oo (.iload_n 1) 2, om (.invokevirtual 412) 5 0 yX12_isPicker, nn, nn, oj (.ifCond .eq 16) 8 21, nn, nn, oo (.iload_n 2) 9, oo (.iconst (-1)) 10, oj (.if_icmp .eq 13) 13 23, nn, nn, oo (.iload_n 2) 14, oo (.iload_n 3) 15, om (.invokestatic 418) 18 0 yX12_isCell],
  [nn, nn, oj (.ifCond .ne 5) 21 23, nn, nn, oo (.iconst 0) 22, oo .ireturn 23, oo (.iload_n 2) 24, oo (.iconst (-1)) 25, oj (.if_icmp .ne 8) 28 33, nn, nn, oo (.bipush (-2)) 30, nn, oj (.goto 14) 33 44, nn],
  [nn, oo (.aload_n 0) 34, oo (.iload_n 1) 35, oo (.bipush 10) 37, nn, oo (.iload_n 3) 38, oo .imul 39, oo (.iload_n 2) 40, oo .iadd 41, om (.invokevirtual 422) 44 0 yX12_goalAt, nn, nn, oo (.istore 4) 46, nn, oo (.aload_n 0) 47, of (.getfield 119) 50 12 50],
  [nn, nn, oo (.sipush 136) 53, nn, nn, oo (.iload_n 1) 54, oo .iadd 55, oo .iaload 56, oo (.iload 4) 58, nn, oj (.if_icmp .ne 5) 61 63, nn, nn, oo (.iconst 0) 62, oo .ireturn 63, oo (.aload_n 0) 64],
  [om (.invokevirtual 341) 67 0 yX12_copies, nn, nn, oo (.aload_n 0) 68, of (.getfield 122) 71 12 51, nn, nn, oo (.sipush 136) 74, nn, nn, oo (.iload_n 1) 75, oo .iadd 76, oo (.iload 4) 78, nn, oo .iastore 79, oo (.aload_n 0) 80],
  [om (.invokevirtual 425) 83 0 yX12_records, nn, nn, oo (.iconst 1) 84, oo .ireturn 85, nn, nn, nn, nn, nn, nn, nn, nn, nn, nn, nn]])
def P_X12_send : List (List (List Nat)) := [[[],[],[1547,1549,77],[],[],[],[],[],[],[],[],[],[],[],[],[1567,1568]], [[],[],[],[],[],[],[],[],[],[],[],[],[],[],[],[]], [[],[],[],[],[],[],[],[],[],[1574,1576,81],[],[],[],[],[],[1201]], [[],[],[],[],[],[],[],[],[],[],[],[],[],[],[],[]], [[1492,1494,65],[],[],[],[1202],[],[],[],[],[],[],[],[],[],[],[]], [[1578,1580,82],[],[],[],[],[],[],[],[],[],[],[],[],[],[],[]]]
set_option maxRecDepth 100000 in
theorem kT_X12_send : ab_okT M_X12_send := ab_okT_of (P := P_X12_send) 96 (Nat.le_of_ble_eq_true rfl) (fun pc h => ab_chkR_of (lo := 0) (len := 96) (by decide +kernel) pc (Nat.zero_le _) (by omega))
theorem kY_X12_send : ab_okY M_X12_send := ab_okY_of 1573 124 (by decide +kernel)
def M_X12_drop : ab_M := (yX12_drop, cX12_drop, 2, (some .boolean), 12, 1, [
  [oo (.aload_n 0) 1, oo (.iload_n 1) 2, om (.invokevirtual 400) 5 0 yX12_isPiece, nn, nn, oj (.ifCond .eq 15) 8 20, nn, nn, oo (.aload_n 0) 9, of (.getfield 119) 12 12 50, nn, nn, oo (.bipush 64) 14, nn, oo (.iload_n 1) 15, oo .iadd 16],
  [oo .iaload 17, oj (.ifCond .ge 5) 20 22, nn, nn, oo (.iconst 0) 21, oo .ireturn 22, oo (.aload_n 0) 23, om (.invokevirtual 341) 26 0 yX12_copies, nn, nn, oo (.aload_n 0) 27, of (.getfield 122) 30 12 51, nn, nn, oo (.iload_n 1) 31, oo (.aload_n 0) 32],
  [of (.getfield 122) 35 12 51, nn, nn, oo (.sipush 128) 38, nn, nn, oo (.aload_n 0) 39, of (.getfield 119) 42 12 50, nn, nn, oo (.bipush 64) 44, nn, oo (.iload_n 1) 45, oo .iadd 46, oo .iaload 47, oo .iadd 48],
  [oo .iaload 49, oo .iastore 50, oo (.aload_n 0) 51, of (.getfield 122) 54 12 51, nn, nn, oo (.bipush 32) 56, nn, oo (.iload_n 1) 57, oo .iadd 58, oo (.aload_n 0) 59, of (.getfield 122) 62 12 51, nn, nn, oo (.sipush 132) 65, nn],
  [nn, oo (.aload_n 0) 66, of (.getfield 119) 69 12 50, nn, nn, oo (.bipush 64) 71, nn, oo (.iload_n 1) 72, oo .iadd 73, oo .iaload 74, oo .iadd 75, oo .iaload 76, oo .iastore 77, oo (.aload_n 0) 78, of (.getfield 122) 81 12 51, nn],
  [nn, oo (.bipush 64) 83, nn, oo (.iload_n 1) 84, oo .iadd 85, oo (.bipush (-2)) 87, nn, oo .iastore 88, oo (.aload_n 0) 89, of (.getfield 122) 92 12 51, nn, nn, oo (.bipush 96) 94, nn, oo (.iload_n 1) 95, oo .iadd 96],
  [oo (.iconst 0) 97, oo .iastore 98, oo (.aload_n 0) 99, om (.invokevirtual 425) 102 0 yX12_records, nn, nn, oo (.iconst 1) 103, oo .ireturn 104, nn, nn, nn, nn, nn, nn, nn, nn]])
def P_X12_drop : List (List (List Nat)) := [[[],[],[1485,1487,64],[],[],[],[],[],[],[1201],[],[],[],[],[],[]], [[],[],[],[],[],[],[],[1492,1494,65],[],[],[],[1202],[],[],[],[]], [[1202],[],[],[],[],[],[],[1201],[],[],[],[],[],[],[],[]], [[],[],[],[1202],[],[],[],[],[],[],[],[1202],[],[],[],[]], [[],[],[1201],[],[],[],[],[],[],[],[],[],[],[],[1202],[]], [[],[],[],[],[],[],[],[],[],[1202],[],[],[],[],[],[]], [[],[],[],[1578,1580,82],[],[],[],[],[],[],[],[],[],[],[],[]]]
set_option maxRecDepth 100000 in
theorem kT_X12_drop : ab_okT M_X12_drop := ab_okT_of (P := P_X12_drop) 112 (Nat.le_of_ble_eq_true rfl) (fun pc h => ab_chkR_of (lo := 0) (len := 112) (by decide +kernel) pc (Nat.zero_le _) (by omega))
theorem kY_X12_drop : ab_okY M_X12_drop := ab_okY_of 1585 124 (by decide +kernel)
def M_X12_give : ab_M := (yX12_give, cX12_give, 6, (some .int), 12, 2, [
  [oo (.aload_n 0) 1, oo (.iload_n 1) 2, om (.invokevirtual 412) 5 0 yX12_isPicker, nn, nn, oj (.ifCond .eq 16) 8 21, nn, nn, oo (.aload_n 0) 9, oo (.iload_n 2) 10, om (.invokevirtual 412) 13 0 yX12_isPicker, nn, nn, oj (.ifCond .eq 8) 16 21, nn, nn],
  [oo (.iload_n 1) 17, oo (.iload_n 2) 18, oj (.if_icmp .ne 5) 21 23, nn, nn, oo (.iconst (-1)) 22, oo .ireturn 23, oo (.aload_n 0) 24, om (.invokevirtual 341) 27 0 yX12_copies, nn, nn, oo (.iconst 0) 28, oo (.istore_n 3) 29, oo (.aload_n 0) 30, oo (.iload_n 2) 31, om (.invokevirtual 372) 34 0 yX12_inHat],
  [nn, nn, oo (.istore 4) 36, nn, oo (.iconst 0) 37, oo (.istore 5) 39, nn, oo (.iload 5) 41, nn, oo (.aload_n 0) 42, of (.getfield 324) 45 12 54, nn, nn, oj (.if_icmp .ge 60) 48 105, nn, nn],
  [oo (.aload_n 0) 49, of (.getfield 122) 52 12 51, nn, nn, oo (.bipush 64) 54, nn, oo (.iload 5) 56, nn, oo .iadd 57, oo .iaload 58, oo (.iload_n 1) 59, oj (.if_icmp .ne 40) 62 99, nn, nn, oo (.iload 4) 64, nn],
  [oo (.iload_n 3) 65, oo .iadd 66, oo (.aload_n 0) 67, of (.getfield 70) 70 12 30, nn, nn, oo (.iconst 4) 71, oo (.aload_n 0) 72, of (.getfield 239) 75 12 18, nn, nn, oo .imul 76, oo (.iload_n 2) 77, oo .iadd 78, oo .iaload 79, oj (.if_icmp .ne 6) 82 85],
  [nn, nn, oj (.goto 17) 85 99, nn, nn, oo (.aload_n 0) 86, of (.getfield 122) 89 12 51, nn, nn, oo (.bipush 64) 91, nn, oo (.iload 5) 93, nn, oo .iadd 94, oo (.iload_n 2) 95, oo .iastore 96],
  [oo (.iinc 3 1) 99, nn, nn, oo (.iinc 5 1) 102, nn, nn, oj (.goto (-63)) 105 39, nn, nn, oo (.aload_n 0) 106, om (.invokevirtual 425) 109 0 yX12_records, nn, nn, oo (.iload_n 3) 110, oo .ireturn 111, nn]])
def P_X12_give : List (List (List Nat)) := [[[],[],[1547,1549,77],[],[],[],[],[],[],[],[1547,1549,77],[],[],[],[],[]], [[],[],[],[],[],[],[],[],[1492,1494,65],[],[],[],[],[],[],[1551,1553,78]], [[],[],[],[],[],[],[],[],[],[],[1205],[],[],[],[],[]], [[],[1202],[],[],[],[],[],[],[],[],[],[],[],[],[],[]], [[],[],[],[1181],[],[],[],[],[1169],[],[],[],[],[],[],[]], [[],[],[],[],[],[],[1202],[],[],[],[],[],[],[],[],[]], [[],[],[],[],[],[],[],[],[],[],[1578,1580,82],[],[],[],[],[]]]
set_option maxRecDepth 100000 in
theorem kT_X12_give : ab_okT M_X12_give := ab_okT_of (P := P_X12_give) 112 (Nat.le_of_ble_eq_true rfl) (fun pc h => ab_chkR_of (lo := 0) (len := 112) (by decide +kernel) pc (Nat.zero_le _) (by omega))
theorem kY_X12_give : ab_okY M_X12_give := ab_okY_of 1589 124 (by decide +kernel)
def M_X12_isLong : ab_M := (yX12_isLong, cX12_isLong, 1, (some .boolean), 12, 1, [
  [oo (.iload_n 0) 1, oo (.iconst 0) 2, oo (.bipush 40) 4, nn, om (.invokestatic 327) 7 0 yX12_in, nn, nn, oo .ireturn 8, nn, nn, nn, nn, nn, nn, nn, nn]])
def P_X12_isLong : List (List (List Nat)) := [[[],[],[],[],[1489,1490],[],[],[],[],[],[],[],[],[],[],[]]]
set_option maxRecDepth 100000 in
theorem kT_X12_isLong : ab_okT M_X12_isLong := ab_okT_of (P := P_X12_isLong) 16 (Nat.le_of_ble_eq_true rfl) (fun pc h => ab_chkR_of (lo := 0) (len := 16) (by decide +kernel) pc (Nat.zero_le _) (by omega))
theorem kY_X12_isLong : ab_okY M_X12_isLong := ab_okY_of 1596 124 (by decide +kernel)
def M_X12_hours : ab_M := (yX12_hours, cX12_hours, 2, (some .int), 12, 1, [
  [oo (.iload_n 1) 1, om (.invokestatic 428) 4 0 yX12_isLong, nn, nn, oj (.ifCond .ne 5) 7 9, nn, nn, oo (.iconst (-1)) 8, oo .ireturn 9, oo (.iload_n 1) 10, oj (.ifCond .ne 12) 13 22, nn, nn, oo (.aload_n 0) 14, of (.getfield 119) 17 12 50, nn],
  [nn, oo (.sipush 140) 20, nn, nn, oo .iaload 21, oo .ireturn 22, oo (.aload_n 0) 23, om (.invokevirtual 341) 26 0 yX12_copies, nn, nn, oo (.aload_n 0) 27, oo (.iload_n 1) 28, om (.invokevirtual 431) 31 0 yX12_goes, nn, nn, oo (.aload_n 0) 32],
  [om (.invokevirtual 425) 35 0 yX12_records, nn, nn, oo (.aload_n 0) 36, of (.getfield 119) 39 12 50, nn, nn, oo (.sipush 140) 42, nn, nn, oo .iaload 43, oo .ireturn 44, nn, nn, nn, nn]])
def P_X12_hours : List (List (List Nat)) := [[[],[1594,1595],[],[],[],[],[],[],[],[],[],[],[],[],[1201],[]], [[],[],[],[],[],[],[],[1492,1494,65],[],[],[],[],[1597,1599,83],[],[],[]], [[1578,1580,82],[],[],[],[1201],[],[],[],[],[],[],[],[],[],[],[]]]
set_option maxRecDepth 100000 in
theorem kT_X12_hours : ab_okT M_X12_hours := ab_okT_of (P := P_X12_hours) 48 (Nat.le_of_ble_eq_true rfl) (fun pc h => ab_chkR_of (lo := 0) (len := 48) (by decide +kernel) pc (Nat.zero_le _) (by omega))
theorem kY_X12_hours : ab_okY M_X12_hours := ab_okY_of 1593 124 (by decide +kernel)
def M_X12_undo : ab_M := (yX12_undo, cX12_undo, 2, (some .boolean), 12, 0, [
  [oo (.aload_n 0) 1, of (.getfield 254) 4 12 58, nn, nn, oj (.ifCond .ne 5) 7 9, nn, nn, oo (.iconst 0) 8, oo .ireturn 9, oo (.aload_n 0) 10, oo .dup 11, of (.getfield 254) 14 12 58, nn, nn, oo (.iconst 1) 15, oo .isub 16],
  [of (.putfield 254) 19 12 58, nn, nn, oo (.iconst 0) 20, oo (.istore_n 1) 21, oo (.iload_n 1) 22, oo (.sipush 141) 25, nn, nn, oj (.if_icmp .ge 30) 28 55, nn, nn, oo (.aload_n 0) 29, of (.getfield 119) 32 12 50, nn, nn],
  [oo (.iload_n 1) 33, oo (.aload_n 0) 34, of (.getfield 134) 37 12 59, nn, nn, oo (.sipush 141) 40, nn, nn, oo (.aload_n 0) 41, of (.getfield 254) 44 12 58, nn, nn, oo .imul 45, oo (.iload_n 1) 46, oo .iadd 47, oo .iaload 48],
  [oo .iastore 49, oo (.iinc 1 1) 52, nn, nn, oj (.goto (-31)) 55 21, nn, nn, oo (.iconst 1) 56, oo .ireturn 57, nn, nn, nn, nn, nn, nn, nn]])
def P_X12_undo : List (List (List Nat)) := [[[],[1209],[],[],[],[],[],[],[],[],[],[1209],[],[],[],[]], [[1209],[],[],[],[],[],[],[],[],[],[],[],[],[1201],[],[]], [[],[],[1210],[],[],[],[],[],[],[1209],[],[],[],[],[],[]], [[],[],[],[],[],[],[],[],[],[],[],[],[],[],[],[]]]
set_option maxRecDepth 100000 in
theorem kT_X12_undo : ab_okT M_X12_undo := ab_okT_of (P := P_X12_undo) 64 (Nat.le_of_ble_eq_true rfl) (fun pc h => ab_chkR_of (lo := 0) (len := 64) (by decide +kernel) pc (Nat.zero_le _) (by omega))
theorem kY_X12_undo : ab_okY M_X12_undo := ab_okY_of 1632 124 (by decide +kernel)
def M_X12_steps : ab_M := (yX12_steps, cX12_steps, 4, (some .int), 12, 3, [
  [oo (.aload_n 0) 1, oo (.iload_n 1) 2, om (.invokevirtual 412) 5 0 yX12_isPicker, nn, nn, oj (.ifCond .eq 11) 8 16, nn, nn, oo (.iload_n 2) 9, oo (.iload_n 3) 10, om (.invokestatic 418) 13 0 yX12_isCell, nn, nn, oj (.ifCond .ne 5) 16 18, nn, nn],
  [oo (.iconst (-1)) 17, oo .ireturn 18, oo (.aload_n 0) 19, om (.invokevirtual 341) 22 0 yX12_copies, nn, nn, oo (.aload_n 0) 23, oo (.iload_n 1) 24, om (.invokevirtual 378) 27 0 yX12_cellOfPicker, nn, nn, oo (.bipush 10) 29, nn, oo (.iload_n 3) 30, oo .imul 31, oo (.iload_n 2) 32],
  [oo .iadd 33, om (.invokestatic 434) 36 0 yX12_stepsOff, nn, nn, oo .ireturn 37, nn, nn, nn, nn, nn, nn, nn, nn, nn, nn, nn]])
def P_X12_steps : List (List (List Nat)) := [[[],[],[1547,1549,77],[],[],[],[],[],[],[],[1567,1568],[],[],[],[],[]], [[],[],[],[1492,1494,65],[],[],[],[],[1609,1611,86],[],[],[],[],[],[],[]], [[],[1637,1638],[],[],[],[],[],[],[],[],[],[],[],[],[],[]]]
set_option maxRecDepth 100000 in
theorem kT_X12_steps : ab_okT M_X12_steps := ab_okT_of (P := P_X12_steps) 48 (Nat.le_of_ble_eq_true rfl) (fun pc h => ab_chkR_of (lo := 0) (len := 48) (by decide +kernel) pc (Nat.zero_le _) (by omega))
theorem kY_X12_steps : ab_okY M_X12_steps := ab_okY_of 1636 124 (by decide +kernel)
def M_X12_fillsCells : ab_M := (yX12_fillsCells, cX12_fillsCells, 4, none, 12, 2, [
  [oo (.aload_n 0) 1, oo (.iconst 0) 2, of (.putfield 437) 5 12 60, nn, nn, oo (.iconst 0) 6, oo (.istore_n 3) 7, oo (.iload_n 3) 8, oo (.bipush 80) 10, nn, oj (.if_icmp .ge 50) 13 60, nn, nn, oo (.iload_n 3) 14, oo (.iload_n 1) 15, oj (.if_icmp .eq 39) 18 54],
  [nn, nn, oo (.iload_n 3) 19, oo (.iload_n 2) 20, oj (.if_icmp .eq 34) 23 54, nn, nn, oo (.aload_n 0) 24, oo (.iload_n 3) 25, om (.invokevirtual 360) 28 0 yX12_lieAt, nn, nn, oj (.ifCond .ne 6) 31 34, nn, nn, oj (.goto 23) 34 54],
  [nn, nn, oo (.aload_n 0) 35, of (.getfield 137) 38 12 61, nn, nn, oo (.aload_n 0) 39, of (.getfield 437) 42 12 60, nn, nn, oo (.iload_n 3) 43, oo .iastore 44, oo (.aload_n 0) 45, oo .dup 46, of (.getfield 437) 49 12 60, nn],
  [nn, oo (.iconst 1) 50, oo .iadd 51, of (.putfield 437) 54 12 60, nn, nn, oo (.iinc 3 1) 57, nn, nn, oj (.goto (-50)) 60 7, nn, nn, oo .return_ 61, nn, nn, nn]])
def P_X12_fillsCells : List (List (List Nat)) := [[[],[],[1211],[],[],[],[],[],[],[],[],[],[],[],[],[]], [[],[],[],[],[],[],[],[],[],[1524,1526,73],[],[],[],[],[],[]], [[],[],[],[1212],[],[],[],[1211],[],[],[],[],[],[],[1211],[]], [[],[],[],[1211],[],[],[],[],[],[],[],[],[],[],[],[]]]
set_option maxRecDepth 100000 in
theorem kT_X12_fillsCells : ab_okT M_X12_fillsCells := ab_okT_of (P := P_X12_fillsCells) 64 (Nat.le_of_ble_eq_true rfl) (fun pc h => ab_chkR_of (lo := 0) (len := 64) (by decide +kernel) pc (Nat.zero_le _) (by omega))
theorem kY_X12_fillsCells : ab_okY M_X12_fillsCells := ab_okY_of 1650 124 (by decide +kernel)
def M_X12_fillsRest : ab_M := (yX12_fillsRest, cX12_fillsRest, 6, none, 12, 0, [
  [oo (.iconst 0) 1, oo (.istore_n 1) 2, oo (.iload_n 1) 3, oo (.iconst 1) 4, oo (.aload_n 0) 5, of (.getfield 437) 8 12 60, nn, nn, oo .ishl 9, oj (.if_icmp .ge 126) 12 135, nn, nn, oo (.iconst 0) 13, oo (.istore_n 2) 14, oo (.iload_n 2) 15, oo (.aload_n 0) 16],
  [of (.getfield 437) 19 12 60, nn, nn, oj (.if_icmp .ge 110) 22 129, nn, nn, oo (.iload_n 1) 23, oj (.ifCond .ne 7) 26 30, nn, nn, oo (.iconst 0) 27, oj (.goto 6) 30 33, nn, nn, oo (.sipush 9999) 33, nn],
  [nn, oo (.istore_n 3) 34, oo (.iconst 0) 35, oo (.istore 4) 37, nn, oo (.iload 4) 39, nn, oo (.aload_n 0) 40, of (.getfield 437) 43 12 60, nn, nn, oj (.if_icmp .ge 68) 46 111, nn, nn, oo (.iload_n 1) 47, oo (.iload 4) 49],
  [nn, oo .ishr 50, oo (.iconst 1) 51, oo .iand 52, oj (.ifCond .ne 6) 55 58, nn, nn, oj (.goto 50) 58 105, nn, nn, oo (.aload_n 0) 59, of (.getfield 137) 62 12 61, nn, nn, oo (.iload_n 2) 63, oo .iaload 64],
  [oo (.aload_n 0) 65, of (.getfield 137) 68 12 61, nn, nn, oo (.iload 4) 70, nn, oo .iaload 71, om (.invokestatic 434) 74 0 yX12_stepsOff, nn, nn, oo (.aload_n 0) 75, of (.getfield 140) 78 12 62, nn, nn, oo (.bipush 10) 80, nn],
  [oo (.iload_n 1) 81, oo (.iconst 1) 82, oo (.iload 4) 84, nn, oo .ishl 85, oo (.iconst (-1)) 86, oo .ixor 87, oo .iand 88, oo .imul 89, oo (.iload 4) 91, nn, oo .iadd 92, oo .iaload 93, oo .iadd 94, oo (.istore 5) 96, nn],
  [oo (.iload 5) 98, nn, oo (.iload_n 3) 99, oj (.if_icmp .ge 6) 102 105, nn, nn, oo (.iload 5) 104, nn, oo (.istore_n 3) 105, oo (.iinc 4 1) 108, nn, nn, oj (.goto (-71)) 111 37, nn, nn, oo (.aload_n 0) 112],
  [of (.getfield 140) 115 12 62, nn, nn, oo (.bipush 10) 117, nn, oo (.iload_n 1) 118, oo .imul 119, oo (.iload_n 2) 120, oo .iadd 121, oo (.iload_n 3) 122, oo .iastore 123, oo (.iinc 2 1) 126, nn, nn, oj (.goto (-112)) 129 14, nn],
  [nn, oo (.iinc 1 1) 132, nn, nn, oj (.goto (-130)) 135 2, nn, nn, oo .return_ 136, nn, nn, nn, nn, nn, nn, nn, nn]])
def P_X12_fillsRest : List (List (List Nat)) := [[[],[],[],[],[],[1211],[],[],[],[],[],[],[],[],[],[]], [[1211],[],[],[],[],[],[],[],[],[],[],[],[],[],[],[]], [[],[],[],[],[],[],[],[],[1211],[],[],[],[],[],[],[]], [[],[],[],[],[],[],[],[],[],[],[],[1212],[],[],[],[]], [[],[1212],[],[],[],[],[],[1637,1638],[],[],[],[1213],[],[],[],[]], [[],[],[],[],[],[],[],[],[],[],[],[],[],[],[],[]], [[],[],[],[],[],[],[],[],[],[],[],[],[],[],[],[]], [[1213],[],[],[],[],[],[],[],[],[],[],[],[],[],[],[]], [[],[],[],[],[],[],[],[],[],[],[],[],[],[],[],[]]]
set_option maxRecDepth 100000 in
theorem kT_X12_fillsRest : ab_okT M_X12_fillsRest := ab_okT_of (P := P_X12_fillsRest) 144 (Nat.le_of_ble_eq_true rfl) (fun pc h => ab_chkR_of (lo := 0) (len := 144) (by decide +kernel) pc (Nat.zero_le _) (by omega))
theorem kY_X12_fillsRest : ab_okY M_X12_fillsRest := ab_okY_of 1654 124 (by decide +kernel)
def M_X12_roundFrom : ab_M := (yX12_roundFrom, cX12_roundFrom, 6, (some .int), 12, 2, [
  [oo (.aload_n 0) 1, oo (.bipush (-2)) 3, nn, of (.putfield 440) 6 12 63, nn, nn, oo (.iconst 0) 7, oo (.istore_n 3) 8, oo (.iconst 0) 9, oo (.istore 4) 11, nn, oo (.iload 4) 13, nn, oo (.aload_n 0) 14, of (.getfield 437) 17 12 60, nn],
  [nn, oj (.if_icmp .ge 84) 20 101, nn, nn, oo (.iload_n 2) 21, oo (.iload 4) 23, nn, oo .ishr 24, oo (.iconst 1) 25, oo .iand 26, oj (.ifCond .ne 6) 29 32, nn, nn, oj (.goto 66) 32 95, nn, nn],
  [oo (.iload_n 1) 33, oo (.aload_n 0) 34, of (.getfield 137) 37 12 61, nn, nn, oo (.iload 4) 39, nn, oo .iaload 40, om (.invokestatic 434) 43 0 yX12_stepsOff, nn, nn, oo (.aload_n 0) 44, of (.getfield 140) 47 12 62, nn, nn, oo (.bipush 10) 49],
  [nn, oo (.iload_n 2) 50, oo (.iconst 1) 51, oo (.iload 4) 53, nn, oo .ishl 54, oo (.iconst (-1)) 55, oo .ixor 56, oo .iand 57, oo .imul 58, oo (.iload 4) 60, nn, oo .iadd 61, oo .iaload 62, oo .iadd 63, oo (.istore 5) 65],
  [nn, oo (.aload_n 0) 66, of (.getfield 440) 69 12 63, nn, nn, oj (.ifCond .lt 12) 72 81, nn, nn, oo (.iload 5) 74, nn, oo (.iload_n 3) 75, oj (.if_icmp .lt 6) 78 81, nn, nn, oj (.goto 17) 81 95, nn],
  [nn, oo (.iload 5) 83, nn, oo (.istore_n 3) 84, oo (.aload_n 0) 85, oo (.aload_n 0) 86, of (.getfield 137) 89 12 61, nn, nn, oo (.iload 4) 91, nn, oo .iaload 92, of (.putfield 440) 95 12 63, nn, nn, oo (.iinc 4 1) 98],
  [nn, nn, oj (.goto (-87)) 101 11, nn, nn, oo (.iload_n 3) 102, oo .ireturn 103, nn, nn, nn, nn, nn, nn, nn, nn, nn]])
def P_X12_roundFrom : List (List (List Nat)) := [[[],[],[],[1214],[],[],[],[],[],[],[],[],[],[],[1211],[]], [[],[],[],[],[],[],[],[],[],[],[],[],[],[],[],[]], [[],[],[1212],[],[],[],[],[],[1637,1638],[],[],[],[1213],[],[],[]], [[],[],[],[],[],[],[],[],[],[],[],[],[],[],[],[]], [[],[],[1214],[],[],[],[],[],[],[],[],[],[],[],[],[]], [[],[],[],[],[],[],[1212],[],[],[],[],[],[1214],[],[],[]], [[],[],[],[],[],[],[],[],[],[],[],[],[],[],[],[]]]
set_option maxRecDepth 100000 in
theorem kT_X12_roundFrom : ab_okT M_X12_roundFrom := ab_okT_of (P := P_X12_roundFrom) 112 (Nat.le_of_ble_eq_true rfl) (fun pc h => ab_chkR_of (lo := 0) (len := 112) (by decide +kernel) pc (Nat.zero_le _) (by omega))
theorem kY_X12_roundFrom : ab_okY M_X12_roundFrom := ab_okY_of 1658 124 (by decide +kernel)
def M_X12_round : ab_M := (yX12_round, cX12_round, 5, (some .int), 12, 2, [
  [oo (.aload_n 0) 1, oo (.iload_n 1) 2, om (.invokevirtual 412) 5 0 yX12_isPicker, nn, nn, oj (.ifCond .eq 12) 8 17, nn, nn, oo (.iload_n 2) 9, oo (.iconst 0) 10, oo (.iconst 1) 11, om (.invokestatic 327) 14 0 yX12_in, nn, nn, oj (.ifCond .ne 5) 17 19, nn],
  [nn, oo (.iconst (-1)) 18, oo .ireturn 19, oo (.aload_n 0) 20, om (.invokevirtual 341) 23 0 yX12_copies, nn, nn, oo (.aload_n 0) 24, oo (.iload_n 1) 25, om (.invokevirtual 378) 28 0 yX12_cellOfPicker, nn, nn, oo (.istore_n 3) 29, oo (.aload_n 0) 30, oo (.iload_n 3) 31, oo (.iload_n 3) 32],
  [om (.invokevirtual 443) 35 0 yX12_fillsCells, nn, nn, oo (.aload_n 0) 36, of (.getfield 437) 39 12 60, nn, nn, oo (.bipush 10) 41, nn, oj (.if_icmp .le 6) 44 47, nn, nn, oo (.bipush (-3)) 46, nn, oo .ireturn 47, oo (.aload_n 0) 48],
  [om (.invokevirtual 446) 51 0 yX12_fillsRest, nn, nn, oo (.aload_n 0) 52, oo (.iload_n 3) 53, oo (.iconst 1) 54, oo (.aload_n 0) 55, of (.getfield 437) 58 12 60, nn, nn, oo .ishl 59, oo (.iconst 1) 60, oo .isub 61, om (.invokevirtual 449) 64 0 yX12_roundFrom, nn, nn],
  [oo (.istore 4) 66, nn, oo (.iload_n 2) 67, oj (.ifCond .ne 8) 70 75, nn, nn, oo (.iload 4) 72, nn, oj (.goto 7) 75 79, nn, nn, oo (.aload_n 0) 76, of (.getfield 440) 79 12 63, nn, nn, oo .ireturn 80]])
def P_X12_round : List (List (List Nat)) := [[[],[],[1547,1549,77],[],[],[],[],[],[],[],[],[1489,1490],[],[],[],[]], [[],[],[],[],[1492,1494,65],[],[],[],[],[1609,1611,86],[],[],[],[],[],[]], [[1647,1649,90],[],[],[],[1211],[],[],[],[],[],[],[],[],[],[],[]], [[1651,1653,91],[],[],[],[],[],[],[1211],[],[],[],[],[],[1655,1657,92],[],[]], [[],[],[],[],[],[],[],[],[],[],[],[],[1214],[],[],[]]]
set_option maxRecDepth 100000 in
theorem kT_X12_round : ab_okT M_X12_round := ab_okT_of (P := P_X12_round) 80 (Nat.le_of_ble_eq_true rfl) (fun pc h => ab_chkR_of (lo := 0) (len := 80) (by decide +kernel) pc (Nat.zero_le _) (by omega))
theorem kY_X12_round : ab_okY M_X12_round := ab_okY_of 1646 124 (by decide +kernel)
