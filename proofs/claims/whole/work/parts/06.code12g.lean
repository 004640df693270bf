def M_X12_share : ab_M := (yX12_share, cX12_share, 10, (some .int), 12, 2, [
  [oo (.aload_n 0) 1, oo (.iload_n 1) 2, om (.invokevirtual 412) 5 0 yX12_isPicker, nn, nn, oj (.ifCond .eq 16) 8 21, nn, nn, oo (.aload_n 0) 9, oo (.iload_n 2) 10, om (.invokevirtual 412) 13 0 yX12_isPicker, nn, nn, oj (.ifCond .eq 8) 16 21, nn, nn],
  [oo (.iload_n 1) 17, oo (.iload_n 2) 18, oj (.if_icmp .ne 5) 21 23, nn, nn, oo (.iconst (-1)) 22, oo .ireturn 23, oo (.aload_n 0) 24, om (.invokevirtual 341) 27 0 yX12_copies, nn, nn, oo (.aload_n 0) 28, oo (.iload_n 1) 29, om (.invokevirtual 378) 32 0 yX12_cellOfPicker, nn, nn],
  [oo (.istore_n 3) 33, oo (.aload_n 0) 34, oo (.iload_n 2) 35, om (.invokevirtual 378) 38 0 yX12_cellOfPicker, nn, nn, oo (.istore 4) 40, nn, oo (.aload_n 0) 41, oo (.iconst (-1)) 42, oo (.iconst (-1)) 43, om (.invokevirtual 443) 46 0 yX12_fillsCells, nn, nn, oo (.aload_n 0) 47, of (.getfield 437) 50 12 60],
  [nn, nn, oo (.bipush 10) 52, nn, oj (.if_icmp .le 6) 55 58, nn, nn, oo (.bipush (-3)) 57, nn, oo .ireturn 58, oo (.aload_n 0) 59, om (.invokevirtual 446) 62 0 yX12_fillsRest, nn, nn, oo (.iconst 1) 63, oo (.aload_n 0) 64],
  [of (.getfield 437) 67 12 60, nn, nn, oo .ishl 68, oo (.iconst 1) 69, oo .isub 70, oo (.istore 5) 72, nn, oo (.sipush 9999) 75, nn, nn, oo (.istore 6) 77, nn, oo (.iconst 0) 78, oo (.istore 7) 80, nn],
  [oo (.iload 7) 82, nn, oo (.iload 5) 84, nn, oj (.if_icmp .gt 55) 87 139, nn, nn, oo (.aload_n 0) 88, oo (.iload_n 3) 89, oo (.iload 7) 91, nn, om (.invokevirtual 449) 94 0 yX12_roundFrom, nn, nn, oo (.istore 8) 96, nn],
  [oo (.aload_n 0) 97, oo (.iload 4) 99, nn, oo (.iload 5) 101, nn, oo (.iload 7) 103, nn, oo (.iconst (-1)) 104, oo .ixor 105, oo .iand 106, om (.invokevirtual 449) 109 0 yX12_roundFrom, nn, nn, oo (.istore 9) 111, nn, oo (.iload 9) 113],
  [nn, oo (.iload 8) 115, nn, oj (.if_icmp .le 7) 118 122, nn, nn, oo (.iload 9) 120, nn, oo (.istore 8) 122, nn, oo (.iload 8) 124, nn, oo (.iload 6) 126, nn, oj (.if_icmp .ge 7) 129 133, nn],
  [nn, oo (.iload 8) 131, nn, oo (.istore 6) 133, nn, oo (.iinc 7 1) 136, nn, nn, oj (.goto (-56)) 139 80, nn, nn, oo (.iload 6) 141, nn, oo .ireturn 142, nn, nn]])
def P_X12_share : List (List (List Nat)) := [[[],[],[1547,1549,77],[],[],[],[],[],[],[],[1547,1549,77],[],[],[],[],[]], [[],[],[],[],[],[],[],[],[1492,1494,65],[],[],[],[],[1609,1611,86],[],[]], [[],[],[],[1609,1611,86],[],[],[],[],[],[],[],[1647,1649,90],[],[],[],[1211]], [[],[],[],[],[],[],[],[],[],[],[],[1651,1653,91],[],[],[],[]], [[1211],[],[],[],[],[],[],[],[],[],[],[],[],[],[],[]], [[],[],[],[],[],[],[],[],[],[],[],[1655,1657,92],[],[],[],[]], [[],[],[],[],[],[],[],[],[],[],[1655,1657,92],[],[],[],[],[]], [[],[],[],[],[],[],[],[],[],[],[],[],[],[],[],[]], [[],[],[],[],[],[],[],[],[],[],[],[],[],[],[],[]]]
set_option maxRecDepth 100000 in
theorem kT_X12_share : ab_okT M_X12_share := ab_okT_of (P := P_X12_share) 144 (Nat.le_of_ble_eq_true rfl) (fun pc h => ab_chkR_of (lo := 0) (len := 144) (by decide +kernel) pc (Nat.zero_le _) (by omega))
theorem kY_X12_share : ab_okY M_X12_share := ab_okY_of 1662 124 (by decide +kernel)
def M_X12_closest : ab_M := (yX12_closest, cX12_closest, 7, (some .int), 12, 2, [
  [oo (.iload_n 1) 1, oo (.iload_n 2) 2, om (.invokestatic 418) 5 0 yX12_isCell, nn, nn, oj (.ifCond .ne 5) 8 10, nn, nn, oo (.iconst (-1)) 9, oo .ireturn 10, oo (.aload_n 0) 11, om (.invokevirtual 341) 14 0 yX12_copies, nn, nn, oo (.bipush (-2)) 16, nn],
  [oo (.istore_n 3) 17, oo (.iconst 0) 18, oo (.istore 4) 20, nn, oo (.iconst 0) 21, oo (.istore 5) 23, nn, oo (.iload 5) 25, nn, oo (.aload_n 0) 26, of (.getfield 58) 29 12 26, nn, nn, oo (.aload_n 0) 30, of (.getfield 239) 33 12 18, nn],
  [nn, oo .iaload 34, oj (.if_icmp .ge 47) 37 81, nn, nn, oo (.aload_n 0) 38, oo (.iload 5) 40, nn, om (.invokevirtual 378) 43 0 yX12_cellOfPicker, nn, nn, oo (.bipush 10) 45, nn, oo (.iload_n 2) 46, oo .imul 47, oo (.iload_n 1) 48],
  [oo .iadd 49, om (.invokestatic 434) 52 0 yX12_stepsOff, nn, nn, oo (.istore 6) 54, nn, oo (.iload_n 3) 55, oj (.ifCond .lt 13) 58 68, nn, nn, oo (.iload 6) 60, nn, oo (.iload 4) 62, nn, oj (.if_icmp .lt 6) 65 68, nn],
  [nn, oj (.goto 10) 68 75, nn, nn, oo (.iload 5) 70, nn, oo (.istore_n 3) 71, oo (.iload 6) 73, nn, oo (.istore 4) 75, nn, oo (.iinc 5 1) 78, nn, nn, oj (.goto (-55)) 81 23, nn],
  [nn, oo (.iload_n 3) 82, oo .ireturn 83, nn, nn, nn, nn, nn, nn, nn, nn, nn, nn, nn, nn, nn]])
def P_X12_closest : List (List (List Nat)) := [[[],[],[1567,1568],[],[],[],[],[],[],[],[],[1492,1494,65],[],[],[],[]], [[],[],[],[],[],[],[],[],[],[],[1177],[],[],[],[1169],[]], [[],[],[],[],[],[],[],[],[1609,1611,86],[],[],[],[],[],[],[]], [[],[1637,1638],[],[],[],[],[],[],[],[],[],[],[],[],[],[]], [[],[],[],[],[],[],[],[],[],[],[],[],[],[],[],[]], [[],[],[],[],[],[],[],[],[],[],[],[],[],[],[],[]]]
set_option maxRecDepth 100000 in
theorem kT_X12_closest : ab_okT M_X12_closest := ab_okT_of (P := P_X12_closest) 96 (Nat.le_of_ble_eq_true rfl) (fun pc h => ab_chkR_of (lo := 0) (len := 96) (by decide +kernel) pc (Nat.zero_le _) (by omega))
theorem kY_X12_closest : ab_okY M_X12_closest := ab_okY_of 1666 124 (by decide +kernel)
def M_X12_richest : ab_M := (yX12_richest, cX12_richest, 5, (some .int), 12, 1, [
  [oo (.iload_n 1) 1, oo (.iconst 0) 2, oo (.iconst 1) 3, om (.invokestatic 327) 6 0 yX12_in, nn, nn, oj (.ifCond .ne 5) 9 11, nn, nn, oo (.iconst (-1)) 10, oo .ireturn 11, oo (.aload_n 0) 12, om (.invokevirtual 341) 15 0 yX12_copies, nn, nn, oo (.bipush (-2)) 17],
  [nn, oo (.istore_n 2) 18, oo (.iconst 0) 19, oo (.istore_n 3) 20, oo (.iconst 0) 21, oo (.istore 4) 23, nn, oo (.iload 4) 25, nn, oo (.bipush 80) 27, nn, oj (.if_icmp .ge 32) 30 59, nn, nn, oo (.aload_n 0) 31, oo (.iload 4) 33],
  [nn, om (.invokevirtual 360) 36 0 yX12_lieAt, nn, nn, oo (.iload_n 3) 37, oj (.if_icmp .gt 6) 40 43, nn, nn, oj (.goto 13) 43 53, nn, nn, oo (.iload 4) 45, nn, oo (.istore_n 2) 46, oo (.aload_n 0) 47, oo (.iload 4) 49],
  [nn, om (.invokevirtual 360) 52 0 yX12_lieAt, nn, nn, oo (.istore_n 3) 53, oo (.iinc 4 1) 56, nn, nn, oj (.goto (-33)) 59 23, nn, nn, oo (.iload_n 2) 60, oj (.ifCond .lt 7) 63 67, nn, nn, oo (.iload_n 1) 64],
  [oj (.ifCond .ne 7) 67 71, nn, nn, oo (.iload_n 2) 68, oj (.goto 4) 71 72, nn, nn, oo (.iload_n 3) 72, oo .ireturn 73, nn, nn, nn, nn, nn, nn, nn]])
def P_X12_richest : List (List (List Nat)) := [[[],[],[],[1489,1490],[],[],[],[],[],[],[],[],[1492,1494,65],[],[],[]], [[],[],[],[],[],[],[],[],[],[],[],[],[],[],[],[]], [[],[1524,1526,73],[],[],[],[],[],[],[],[],[],[],[],[],[],[]], [[],[1524,1526,73],[],[],[],[],[],[],[],[],[],[],[],[],[],[]], [[],[],[],[],[],[],[],[],[],[],[],[],[],[],[],[]]]
set_option maxRecDepth 100000 in
theorem kT_X12_richest : ab_okT M_X12_richest := ab_okT_of (P := P_X12_richest) 80 (Nat.le_of_ble_eq_true rfl) (fun pc h => ab_chkR_of (lo := 0) (len := 80) (by decide +kernel) pc (Nat.zero_le _) (by omega))
theorem kY_X12_richest : ab_okY M_X12_richest := ab_okY_of 1670 124 (by decide +kernel)
def M_X12_isHeap : ab_M := (yX12_isHeap, cX12_isHeap, 2, (some .boolean), 12, 1, [
  [oo (.iload_n 1) 1, oo (.iconst 0) 2, oo (.iconst 3) 3, om (.invokestatic 327) 6 0 yX12_in, nn, nn, oj (.ifCond .eq 11) 9 17, nn, nn, oo (.aload_n 0) 10, oo (.iload_n 1) 11, om (.invokevirtual 412) 14 0 yX12_isPicker, nn, nn, oj (.goto 9) 17 23, nn],
  [nn, oo (.iload_n 1) 18, oo (.iconst 4) 19, oo (.iconst 5) 20, om (.invokestatic 327) 23 0 yX12_in, nn, nn, oo .ireturn 24, nn, nn, nn, nn, nn, nn, nn, nn]])
def P_X12_isHeap : List (List (List Nat)) := [[[],[],[],[1489,1490],[],[],[],[],[],[],[],[1547,1549,77],[],[],[],[]], [[],[],[],[],[1489,1490],[],[],[],[],[],[],[],[],[],[],[]]]
set_option maxRecDepth 100000 in
theorem kT_X12_isHeap : ab_okT M_X12_isHeap := ab_okT_of (P := P_X12_isHeap) 32 (Nat.le_of_ble_eq_true rfl) (fun pc h => ab_chkR_of (lo := 0) (len := 32) (by decide +kernel) pc (Nat.zero_le _) (by omega))
theorem kY_X12_isHeap : ab_okY M_X12_isHeap := ab_okY_of 1678 124 (by decide +kernel)
def M_X12_fillsHeap : ab_M := (yX12_fillsHeap, cX12_fillsHeap, 3, none, 12, 1, [
  [oo (.iconst 0) 1, oo (.istore_n 2) 2, oo (.iload_n 2) 3, oo (.bipush 27) 5, nn, oj (.if_icmp .ge 16) 8 21, nn, nn, oo (.aload_n 0) 9, of (.getfield 143) 12 12 64, nn, nn, oo (.iload_n 2) 13, oo (.iconst 0) 14, oo .iastore 15, oo (.iinc 2 1) 18],
  [nn, nn, oj (.goto (-16)) 21 2, nn, nn, oo (.iconst 0) 22, oo (.istore_n 2) 23, oo (.iload_n 2) 24, oo (.aload_n 0) 25, of (.getfield 324) 28 12 54, nn, nn, oj (.if_icmp .ge 59) 31 87, nn, nn, oo (.iload_n 1) 32],
  [oo (.iconst 5) 33, oj (.if_icmp .eq 33) 36 66, nn, nn, oo (.iload_n 1) 37, oo (.iconst 4) 38, oj (.if_icmp .ne 15) 41 53, nn, nn, oo (.aload_n 0) 42, of (.getfield 119) 45 12 50, nn, nn, oo (.bipush 64) 47, nn, oo (.iload_n 2) 48],
  [oo .iadd 49, oo .iaload 50, oj (.ifCond .lt 16) 53 66, nn, nn, oo (.aload_n 0) 54, of (.getfield 119) 57 12 50, nn, nn, oo (.bipush 64) 59, nn, oo (.iload_n 2) 60, oo .iadd 61, oo .iaload 62, oo (.iload_n 1) 63, oj (.if_icmp .ne 18) 66 81],
  [nn, nn, oo (.aload_n 0) 67, of (.getfield 143) 70 12 64, nn, nn, oo (.aload_n 0) 71, of (.getfield 125) 74 12 55, nn, nn, oo (.iload_n 2) 75, oo .iaload 76, oo .dup2 77, oo .iaload 78, oo (.iconst 1) 79, oo .iadd 80],
  [oo .iastore 81, oo (.iinc 2 1) 84, nn, nn, oj (.goto (-61)) 87 23, nn, nn, oo .return_ 88, nn, nn, nn, nn, nn, nn, nn, nn]])
def P_X12_fillsHeap : List (List (List Nat)) := [[[],[],[],[],[],[],[],[],[],[1215],[],[],[],[],[],[]], [[],[],[],[],[],[],[],[],[],[1205],[],[],[],[],[],[]], [[],[],[],[],[],[],[],[],[],[],[1201],[],[],[],[],[]], [[],[],[],[],[],[],[1201],[],[],[],[],[],[],[],[],[]], [[],[],[],[1215],[],[],[],[1206],[],[],[],[],[],[],[],[]], [[],[],[],[],[],[],[],[],[],[],[],[],[],[],[],[]]]
set_option maxRecDepth 100000 in
theorem kT_X12_fillsHeap : ab_okT M_X12_fillsHeap := ab_okT_of (P := P_X12_fillsHeap) 96 (Nat.le_of_ble_eq_true rfl) (fun pc h => ab_chkR_of (lo := 0) (len := 96) (by decide +kernel) pc (Nat.zero_le _) (by omega))
theorem kY_X12_fillsHeap : ab_okY M_X12_fillsHeap := ab_okY_of 1682 124 (by decide +kernel)
def M_X12_wordAt : ab_M := (yX12_wordAt, cX12_wordAt, 2, (some .long), 12, 1, [
  [oo (.aload_n 0) 1, of (.getfield 55) 4 12 25, nn, nn, oo (.bipush 8) 6, nn, oo (.aload_n 0) 7, of (.getfield 239) 10 12 18, nn, nn, oo .imul 11, oo (.iload_n 1) 12, oo .iadd 13, oo .laload 14, oo .lreturn 15, nn]])
def P_X12_wordAt : List (List (List Nat)) := [[[],[1176],[],[],[],[],[],[1169],[],[],[],[],[],[],[],[]]]
set_option maxRecDepth 100000 in
theorem kT_X12_wordAt : ab_okT M_X12_wordAt := ab_okT_of (P := P_X12_wordAt) 16 (Nat.le_of_ble_eq_true rfl) (fun pc h => ab_chkR_of (lo := 0) (len := 16) (by decide +kernel) pc (Nat.zero_le _) (by omega))
theorem kY_X12_wordAt : ab_okY M_X12_wordAt := ab_okY_of 1690 124 (by decide +kernel)
def M_X12_missingOf : ab_M := (yX12_missingOf, cX12_missingOf, 4, (some .int), 12, 1, [
  [oo (.iconst 0) 1, oo (.istore_n 2) 2, oo (.iconst 1) 3, oo (.istore_n 3) 4, oo (.iload_n 3) 5, oo (.bipush 27) 7, nn, oj (.if_icmp .ge 46) 10 53, nn, nn, oo (.aload_n 0) 11, oo (.iload_n 1) 12, om (.invokevirtual 452) 15 0 yX12_wordAt, nn, nn, oo (.iload_n 3) 16],
  [om (.invokestatic 456) 19 0 yX12_timesIn, nn, nn, oo (.aload_n 0) 20, of (.getfield 143) 23 12 64, nn, nn, oo (.iload_n 3) 24, oo .iaload 25, oj (.if_icmp .le 22) 28 47, nn, nn, oo (.iload_n 2) 29, oo (.aload_n 0) 30, oo (.iload_n 1) 31, om (.invokevirtual 452) 34 0 yX12_wordAt],
  [nn, nn, oo (.iload_n 3) 35, om (.invokestatic 456) 38 0 yX12_timesIn, nn, nn, oo (.aload_n 0) 39, of (.getfield 143) 42 12 64, nn, nn, oo (.iload_n 3) 43, oo .iaload 44, oo .isub 45, oo .iadd 46, oo (.istore_n 2) 47, oo (.iinc 3 1) 50],
  [nn, nn, oj (.goto (-46)) 53 4, nn, nn, oo (.iload_n 2) 54, oo .ireturn 55, nn, nn, nn, nn, nn, nn, nn, nn, nn]])
def P_X12_missingOf : List (List (List Nat)) := [[[],[],[],[],[],[],[],[],[],[],[],[],[1687,1689,96],[],[],[]], [[1691,1692],[],[],[],[1215],[],[],[],[],[],[],[],[],[],[],[1687,1689,96]], [[],[],[],[1691,1692],[],[],[],[1215],[],[],[],[],[],[],[],[]], [[],[],[],[],[],[],[],[],[],[],[],[],[],[],[],[]]]
set_option maxRecDepth 100000 in
theorem kT_X12_missingOf : ab_okT M_X12_missingOf := ab_okT_of (P := P_X12_missingOf) 64 (Nat.le_of_ble_eq_true rfl) (fun pc h => ab_chkR_of (lo := 0) (len := 64) (by decide +kernel) pc (Nat.zero_le _) (by omega))
theorem kY_X12_missingOf : ab_okY M_X12_missingOf := ab_okY_of 1686 124 (by decide +kernel)
def M_X12_made : ab_M := (yX12_made, cX12_made, 4, (some .int), 12, 1, [
  [oo (.aload_n 0) 1, oo (.iload_n 1) 2, om (.invokevirtual 459) 5 0 yX12_isHeap, nn, nn, oj (.ifCond .ne 5) 8 10, nn, nn, oo (.iconst (-1)) 9, oo .ireturn 10, oo (.aload_n 0) 11, oo (.iload_n 1) 12, om (.invokevirtual 462) 15 0 yX12_fillsHeap, nn, nn, oo (.iconst 0) 16],
  [oo (.istore_n 2) 17, oo (.iconst 0) 18, oo (.istore_n 3) 19, oo (.iload_n 3) 20, oo (.aload_n 0) 21, of (.getfield 52) 24 12 24, nn, nn, oo (.aload_n 0) 25, of (.getfield 239) 28 12 18, nn, nn, oo .iaload 29, oj (.if_icmp .ge 23) 32 52, nn, nn],
  [oo (.aload_n 0) 33, oo (.iload_n 3) 34, om (.invokevirtual 465) 37 0 yX12_missingOf, nn, nn, oj (.ifCond .ne 9) 40 46, nn, nn, oo (.iload_n 2) 41, oo (.iconst 1) 42, oo (.iload_n 3) 43, oo .ishl 44, oo .ior 45, oo (.istore_n 2) 46, oo (.iinc 3 1) 49, nn],
  [nn, oj (.goto (-30)) 52 19, nn, nn, oo (.iload_n 2) 53, oo .ireturn 54, nn, nn, nn, nn, nn, nn, nn, nn, nn, nn]])
def P_X12_made : List (List (List Nat)) := [[[],[],[1675,1677,93],[],[],[],[],[],[],[],[],[],[1679,1681,94],[],[],[]], [[],[],[],[],[],[1175],[],[],[],[1169],[],[],[],[],[],[]], [[],[],[1683,1685,95],[],[],[],[],[],[],[],[],[],[],[],[],[]], [[],[],[],[],[],[],[],[],[],[],[],[],[],[],[],[]]]
set_option maxRecDepth 100000 in
theorem kT_X12_made : ab_okT M_X12_made := ab_okT_of (P := P_X12_made) 64 (Nat.le_of_ble_eq_true rfl) (fun pc h => ab_chkR_of (lo := 0) (len := 64) (by decide +kernel) pc (Nat.zero_le _) (by omega))
theorem kY_X12_made : ab_okY M_X12_made := ab_okY_of 1674 124 (by decide +kernel)
def M_X12_areMade : ab_M := (yX12_areMade, cX12_areMade, 5, (some .boolean), 12, 1, [
  [oo (.iconst 1) 1, oo (.istore_n 2) 2, oo (.iload_n 2) 3, oo (.bipush 27) 5, nn, oj (.if_icmp .ge 69) 8 74, nn, nn, oo (.iconst 0) 9, oo (.istore_n 3) 10, oo (.iconst 0) 11, oo (.istore 4) 13, nn, oo (.iload 4) 15, nn, oo (.aload_n 0) 16],
  [of (.getfield 52) 19 12 24, nn, nn, oo (.aload_n 0) 20, of (.getfield 239) 23 12 18, nn, nn, oo .iaload 24, oj (.if_icmp .ge 32) 27 56, nn, nn, oo (.iload_n 1) 28, oo (.iload 4) 30, nn, oo .ishr 31, oo (.iconst 1) 32],
  [oo .iand 33, oo (.iconst 1) 34, oj (.if_icmp .ne 16) 37 50, nn, nn, oo (.iload_n 3) 38, oo (.aload_n 0) 39, oo (.iload 4) 41, nn, om (.invokevirtual 452) 44 0 yX12_wordAt, nn, nn, oo (.iload_n 2) 45, om (.invokestatic 456) 48 0 yX12_timesIn, nn, nn],
  [oo .iadd 49, oo (.istore_n 3) 50, oo (.iinc 4 1) 53, nn, nn, oj (.goto (-40)) 56 13, nn, nn, oo (.iload_n 3) 57, oo (.aload_n 0) 58, of (.getfield 143) 61 12 64, nn, nn, oo (.iload_n 2) 62, oo .iaload 63, oj (.if_icmp .le 5) 66 68],
  [nn, nn, oo (.iconst 0) 67, oo .ireturn 68, oo (.iinc 2 1) 71, nn, nn, oj (.goto (-69)) 74 2, nn, nn, oo (.iconst 1) 75, oo .ireturn 76, nn, nn, nn, nn]])
def P_X12_areMade : List (List (List Nat)) := [[[],[],[],[],[],[],[],[],[],[],[],[],[],[],[],[]], [[1175],[],[],[],[1169],[],[],[],[],[],[],[],[],[],[],[]], [[],[],[],[],[],[],[],[],[],[1687,1689,96],[],[],[],[1691,1692],[],[]], [[],[],[],[],[],[],[],[],[],[],[1215],[],[],[],[],[]], [[],[],[],[],[],[],[],[],[],[],[],[],[],[],[],[]]]
set_option maxRecDepth 100000 in
theorem kT_X12_areMade : ab_okT M_X12_areMade := ab_okT_of (P := P_X12_areMade) 80 (Nat.le_of_ble_eq_true rfl) (fun pc h => ab_chkR_of (lo := 0) (len := 80) (by decide +kernel) pc (Nat.zero_le _) (by omega))
theorem kY_X12_areMade : ab_okY M_X12_areMade := ab_okY_of 1704 124 (by decide +kernel)
def M_X12_together : ab_M := (yX12_together, cX12_together, 4, (some .int), 12, 1, [
  [oo (.iload_n 1) 1, oo (.iconst 0) 2, oo (.iconst 1) 3, om (.invokestatic 327) 6 0 yX12_in, nn, nn, oj (.ifCond .ne 5) 9 11, nn, nn, oo (.iconst (-1)) 10, oo .ireturn 11, oo (.aload_n 0) 12, oo (.iconst 5) 13, om (.invokevirtual 462) 16 0 yX12_fillsHeap, nn, nn],
  [oo (.iconst 0) 17, oo (.istore_n 2) 18, oo (.iconst 1) 19, oo (.istore_n 3) 20, oo (.iload_n 3) 21, oo (.iconst 1) 22, oo (.aload_n 0) 23, of (.getfield 52) 26 12 24, nn, nn, oo (.aload_n 0) 27, of (.getfield 239) 30 12 18, nn, nn, oo .iaload 31, oo .ishl 32],
  [oj (.if_icmp .ge 30) 35 62, nn, nn, oo (.iload_n 3) 36, om (.invokestatic 468) 39 0 yX12_bits, nn, nn, oo (.iload_n 2) 40, om (.invokestatic 468) 43 0 yX12_bits, nn, nn, oj (.if_icmp .le 13) 46 56, nn, nn, oo (.aload_n 0) 47, oo (.iload_n 3) 48],
  [om (.invokevirtual 471) 51 0 yX12_areMade, nn, nn, oj (.ifCond .eq 5) 54 56, nn, nn, oo (.iload_n 3) 55, oo (.istore_n 2) 56, oo (.iinc 3 1) 59, nn, nn, oj (.goto (-39)) 62 20, nn, nn, oo (.iload_n 1) 63, oj (.ifCond .ne 10) 66 73],
  [nn, nn, oo (.iload_n 2) 67, om (.invokestatic 468) 70 0 yX12_bits, nn, nn, oj (.goto 4) 73 74, nn, nn, oo (.iload_n 2) 74, oo .ireturn 75, nn, nn, nn, nn, nn]])
def P_X12_together : List (List (List Nat)) := [[[],[],[],[1489,1490],[],[],[],[],[],[],[],[],[],[1679,1681,94],[],[]], [[],[],[],[],[],[],[],[1175],[],[],[],[1169],[],[],[],[]], [[],[],[],[],[1698,1699],[],[],[],[1698,1699],[],[],[],[],[],[],[]], [[1701,1703,97],[],[],[],[],[],[],[],[],[],[],[],[],[],[],[]], [[],[],[],[1698,1699],[],[],[],[],[],[],[],[],[],[],[],[]]]
set_option maxRecDepth 100000 in
theorem kT_X12_together : ab_okT M_X12_together := ab_okT_of (P := P_X12_together) 80 (Nat.le_of_ble_eq_true rfl) (fun pc h => ab_chkR_of (lo := 0) (len := 80) (by decide +kernel) pc (Nat.zero_le _) (by omega))
theorem kY_X12_together : ab_okY M_X12_together := ab_okY_of 1697 124 (by decide +kernel)
def M_X12_missing : ab_M := (yX12_missing, cX12_missing, 3, (some .int), 12, 2, [
  [oo (.aload_n 0) 1, oo (.iload_n 1) 2, om (.invokevirtual 474) 5 0 yX12_isWord, nn, nn, oj (.ifCond .eq 11) 8 16, nn, nn, oo (.aload_n 0) 9, oo (.iload_n 2) 10, om (.invokevirtual 459) 13 0 yX12_isHeap, nn, nn, oj (.ifCond .ne 5) 16 18, nn, nn],
  [oo (.iconst (-1)) 17, oo .ireturn 18, oo (.aload_n 0) 19, oo (.iload_n 2) 20, om (.invokevirtual 462) 23 0 yX12_fillsHeap, nn, nn, oo (.aload_n 0) 24, oo (.iload_n 1) 25, om (.invokevirtual 465) 28 0 yX12_missingOf, nn, nn, oo .ireturn 29, nn, nn, nn]])
def P_X12_missing : List (List (List Nat)) := [[[],[],[1709,1711,98],[],[],[],[],[],[],[],[1675,1677,93],[],[],[],[],[]], [[],[],[],[],[1679,1681,94],[],[],[],[],[1683,1685,95],[],[],[],[],[],[]]]
set_option maxRecDepth 100000 in
theorem kT_X12_missing : ab_okT M_X12_missing := ab_okT_of (P := P_X12_missing) 32 (Nat.le_of_ble_eq_true rfl) (fun pc h => ab_chkR_of (lo := 0) (len := 32) (by decide +kernel) pc (Nat.zero_le _) (by omega))
theorem kY_X12_missing : ab_okY M_X12_missing := ab_okY_of 1708 124 (by decide +kernel)
def M_X12_longest : ab_M := (yX12_longest, cX12_longest, 4, (some .int), 12, 1, [
  [oo (.aload_n 0) 1, oo (.iload_n 1) 2, om (.invokevirtual 459) 5 0 yX12_isHeap, nn, nn, oj (.ifCond .ne 5) 8 10, nn, nn, oo (.iconst (-1)) 9, oo .ireturn 10, oo (.aload_n 0) 11, oo (.iload_n 1) 12, om (.invokevirtual 462) 15 0 yX12_fillsHeap, nn, nn, oo (.bipush (-2)) 17],
  [nn, oo (.istore_n 2) 18, oo (.iconst 0) 19, oo (.istore_n 3) 20, oo (.iload_n 3) 21, oo (.aload_n 0) 22, of (.getfield 52) 25 12 24, nn, nn, oo (.aload_n 0) 26, of (.getfield 239) 29 12 18, nn, nn, oo .iaload 30, oj (.if_icmp .ge 42) 33 72, nn],
  [nn, oo (.aload_n 0) 34, oo (.iload_n 3) 35, om (.invokevirtual 465) 38 0 yX12_missingOf, nn, nn, oj (.ifCond .ne 28) 41 66, nn, nn, oo (.iload_n 2) 42, oj (.ifCond .lt 22) 45 64, nn, nn, oo (.aload_n 0) 46, oo (.iload_n 3) 47, om (.invokevirtual 452) 50 0 yX12_wordAt],
  [nn, nn, om (.invokestatic 317) 53 0 yX12_lengthOf, nn, nn, oo (.aload_n 0) 54, oo (.iload_n 2) 55, om (.invokevirtual 452) 58 0 yX12_wordAt, nn, nn, om (.invokestatic 317) 61 0 yX12_lengthOf, nn, nn, oj (.if_icmp .le 5) 64 66, nn, nn],
  [oo (.iload_n 3) 65, oo (.istore_n 2) 66, oo (.iinc 3 1) 69, nn, nn, oj (.goto (-49)) 72 20, nn, nn, oo (.iload_n 2) 73, oo .ireturn 74, nn, nn, nn, nn, nn, nn]])
def P_X12_longest : List (List (List Nat)) := [[[],[],[1675,1677,93],[],[],[],[],[],[],[],[],[],[1679,1681,94],[],[],[]], [[],[],[],[],[],[],[1175],[],[],[],[1169],[],[],[],[],[]], [[],[],[],[1683,1685,95],[],[],[],[],[],[],[],[],[],[],[],[1687,1689,96]], [[],[],[1142,1143],[],[],[],[],[1687,1689,96],[],[],[1142,1143],[],[],[],[],[]], [[],[],[],[],[],[],[],[],[],[],[],[],[],[],[],[]]]
set_option maxRecDepth 100000 in
theorem kT_X12_longest : ab_okT M_X12_longest := ab_okT_of (P := P_X12_longest) 80 (Nat.le_of_ble_eq_true rfl) (fun pc h => ab_chkR_of (lo := 0) (len := 80) (by decide +kernel) pc (Nat.zero_le _) (by omega))
theorem kY_X12_longest : ab_okY M_X12_longest := ab_okY_of 1716 124 (by decide +kernel)
def M_X12_whole : ab_M := (yX12_whole, cX12_whole, 3, (some .int), 12, 0, [
  [oo (.iconst 1) 1, oo (.aload_n 0) 2, of (.getfield 40) 5 12 20, nn, nn, oo (.aload_n 0) 6, of (.getfield 239) 9 12 18, nn, nn, oo .iaload 10, oo .ishl 11, oo (.iconst 1) 12, oo .isub 13, oo (.istore_n 1) 14, oo (.iconst 0) 15, oo (.istore_n 2) 16],
  [oo (.iload_n 2) 17, oo (.aload_n 0) 18, of (.getfield 324) 21 12 54, nn, nn, oj (.if_icmp .ge 34) 24 55, nn, nn, oo (.aload_n 0) 25, of (.getfield 119) 28 12 50, nn, nn, oo (.bipush 64) 30, nn, oo (.iload_n 2) 31, oo .iadd 32],
  [oo .iaload 33, oj (.ifCond .ge 16) 36 49, nn, nn, oo (.iload_n 1) 37, oo (.iconst 1) 38, oo (.aload_n 0) 39, of (.getfield 128) 42 12 56, nn, nn, oo (.iload_n 2) 43, oo .iaload 44, oo .ishl 45, oo (.iconst (-1)) 46, oo .ixor 47, oo .iand 48],
  [oo (.istore_n 1) 49, oo (.iinc 2 1) 52, nn, nn, oj (.goto (-36)) 55 16, nn, nn, oo (.iload_n 1) 56, oo .ireturn 57, nn, nn, nn, nn, nn, nn, nn]])
def P_X12_whole : List (List (List Nat)) := [[[],[],[1171],[],[],[],[1169],[],[],[],[],[],[],[],[],[]], [[],[],[1205],[],[],[],[],[],[],[1201],[],[],[],[],[],[]], [[],[],[],[],[],[],[],[1207],[],[],[],[],[],[],[],[]], [[],[],[],[],[],[],[],[],[],[],[],[],[],[],[],[]]]
set_option maxRecDepth 100000 in
theorem kT_X12_whole : ab_okT M_X12_whole := ab_okT_of (P := P_X12_whole) 64 (Nat.le_of_ble_eq_true rfl) (fun pc h => ab_chkR_of (lo := 0) (len := 64) (by decide +kernel) pc (Nat.zero_le _) (by omega))
theorem kY_X12_whole : ab_okY M_X12_whole := ab_okY_of 1720 124 (by decide +kernel)
def M_X12_lossNow : ab_M := (yX12_lossNow, cX12_lossNow, 3, (some .int), 12, 0, [
  [oo (.iconst 0) 1, oo (.istore_n 1) 2, oo (.iconst 0) 3, oo (.istore_n 2) 4, oo (.iload_n 2) 5, oo (.aload_n 0) 6, of (.getfield 324) 9 12 54, nn, nn, oj (.if_icmp .ge 25) 12 34, nn, nn, oo (.aload_n 0) 13, oo (.iload_n 2) 14, om (.invokevirtual 348) 17 0 yX12_doesLie, nn],
  [nn, oj (.ifCond .eq 11) 20 28, nn, nn, oo (.iload_n 1) 21, oo (.aload_n 0) 22, oo (.iload_n 2) 23, om (.invokevirtual 409) 26 0 yX12_takesOf, nn, nn, oo .iadd 27, oo (.istore_n 1) 28, oo (.iinc 2 1) 31, nn, nn, oj (.goto (-27)) 34 4],
  [nn, nn, oo (.iload_n 1) 35, oo .ireturn 36, nn, nn, nn, nn, nn, nn, nn, nn, nn, nn, nn, nn]])
def P_X12_lossNow : List (List (List Nat)) := [[[],[],[],[],[],[],[1205],[],[],[],[],[],[],[],[1500,1502,67],[]], [[],[],[],[],[],[],[],[1536,1538,76],[],[],[],[],[],[],[],[]], [[],[],[],[],[],[],[],[],[],[],[],[],[],[],[],[]]]
set_option maxRecDepth 100000 in
theorem kT_X12_lossNow : ab_okT M_X12_lossNow := ab_okT_of (P := P_X12_lossNow) 48 (Nat.le_of_ble_eq_true rfl) (fun pc h => ab_chkR_of (lo := 0) (len := 48) (by decide +kernel) pc (Nat.zero_le _) (by omega))
theorem kY_X12_lossNow : ab_okY M_X12_lossNow := ab_okY_of 1732 124 (by decide +kernel)
def M_X12_loss : ab_M := (yX12_loss, cX12_loss, 2, (some .int), 12, 1, [
  [oo (.iload_n 1) 1, om (.invokestatic 428) 4 0 yX12_isLong, nn, nn, oj (.ifCond .ne 5) 7 9, nn, nn, oo (.iconst (-1)) 8, oo .ireturn 9, oo (.aload_n 0) 10, om (.invokevirtual 477) 13 0 yX12_copiesStill, nn, nn, oo (.aload_n 0) 14, oo (.iload_n 1) 15, om (.invokevirtual 431) 18 0 yX12_goes],
  [nn, nn, oo (.aload_n 0) 19, om (.invokevirtual 480) 22 0 yX12_lossNow, nn, nn, oo .ireturn 23, nn, nn, nn, nn, nn, nn, nn, nn, nn]])
def P_X12_loss : List (List (List Nat)) := [[[],[1594,1595],[],[],[],[],[],[],[],[],[1725,1727,99],[],[],[],[],[1597,1599,83]], [[],[],[],[1729,1731,100],[],[],[],[],[],[],[],[],[],[],[],[]]]
set_option maxRecDepth 100000 in
theorem kT_X12_loss : ab_okT M_X12_loss := ab_okT_of (P := P_X12_loss) 32 (Nat.le_of_ble_eq_true rfl) (fun pc h => ab_chkR_of (lo := 0) (len := 32) (by decide +kernel) pc (Nat.zero_le _) (by omega))
theorem kY_X12_loss : ab_okY M_X12_loss := ab_okY_of 1724 124 (by decide +kernel)
def M_X12_stand : ab_M := (yX12_stand, cX12_stand, 8, (some .int), 12, 3, [
  [oo (.aload_n 0) 1, oo (.iload_n 1) 2, om (.invokevirtual 412) 5 0 yX12_isPicker, nn, nn, oj (.ifCond .eq 22) 8 27, nn, nn, oo (.iload_n 2) 9, oo (.iconst 1) 10, oo (.bipush 12) 12, nn, om (.invokestatic 327) 15 0 yX12_in, nn, nn, oj (.ifCond .eq 12) 18 27],
  [nn, nn, oo (.iload_n 3) 19, oo (.iconst 0) 20, oo (.iconst 1) 21, om (.invokestatic 327) 24 0 yX12_in, nn, nn, oj (.ifCond .ne 5) 27 29, nn, nn, oo (.iconst (-1)) 28, oo .ireturn 29, oo (.iconst (-1)) 30, oo (.istore 4) 32, nn],
  [oo (.iconst 0) 33, oo (.istore 5) 35, nn, oo (.iconst 0) 36, oo (.istore 6) 38, nn, oo (.iload 6) 40, nn, oo (.bipush 80) 42, nn, oj (.if_icmp .ge 64) 45 106, nn, nn, oo (.aload_n 0) 46, om (.invokevirtual 477) 49 0 yX12_copiesStill, nn],
  [nn, oo (.aload_n 0) 50, of (.getfield 122) 53 12 51, nn, nn, oo (.sipush 136) 56, nn, nn, oo (.iload_n 1) 57, oo .iadd 58, oo (.aload_n 0) 59, oo (.iload_n 1) 60, oo (.iload 6) 62, nn, om (.invokevirtual 422) 65 0 yX12_goalAt, nn],
  [nn, oo .iastore 66, oo (.aload_n 0) 67, oo (.iload_n 2) 68, om (.invokevirtual 431) 71 0 yX12_goes, nn, nn, oo (.aload_n 0) 72, om (.invokevirtual 480) 75 0 yX12_lossNow, nn, nn, oo (.istore 7) 77, nn, oo (.iload 4) 79, nn, oj (.ifCond .lt 13) 82 92],
  [nn, nn, oo (.iload 7) 84, nn, oo (.iload 5) 86, nn, oj (.if_icmp .lt 6) 89 92, nn, nn, oj (.goto 11) 92 100, nn, nn, oo (.iload 6) 94, nn, oo (.istore 4) 96, nn],
  [oo (.iload 7) 98, nn, oo (.istore 5) 100, nn, oo (.iinc 6 1) 103, nn, nn, oj (.goto (-65)) 106 38, nn, nn, oo (.iload_n 3) 107, oj (.ifCond .ne 8) 110 115, nn, nn, oo (.iload 4) 112, nn],
  [oj (.goto 5) 115 117, nn, nn, oo (.iload 5) 117, nn, oo .ireturn 118, nn, nn, nn, nn, nn, nn, nn, nn, nn, nn]])
def P_X12_stand : List (List (List Nat)) := [[[],[],[1547,1549,77],[],[],[],[],[],[],[],[],[],[1489,1490],[],[],[]], [[],[],[],[],[],[1489,1490],[],[],[],[],[],[],[],[],[],[]], [[],[],[],[],[],[],[],[],[],[],[],[],[],[],[1725,1727,99],[]], [[],[],[1202],[],[],[],[],[],[],[],[],[],[],[],[1574,1576,81],[]], [[],[],[],[],[1597,1599,83],[],[],[],[1729,1731,100],[],[],[],[],[],[],[]], [[],[],[],[],[],[],[],[],[],[],[],[],[],[],[],[]], [[],[],[],[],[],[],[],[],[],[],[],[],[],[],[],[]], [[],[],[],[],[],[],[],[],[],[],[],[],[],[],[],[]]]
set_option maxRecDepth 100000 in
theorem kT_X12_stand : ab_okT M_X12_stand := ab_okT_of (P := P_X12_stand) 128 (Nat.le_of_ble_eq_true rfl) (fun pc h => ab_chkR_of (lo := 0) (len := 128) (by decide +kernel) pc (Nat.zero_le _) (by omega))
theorem kY_X12_stand : ab_okY M_X12_stand := ab_okY_of 1736 124 (by decide +kernel)
def M_X12_late : ab_M := (yX12_late, cX12_late, 2, (some .int), 12, 0, [
  [oo (.aload_n 0) 1, om (.invokevirtual 477) 4 0 yX12_copiesStill, nn, nn, oo (.iconst 0) 5, oo (.istore_n 1) 6, oo (.iload_n 1) 7, oo (.bipush 100) 9, nn, oj (.if_icmp .gt 22) 12 31, nn, nn, oo (.aload_n 0) 13, om (.invokevirtual 483) 16 0 yX12_lieMany, nn, nn],
  [oj (.ifCond .ne 5) 19 21, nn, nn, oo (.iload_n 1) 20, oo .ireturn 21, oo (.aload_n 0) 22, om (.invokevirtual 397) 25 0 yX12_hourGoes, nn, nn, oo (.iinc 1 1) 28, nn, nn, oj (.goto (-22)) 31 6, nn, nn, oo (.bipush (-2)) 33],
  [nn, oo .ireturn 34, nn, nn, nn, nn, nn, nn, nn, nn, nn, nn, nn, nn, nn, nn]])
def P_X12_late : List (List (List Nat)) := [[[],[1725,1727,99],[],[],[],[],[],[],[],[],[],[],[],[1741,1743,101],[],[]], [[],[],[],[],[],[],[1601,1603,84],[],[],[],[],[],[],[],[],[]], [[],[],[],[],[],[],[],[],[],[],[],[],[],[],[],[]]]
set_option maxRecDepth 100000 in
theorem kT_X12_late : ab_okT M_X12_late := ab_okT_of (P := P_X12_late) 48 (Nat.le_of_ble_eq_true rfl) (fun pc h => ab_chkR_of (lo := 0) (len := 48) (by decide +kernel) pc (Nat.zero_le _) (by omega))
theorem kY_X12_late : ab_okY M_X12_late := ab_okY_of 1740 124 (by decide +kernel)
def M_X12_pieceIn : ab_M := (yX12_pieceIn, cX12_pieceIn, 4, (some .int), 12, 3, [
  [oo (.aload_n 0) 1, oo (.iload_n 1) 2, om (.invokevirtual 400) 5 0 yX12_isPiece, nn, nn, oj (.ifCond .eq 19) 8 24, nn, nn, oo (.iload_n 2) 9, om (.invokestatic 428) 12 0 yX12_isLong, nn, nn, oj (.ifCond .eq 12) 15 24, nn, nn, oo (.iload_n 3) 16],
  [oo (.iconst 0) 17, oo (.iconst 2) 18, om (.invokestatic 327) 21 0 yX12_in, nn, nn, oj (.ifCond .ne 5) 24 26, nn, nn, oo (.iconst (-1)) 25, oo .ireturn 26, oo (.aload_n 0) 27, om (.invokevirtual 341) 30 0 yX12_copies, nn, nn, oo (.aload_n 0) 31, oo (.iload_n 2) 32],
  [om (.invokevirtual 431) 35 0 yX12_goes, nn, nn, oo (.iload_n 3) 36, oj (.ifCond .ne 11) 39 47, nn, nn, oo (.aload_n 0) 40, oo (.iload_n 1) 41, om (.invokevirtual 403) 44 0 yX12_pieceAcross, nn, nn, oj (.goto 25) 47 69, nn, nn, oo (.iload_n 3) 48],
  [oo (.iconst 1) 49, oj (.if_icmp .ne 11) 52 60, nn, nn, oo (.aload_n 0) 53, oo (.iload_n 1) 54, om (.invokevirtual 406) 57 0 yX12_pieceDown, nn, nn, oj (.goto 12) 60 69, nn, nn, oo (.aload_n 0) 61, of (.getfield 122) 64 12 51, nn, nn],
  [oo (.bipush 64) 66, nn, oo (.iload_n 1) 67, oo .iadd 68, oo .iaload 69, oo .ireturn 70, nn, nn, nn, nn, nn, nn, nn, nn, nn, nn]])
def P_X12_pieceIn : List (List (List Nat)) := [[[],[],[1485,1487,64],[],[],[],[],[],[],[1594,1595],[],[],[],[],[],[]], [[],[],[1489,1490],[],[],[],[],[],[],[],[],[1492,1494,65],[],[],[],[]], [[1597,1599,83],[],[],[],[],[],[],[],[],[1496,1498,66],[],[],[],[],[],[]], [[],[],[],[],[],[],[1504,1506,68],[],[],[],[],[],[],[1202],[],[]], [[],[],[],[],[],[],[],[],[],[],[],[],[],[],[],[]]]
set_option maxRecDepth 100000 in
theorem kT_X12_pieceIn : ab_okT M_X12_pieceIn := ab_okT_of (P := P_X12_pieceIn) 80 (Nat.le_of_ble_eq_true rfl) (fun pc h => ab_chkR_of (lo := 0) (len := 80) (by decide +kernel) pc (Nat.zero_le _) (by omega))
theorem kY_X12_pieceIn : ab_okY M_X12_pieceIn := ab_okY_of 1748 124 (by decide +kernel)
def M_X12_pickerIn : ab_M := (yX12_pickerIn, cX12_pickerIn, 4, (some .int), 12, 3, [
  [oo (.aload_n 0) 1, oo (.iload_n 1) 2, om (.invokevirtual 412) 5 0 yX12_isPicker, nn, nn, oj (.ifCond .eq 19) 8 24, nn, nn, oo (.iload_n 2) 9, om (.invokestatic 428) 12 0 yX12_isLong, nn, nn, oj (.ifCond .eq 12) 15 24, nn, nn, oo (.iload_n 3) 16],
  [oo (.iconst 0) 17, oo (.iconst 2) 18, om (.invokestatic 327) 21 0 yX12_in, nn, nn, oj (.ifCond .ne 5) 24 26, nn, nn, oo (.iconst (-1)) 25, oo .ireturn 26, oo (.aload_n 0) 27, om (.invokevirtual 341) 30 0 yX12_copies, nn, nn, oo (.aload_n 0) 31, oo (.iload_n 2) 32],
  [om (.invokevirtual 431) 35 0 yX12_goes, nn, nn, oo (.iload_n 3) 36, oo (.iconst 2) 37, oj (.if_icmp .ne 11) 40 48, nn, nn, oo (.aload_n 0) 41, oo (.iload_n 1) 42, om (.invokevirtual 372) 45 0 yX12_inHat, nn, nn, oj (.goto 17) 48 62, nn, nn],
  [oo (.aload_n 0) 49, of (.getfield 122) 52 12 51, nn, nn, oo (.sipush 128) 55, nn, nn, oo (.iconst 4) 56, oo (.iload_n 3) 57, oo .imul 58, oo .iadd 59, oo (.iload_n 1) 60, oo .iadd 61, oo .iaload 62, oo .ireturn 63, nn]])
def P_X12_pickerIn : List (List (List Nat)) := [[[],[],[1547,1549,77],[],[],[],[],[],[],[1594,1595],[],[],[],[],[],[]], [[],[],[1489,1490],[],[],[],[],[],[],[],[],[1492,1494,65],[],[],[],[]], [[1597,1599,83],[],[],[],[],[],[],[],[],[],[1551,1553,78],[],[],[],[],[]], [[],[1202],[],[],[],[],[],[],[],[],[],[],[],[],[],[]]]
set_option maxRecDepth 100000 in
theorem kT_X12_pickerIn : ab_okT M_X12_pickerIn := ab_okT_of (P := P_X12_pickerIn) 64 (Nat.le_of_ble_eq_true rfl) (fun pc h => ab_chkR_of (lo := 0) (len := 64) (by decide +kernel) pc (Nat.zero_le _) (by omega))
theorem kY_X12_pickerIn : ab_okY M_X12_pickerIn := ab_okY_of 1752 124 (by decide +kernel)
