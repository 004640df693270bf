def M_X11_richest : ab_M := (yX11_richest, cX11_richest, 5, (some .int), 11, 1, [
  [oo (.iload_n 1) 1, oj (.ifCond .lt 8) 4 9, nn, nn, oo (.iload_n 1) 5, oo (.iconst 1) 6, oj (.if_icmp .le 5) 9 11, nn, nn, oo (.iconst (-1)) 10, oo .ireturn 11, oo (.aload_n 0) 12, of (.getfield 36) 15 11 4, nn, nn, oo (.aload_n 0) 16],
  [of (.getfield 82) 19 11 13, nn, nn, om (.invokevirtual 223) 22 0 yX10_countAll, nn, nn, oo (.bipush (-2)) 24, nn, oo (.istore_n 2) 25, oo (.iconst 0) 26, oo (.istore_n 3) 27, oo (.iconst 0) 28, oo (.istore 4) 30, nn, oo (.iload 4) 32, nn],
  [oo (.bipush 80) 34, nn, oj (.if_icmp .ge 31) 37 65, nn, nn, oo (.aload_n 0) 38, of (.getfield 82) 41 11 13, nn, nn, oo (.iload 4) 43, nn, oo .iaload 44, oo (.iload_n 3) 45, oj (.if_icmp .le 14) 48 59, nn, nn],
  [oo (.aload_n 0) 49, of (.getfield 82) 52 11 13, nn, nn, oo (.iload 4) 54, nn, oo .iaload 55, oo (.istore_n 3) 56, oo (.iload 4) 58, nn, oo (.istore_n 2) 59, oo (.iinc 4 1) 62, nn, nn, oj (.goto (-32)) 65 30, nn],
  [nn, oo (.iload_n 1) 66, oj (.ifCond .eq 9) 69 75, nn, nn, oo (.iload_n 2) 70, oo (.bipush (-2)) 72, nn, oj (.if_icmp .ne 7) 75 79, nn, nn, oo (.iload_n 2) 76, oj (.goto 4) 79 80, nn, nn, oo (.iload_n 3) 80],
  [oo .ireturn 81, nn, nn, nn, nn, nn, nn, nn, nn, nn, nn, nn, nn, nn, nn, nn]])
def P_X11_richest : List (List (List Nat)) := [[[],[],[],[],[],[],[],[],[],[],[],[],[527],[],[],[]], [[536],[],[],[951,879,880],[],[],[],[],[],[],[],[],[],[],[],[]], [[],[],[],[],[],[],[536],[],[],[],[],[],[],[],[],[]], [[],[536],[],[],[],[],[],[],[],[],[],[],[],[],[],[]], [[],[],[],[],[],[],[],[],[],[],[],[],[],[],[],[]], [[],[],[],[],[],[],[],[],[],[],[],[],[],[],[],[]]]
set_option maxRecDepth 100000 in
theorem kT_X11_richest : ab_okT M_X11_richest := ab_okT_of (P := P_X11_richest) 96 (Nat.le_of_ble_eq_true rfl) (fun pc h => ab_chkR_of (lo := 0) (len := 96) (by decide +kernel) pc (Nat.zero_le _) (by omega))
theorem kY_X11_richest : ab_okY M_X11_richest := ab_okY_of 950 105 (by decide +kernel)
def M_X11_made : ab_M := (yX11_made, cX11_made, 2, (some .int), 11, 1, [
  [oo (.aload_n 0) 1, oo (.iload_n 1) 2, om (.invokevirtual 227) 5 0 yX11_isHeap, nn, nn, oj (.ifCond .ne 5) 8 10, nn, nn, oo (.iconst (-1)) 9, oo .ireturn 10, oo (.aload_n 0) 11, of (.getfield 71) 14 11 11, nn, nn, oo (.aload_n 0) 15, of (.getfield 26) 18 11 2],
  [nn, nn, oo (.aload_n 0) 19, of (.getfield 36) 22 11 4, nn, nn, oo (.iload_n 1) 23, om (.invokevirtual 230) 26 0 yX0_gather, nn, nn, oo (.aload_n 0) 27, of (.getfield 71) 30 11 11, nn, nn, oo (.aload_n 0) 31, of (.getfield 26) 34 11 2],
  [nn, nn, om (.invokevirtual 233) 37 0 yX0_makes, nn, nn, oo .ireturn 38, nn, nn, nn, nn, nn, nn, nn, nn, nn, nn]])
def P_X11_made : List (List (List Nat)) := [[[],[],[956,958,29],[],[],[],[],[],[],[],[],[534],[],[],[],[525]], [[],[],[],[527],[],[],[],[960,961,962],[],[],[],[534],[],[],[],[525]], [[],[],[967,968,969],[],[],[],[],[],[],[],[],[],[],[],[],[]]]
set_option maxRecDepth 100000 in
theorem kT_X11_made : ab_okT M_X11_made := ab_okT_of (P := P_X11_made) 48 (Nat.le_of_ble_eq_true rfl) (fun pc h => ab_chkR_of (lo := 0) (len := 48) (by decide +kernel) pc (Nat.zero_le _) (by omega))
theorem kY_X11_made : ab_okY M_X11_made := ab_okY_of 955 105 (by decide +kernel)
def M_X11_together : ab_M := (yX11_together, cX11_together, 3, (some .int), 11, 1, [
  [oo (.iload_n 1) 1, oj (.ifCond .lt 8) 4 9, nn, nn, oo (.iload_n 1) 5, oo (.iconst 1) 6, oj (.if_icmp .le 5) 9 11, nn, nn, oo (.iconst (-1)) 10, oo .ireturn 11, oo (.aload_n 0) 12, of (.getfield 71) 15 11 11, nn, nn, oo (.aload_n 0) 16],
  [of (.getfield 26) 19 11 2, nn, nn, oo (.aload_n 0) 20, of (.getfield 36) 23 11 4, nn, nn, oo (.iconst 5) 24, om (.invokevirtual 230) 27 0 yX0_gather, nn, nn, oo (.aload_n 0) 28, of (.getfield 71) 31 11 11, nn, nn, oo (.aload_n 0) 32],
  [of (.getfield 26) 35 11 2, nn, nn, om (.invokevirtual 237) 38 0 yX0_mostAtOnce, nn, nn, oo (.istore_n 2) 39, oo (.iload_n 1) 40, oj (.ifCond .ne 10) 43 50, nn, nn, oo (.iload_n 2) 44, om (.invokestatic 240) 47 0 yJ6_bitCount_0f7a4, nn, nn, oj (.goto 4) 50 51],
  [nn, nn, oo (.iload_n 2) 51, oo .ireturn 52, nn, nn, nn, nn, nn, nn, nn, nn, nn, nn, nn, nn]])
def P_X11_together : List (List (List Nat)) := [[[],[],[],[],[],[],[],[],[],[],[],[],[534],[],[],[]], [[525],[],[],[],[527],[],[],[],[960,961,962],[],[],[],[534],[],[],[]], [[525],[],[],[989,990,991],[],[],[],[],[],[],[],[],[1003,994],[],[],[]], [[],[],[],[],[],[],[],[],[],[],[],[],[],[],[],[]]]
set_option maxRecDepth 100000 in
theorem kT_X11_together : ab_okT M_X11_together := ab_okT_of (P := P_X11_together) 64 (Nat.le_of_ble_eq_true rfl) (fun pc h => ab_chkR_of (lo := 0) (len := 64) (by decide +kernel) pc (Nat.zero_le _) (by omega))
theorem kY_X11_together : ab_okY M_X11_together := ab_okY_of 988 105 (by decide +kernel)
def M_X11_missing : ab_M := (yX11_missing, cX11_missing, 3, (some .int), 11, 2, [
  [oo (.iload_n 1) 1, oj (.ifCond .lt 22) 4 23, nn, nn, oo (.iload_n 1) 5, oo (.aload_n 0) 6, of (.getfield 26) 9 11 2, nn, nn, of (.getfield 245) 12 5 1, nn, nn, oj (.if_icmp .ge 11) 15 23, nn, nn, oo (.aload_n 0) 16],
  [oo (.iload_n 2) 17, om (.invokevirtual 227) 20 0 yX11_isHeap, nn, nn, oj (.ifCond .ne 5) 23 25, nn, nn, oo (.iconst (-1)) 24, oo .ireturn 25, oo (.aload_n 0) 26, of (.getfield 71) 29 11 11, nn, nn, oo (.aload_n 0) 30, of (.getfield 26) 33 11 2, nn],
  [nn, oo (.aload_n 0) 34, of (.getfield 36) 37 11 4, nn, nn, oo (.iload_n 2) 38, om (.invokevirtual 230) 41 0 yX0_gather, nn, nn, oo (.aload_n 0) 42, of (.getfield 71) 45 11 11, nn, nn, oo (.aload_n 0) 46, of (.getfield 26) 49 11 2, nn],
  [nn, of (.getfield 248) 52 5 5, nn, nn, oo (.iload_n 1) 53, oo .laload 54, om (.invokevirtual 252) 57 0 yX0_lacks, nn, nn, oo .ireturn 58, nn, nn, nn, nn, nn, nn]])
def P_X11_missing : List (List (List Nat)) := [[[],[],[],[],[],[],[525],[],[],[282],[],[],[],[],[],[]], [[],[956,958,29],[],[],[],[],[],[],[],[],[534],[],[],[],[525],[]], [[],[],[527],[],[],[],[960,961,962],[],[],[],[534],[],[],[],[525],[]], [[],[296],[],[],[],[],[1008,972,973],[],[],[],[],[],[],[],[],[]]]
set_option maxRecDepth 100000 in
theorem kT_X11_missing : ab_okT M_X11_missing := ab_okT_of (P := P_X11_missing) 64 (Nat.le_of_ble_eq_true rfl) (fun pc h => ab_chkR_of (lo := 0) (len := 64) (by decide +kernel) pc (Nat.zero_le _) (by omega))
theorem kY_X11_missing : ab_okY M_X11_missing := ab_okY_of 1007 105 (by decide +kernel)
def M_X11_longest : ab_M := (yX11_longest, cX11_longest, 7, (some .int), 11, 1, [
  [oo (.aload_n 0) 1, oo (.iload_n 1) 2, om (.invokevirtual 227) 5 0 yX11_isHeap, nn, nn, oj (.ifCond .ne 5) 8 10, nn, nn, oo (.iconst (-1)) 9, oo .ireturn 10, oo (.aload_n 0) 11, of (.getfield 71) 14 11 11, nn, nn, oo (.aload_n 0) 15, of (.getfield 26) 18 11 2],
  [nn, nn, oo (.aload_n 0) 19, of (.getfield 36) 22 11 4, nn, nn, oo (.iload_n 1) 23, om (.invokevirtual 230) 26 0 yX0_gather, nn, nn, oo (.aload_n 0) 27, of (.getfield 71) 30 11 11, nn, nn, oo (.aload_n 0) 31, of (.getfield 26) 34 11 2],
  [nn, nn, om (.invokevirtual 233) 37 0 yX0_makes, nn, nn, oo (.istore_n 2) 38, oo (.bipush (-2)) 40, nn, oo (.istore_n 3) 41, oo (.iconst 0) 42, oo (.istore 4) 44, nn, oo (.iconst 0) 45, oo (.istore 5) 47, nn, oo (.iload 5) 49],
  [nn, oo (.aload_n 0) 50, of (.getfield 26) 53 11 2, nn, nn, of (.getfield 245) 56 5 1, nn, nn, oj (.if_icmp .ge 48) 59 104, nn, nn, oo (.aload_n 0) 60, of (.getfield 26) 63 11 2, nn, nn, of (.getfield 248) 66 5 5],
  [nn, nn, oo (.iload 5) 68, nn, oo .laload 69, om (.invokestatic 256) 72 0 yX11_nameLength, nn, nn, oo (.istore 6) 74, nn, oo (.iload_n 2) 75, oo (.iload 5) 77, nn, oo .ishr 78, oo (.iconst 1) 79, oo .iand 80],
  [oo (.iconst 1) 81, oj (.if_icmp .ne 17) 84 98, nn, nn, oo (.iload 6) 86, nn, oo (.iload 4) 88, nn, oj (.if_icmp .le 10) 91 98, nn, nn, oo (.iload 6) 93, nn, oo (.istore 4) 95, nn, oo (.iload 5) 97],
  [nn, oo (.istore_n 3) 98, oo (.iinc 5 1) 101, nn, nn, oj (.goto (-54)) 104 47, nn, nn, oo (.iload_n 3) 105, oo .ireturn 106, nn, nn, nn, nn, nn, nn]])
def P_X11_longest : List (List (List Nat)) := [[[],[],[956,958,29],[],[],[],[],[],[],[],[],[534],[],[],[],[525]], [[],[],[],[527],[],[],[],[960,961,962],[],[],[],[534],[],[],[],[525]], [[],[],[967,968,969],[],[],[],[],[],[],[],[],[],[],[],[],[]], [[],[],[525],[],[],[282],[],[],[],[],[],[],[525],[],[],[296]], [[],[],[],[],[],[1013,688],[],[],[],[],[],[],[],[],[],[]], [[],[],[],[],[],[],[],[],[],[],[],[],[],[],[],[]], [[],[],[],[],[],[],[],[],[],[],[],[],[],[],[],[]]]
set_option maxRecDepth 100000 in
theorem kT_X11_longest : ab_okT M_X11_longest := ab_okT_of (P := P_X11_longest) 112 (Nat.le_of_ble_eq_true rfl) (fun pc h => ab_chkR_of (lo := 0) (len := 112) (by decide +kernel) pc (Nat.zero_le _) (by omega))
theorem kY_X11_longest : ab_okY M_X11_longest := ab_okY_of 1012 105 (by decide +kernel)
def M_X11_whole : ab_M := (yX11_whole, cX11_whole, 3, (some .int), 11, 0, [
  [oo (.iconst 1) 1, oo (.aload_n 0) 2, of (.getfield 26) 5 11 2, nn, nn, of (.getfield 259) 8 5 0, nn, nn, oo .ishl 9, oo (.iconst 1) 10, oo .isub 11, oo (.istore_n 1) 12, oo (.iconst 0) 13, oo (.istore_n 2) 14, oo (.iload_n 2) 15, oo (.aload_n 0) 16],
  [of (.getfield 36) 19 11 4, nn, nn, of (.getfield 178) 22 10 1, nn, nn, oj (.if_icmp .ge 36) 25 58, nn, nn, oo (.aload_n 0) 26, of (.getfield 36) 29 11 4, nn, nn, oo (.iload_n 2) 30, om (.invokevirtual 119) 33 0 yX10_isLying, nn],
  [nn, oj (.ifCond .eq 19) 36 52, nn, nn, oo (.iload_n 1) 37, oo (.iconst 1) 38, oo (.aload_n 0) 39, of (.getfield 26) 42 11 2, nn, nn, of (.getfield 129) 45 5 8, nn, nn, oo (.iload_n 2) 46, oo .iaload 47, oo .ishl 48],
  [oo (.iconst (-1)) 49, oo .ixor 50, oo .iand 51, oo (.istore_n 1) 52, oo (.iinc 2 1) 55, nn, nn, oj (.goto (-41)) 58 14, nn, nn, oo (.iload_n 1) 59, oo .ireturn 60, nn, nn, nn, nn]])
def P_X11_whole : List (List (List Nat)) := [[[],[],[525],[],[],[277],[],[],[],[],[],[],[],[],[],[]], [[527],[],[],[384],[],[],[],[],[],[],[527],[],[],[],[738,739,740],[]], [[],[],[],[],[],[],[],[525],[],[],[304],[],[],[],[],[]], [[],[],[],[],[],[],[],[],[],[],[],[],[],[],[],[]]]
set_option maxRecDepth 100000 in
theorem kT_X11_whole : ab_okT M_X11_whole := ab_okT_of (P := P_X11_whole) 64 (Nat.le_of_ble_eq_true rfl) (fun pc h => ab_chkR_of (lo := 0) (len := 64) (by decide +kernel) pc (Nat.zero_le _) (by omega))
theorem kY_X11_whole : ab_okY M_X11_whole := ab_okY_of 1017 105 (by decide +kernel)
def M_X11_loss : ab_M := (yX11_loss, cX11_loss, 2, (some .int), 11, 1, [
  [oo (.iload_n 1) 1, oj (.ifCond .lt 9) 4 10, nn, nn, oo (.iload_n 1) 5, oo (.bipush 40) 7, nn, oj (.if_icmp .le 5) 10 12, nn, nn, oo (.iconst (-1)) 11, oo .ireturn 12, oo (.aload_n 0) 13, of (.getfield 40) 16 11 5, nn, nn],
  [oo (.aload_n 0) 17, of (.getfield 36) 20 11 4, nn, nn, om (.invokevirtual 262) 23 0 yX10_copy, nn, nn, oo (.aload_n 0) 24, of (.getfield 57) 27 11 9, nn, nn, oo (.aload_n 0) 28, of (.getfield 26) 31 11 2, nn, nn, oo (.aload_n 0) 32],
  [of (.getfield 40) 35 11 5, nn, nn, oo (.iload_n 1) 36, oo (.iconst (-1)) 37, om (.invokevirtual 188) 40 0 yX9_goOn, nn, nn, oo (.aload_n 0) 41, of (.getfield 57) 44 11 9, nn, nn, oo (.aload_n 0) 45, of (.getfield 26) 48 11 2, nn, nn],
  [oo (.aload_n 0) 49, of (.getfield 40) 52 11 5, nn, nn, om (.invokevirtual 265) 55 0 yX9_takesOfAll, nn, nn, oo .ireturn 56, nn, nn, nn, nn, nn, nn, nn, nn]])
def P_X11_loss : List (List (List Nat)) := [[[],[],[],[],[],[],[],[],[],[],[],[],[],[528],[],[]], [[],[527],[],[],[1022,821,822],[],[],[],[532],[],[],[],[525],[],[],[]], [[528],[],[],[],[],[845,846,847],[],[],[],[532],[],[],[],[525],[],[]], [[],[528],[],[],[1023,1024,1025],[],[],[],[],[],[],[],[],[],[],[]]]
set_option maxRecDepth 100000 in
theorem kT_X11_loss : ab_okT M_X11_loss := ab_okT_of (P := P_X11_loss) 64 (Nat.le_of_ble_eq_true rfl) (fun pc h => ab_chkR_of (lo := 0) (len := 64) (by decide +kernel) pc (Nat.zero_le _) (by omega))
theorem kY_X11_loss : ab_okY M_X11_loss := ab_okY_of 1021 105 (by decide +kernel)
def M_X11_stand : ab_M := (yX11_stand, cX11_stand, 6, (some .int), 11, 3, [
  [oo (.aload_n 0) 1, oo (.iload_n 1) 2, om (.invokevirtual 145) 5 0 yX11_isPicker, nn, nn, oj (.ifCond .eq 23) 8 28, nn, nn, oo (.iload_n 2) 9, oo (.iconst 1) 10, oj (.if_icmp .lt 18) 13 28, nn, nn, oo (.iload_n 2) 14, oo (.bipush 12) 16, nn],
  [oj (.if_icmp .gt 12) 19 28, nn, nn, oo (.iload_n 3) 20, oj (.ifCond .lt 8) 23 28, nn, nn, oo (.iload_n 3) 24, oo (.iconst 1) 25, oj (.if_icmp .le 5) 28 30, nn, nn, oo (.iconst (-1)) 29, oo .ireturn 30, oc (.ldc_w 269) 33 (.int (1000000)), nn],
  [nn, oo (.istore 4) 35, nn, oo (.iconst 0) 36, oo (.istore 5) 38, nn, oo (.iload 5) 40, nn, oo (.bipush 80) 42, nn, oj (.if_icmp .ge 102) 45 144, nn, nn, oo (.iload 4) 47, nn, oo (.bipush 80) 49],
  [nn, oj (.if_icmp .lt 95) 52 144, nn, nn, oo (.aload_n 0) 53, of (.getfield 40) 56 11 5, nn, nn, oo (.aload_n 0) 57, of (.getfield 36) 60 11 4, nn, nn, om (.invokevirtual 262) 63 0 yX10_copy, nn, nn, oo (.aload_n 0) 64],
  [of (.getfield 40) 67 11 5, nn, nn, of (.getfield 148) 70 10 6, nn, nn, oo (.iload_n 1) 71, oo (.iload 5) 73, nn, oo (.aload_n 0) 74, of (.getfield 36) 77 11 4, nn, nn, of (.getfield 151) 80 10 5, nn, nn],
  [oo (.iload_n 1) 81, oo .iaload 82, oj (.if_icmp .ne 8) 85 90, nn, nn, oo (.bipush (-2)) 87, nn, oj (.goto 5) 90 92, nn, nn, oo (.iload 5) 92, nn, oo .iastore 93, oo (.aload_n 0) 94, of (.getfield 57) 97 11 9, nn],
  [nn, oo (.aload_n 0) 98, of (.getfield 26) 101 11 2, nn, nn, oo (.aload_n 0) 102, of (.getfield 40) 105 11 5, nn, nn, oo (.iload_n 2) 106, oo (.iconst (-1)) 107, om (.invokevirtual 188) 110 0 yX9_goOn, nn, nn, oo (.iload 4) 112, nn],
  [oo (.aload_n 0) 113, of (.getfield 57) 116 11 9, nn, nn, oo (.aload_n 0) 117, of (.getfield 26) 120 11 2, nn, nn, oo (.aload_n 0) 121, of (.getfield 40) 124 11 5, nn, nn, om (.invokevirtual 265) 127 0 yX9_takesOfAll, nn, nn, oo (.bipush 80) 129],
  [nn, oo .imul 130, oo (.iload 5) 132, nn, oo .iadd 133, om (.invokestatic 270) 136 0 yJ9_min_7cf53, nn, nn, oo (.istore 4) 138, nn, oo (.iinc 5 1) 141, nn, nn, oj (.goto (-103)) 144 38, nn, nn],
  [oo (.iload_n 3) 145, oj (.ifCond .ne 11) 148 156, nn, nn, oo (.iload 4) 150, nn, oo (.bipush 80) 152, nn, oo .irem 153, oj (.goto 8) 156 161, nn, nn, oo (.iload 4) 158, nn, oo (.bipush 80) 160, nn],
  [oo .idiv 161, oo .ireturn 162, nn, nn, nn, nn, nn, nn, nn, nn, nn, nn, nn, nn, nn, nn]])
def P_X11_stand : List (List (List Nat)) := [[[],[],[788,790,26],[],[],[],[],[],[],[],[],[],[],[],[],[]], [[],[],[],[],[],[],[],[],[],[],[],[],[],[],[1031],[]], [[],[],[],[],[],[],[],[],[],[],[],[],[],[],[],[]], [[],[],[],[],[],[528],[],[],[],[527],[],[],[1022,821,822],[],[],[]], [[528],[],[],[400],[],[],[],[],[],[],[527],[],[],[397],[],[]], [[],[],[],[],[],[],[],[],[],[],[],[],[],[],[532],[]], [[],[],[525],[],[],[],[528],[],[],[],[],[845,846,847],[],[],[],[]], [[],[532],[],[],[],[525],[],[],[],[528],[],[],[1023,1024,1025],[],[],[]], [[],[],[],[],[],[780,515],[],[],[],[],[],[],[],[],[],[]], [[],[],[],[],[],[],[],[],[],[],[],[],[],[],[],[]], [[],[],[],[],[],[],[],[],[],[],[],[],[],[],[],[]]]
set_option maxRecDepth 100000 in
theorem kT_X11_stand : ab_okT M_X11_stand := ab_okT_of (P := P_X11_stand) 176 (Nat.le_of_ble_eq_true rfl) (fun pc h => ab_chkR_of (lo := 0) (len := 176) (by decide +kernel) pc (Nat.zero_le _) (by omega))
theorem kY_X11_stand : ab_okY M_X11_stand := ab_okY_of 1030 105 (by decide +kernel)
def M_X11_late : ab_M := (yX11_late, cX11_late, 2, (some .int), 11, 0, [
  [oo (.aload_n 0) 1, of (.getfield 40) 4 11 5, nn, nn, oo (.aload_n 0) 5, of (.getfield 36) 8 11 4, nn, nn, om (.invokevirtual 262) 11 0 yX10_copy, nn, nn, oo (.iconst 0) 12, oo (.istore_n 1) 13, oo (.iload_n 1) 14, oo (.bipush 100) 16, nn],
  [oj (.if_icmp .gt 38) 19 54, nn, nn, oo (.aload_n 0) 20, of (.getfield 40) 23 11 5, nn, nn, om (.invokevirtual 275) 26 0 yX10_countLying, nn, nn, oj (.ifCond .ne 5) 29 31, nn, nn, oo (.iload_n 1) 30, oo .ireturn 31, oo (.aload_n 0) 32],
  [of (.getfield 57) 35 11 9, nn, nn, oo (.aload_n 0) 36, of (.getfield 26) 39 11 2, nn, nn, oo (.aload_n 0) 40, of (.getfield 40) 43 11 5, nn, nn, oo (.iconst 1) 44, oo (.iconst (-1)) 45, om (.invokevirtual 188) 48 0 yX9_goOn, nn, nn],
  [oo (.iinc 1 1) 51, nn, nn, oj (.goto (-38)) 54 13, nn, nn, oo (.bipush (-2)) 56, nn, oo .ireturn 57, nn, nn, nn, nn, nn, nn, nn]])
def P_X11_late : List (List (List Nat)) := [[[],[528],[],[],[],[527],[],[],[1022,821,822],[],[],[],[],[],[],[]], [[],[],[],[],[528],[],[],[1036,1037,1038],[],[],[],[],[],[],[],[]], [[532],[],[],[],[525],[],[],[],[528],[],[],[],[],[845,846,847],[],[]], [[],[],[],[],[],[],[],[],[],[],[],[],[],[],[],[]]]
set_option maxRecDepth 100000 in
theorem kT_X11_late : ab_okT M_X11_late := ab_okT_of (P := P_X11_late) 64 (Nat.le_of_ble_eq_true rfl) (fun pc h => ab_chkR_of (lo := 0) (len := 64) (by decide +kernel) pc (Nat.zero_le _) (by omega))
theorem kY_X11_late : ab_okY M_X11_late := ab_okY_of 1035 105 (by decide +kernel)
def M_X11_pieceIn : ab_M := (yX11_pieceIn, cX11_pieceIn, 5, (some .int), 11, 3, [
  [oo (.aload_n 0) 1, oo (.iload_n 1) 2, om (.invokevirtual 115) 5 0 yX11_isPiece, nn, nn, oj (.ifCond .eq 22) 8 27, nn, nn, oo (.iload_n 2) 9, oj (.ifCond .lt 18) 12 27, nn, nn, oo (.iload_n 2) 13, oo (.bipush 40) 15, nn, oj (.if_icmp .gt 12) 18 27],
  [nn, nn, oo (.iload_n 3) 19, oj (.ifCond .lt 8) 22 27, nn, nn, oo (.iload_n 3) 23, oo (.iconst 2) 24, oj (.if_icmp .le 5) 27 29, nn, nn, oo (.iconst (-1)) 28, oo .ireturn 29, oo (.aload_n 0) 30, of (.getfield 40) 33 11 5, nn],
  [nn, oo (.aload_n 0) 34, of (.getfield 36) 37 11 4, nn, nn, om (.invokevirtual 262) 40 0 yX10_copy, nn, nn, oo (.aload_n 0) 41, of (.getfield 57) 44 11 9, nn, nn, oo (.aload_n 0) 45, of (.getfield 26) 48 11 2, nn, nn],
  [oo (.aload_n 0) 49, of (.getfield 40) 52 11 5, nn, nn, oo (.iload_n 2) 53, oo (.aload_n 0) 54, of (.getfield 26) 57 11 2, nn, nn, of (.getfield 185) 60 5 18, nn, nn, om (.invokevirtual 188) 63 0 yX9_goOn, nn, nn, oo (.iload_n 3) 64],
  [oo (.iconst 2) 65, oj (.if_icmp .ne 12) 68 77, nn, nn, oo (.aload_n 0) 69, of (.getfield 40) 72 11 5, nn, nn, oo (.iload_n 1) 73, om (.invokevirtual 132) 76 0 yX10_holder, nn, nn, oo .ireturn 77, oo (.aload_n 0) 78, of (.getfield 40) 81 11 5, nn],
  [nn, oo (.iload_n 1) 82, om (.invokevirtual 122) 85 0 yX10_cellOf, nn, nn, oo (.istore 4) 87, nn, oo (.iload_n 3) 88, oj (.ifCond .ne 11) 91 99, nn, nn, oo (.iload 4) 93, nn, oo (.bipush 10) 95, nn, oo .irem 96],
  [oj (.goto 8) 99 104, nn, nn, oo (.iload 4) 101, nn, oo (.bipush 10) 103, nn, oo .idiv 104, oo .ireturn 105, nn, nn, nn, nn, nn, nn, nn]])
def P_X11_pieceIn : List (List (List Nat)) := [[[],[],[734,736,23],[],[],[],[],[],[],[],[],[],[],[],[],[]], [[],[],[],[],[],[],[],[],[],[],[],[],[],[],[528],[]], [[],[],[527],[],[],[1022,821,822],[],[],[],[532],[],[],[],[525],[],[]], [[],[528],[],[],[],[],[525],[],[],[331],[],[],[845,846,847],[],[],[]], [[],[],[],[],[],[528],[],[],[],[750,747,748],[],[],[],[],[528],[]], [[],[],[742,743,744],[],[],[],[],[],[],[],[],[],[],[],[],[]], [[],[],[],[],[],[],[],[],[],[],[],[],[],[],[],[]]]
set_option maxRecDepth 100000 in
theorem kT_X11_pieceIn : ab_okT M_X11_pieceIn := ab_okT_of (P := P_X11_pieceIn) 112 (Nat.le_of_ble_eq_true rfl) (fun pc h => ab_chkR_of (lo := 0) (len := 112) (by decide +kernel) pc (Nat.zero_le _) (by omega))
theorem kY_X11_pieceIn : ab_okY M_X11_pieceIn := ab_okY_of 1043 105 (by decide +kernel)
def M_X11_pickerIn : ab_M := (yX11_pickerIn, cX11_pickerIn, 5, (some .int), 11, 3, [
  [oo (.aload_n 0) 1, oo (.iload_n 1) 2, om (.invokevirtual 145) 5 0 yX11_isPicker, nn, nn, oj (.ifCond .eq 22) 8 27, nn, nn, oo (.iload_n 2) 9, oj (.ifCond .lt 18) 12 27, nn, nn, oo (.iload_n 2) 13, oo (.bipush 40) 15, nn, oj (.if_icmp .gt 12) 18 27],
  [nn, nn, oo (.iload_n 3) 19, oj (.ifCond .lt 8) 22 27, nn, nn, oo (.iload_n 3) 23, oo (.iconst 2) 24, oj (.if_icmp .le 5) 27 29, nn, nn, oo (.iconst (-1)) 28, oo .ireturn 29, oo (.aload_n 0) 30, of (.getfield 40) 33 11 5, nn],
  [nn, oo (.aload_n 0) 34, of (.getfield 36) 37 11 4, nn, nn, om (.invokevirtual 262) 40 0 yX10_copy, nn, nn, oo (.aload_n 0) 41, of (.getfield 57) 44 11 9, nn, nn, oo (.aload_n 0) 45, of (.getfield 26) 48 11 2, nn, nn],
  [oo (.aload_n 0) 49, of (.getfield 40) 52 11 5, nn, nn, oo (.iload_n 2) 53, oo (.aload_n 0) 54, of (.getfield 26) 57 11 2, nn, nn, of (.getfield 185) 60 5 18, nn, nn, om (.invokevirtual 188) 63 0 yX9_goOn, nn, nn, oo (.iload_n 3) 64],
  [oo (.iconst 2) 65, oj (.if_icmp .ne 13) 68 78, nn, nn, oo (.aload_n 0) 69, of (.getfield 40) 72 11 5, nn, nn, of (.getfield 157) 75 10 7, nn, nn, oo (.iload_n 1) 76, oo .iaload 77, oo .ireturn 78, oo (.aload_n 0) 79, of (.getfield 40) 82 11 5],
  [nn, nn, of (.getfield 151) 85 10 5, nn, nn, oo (.iload_n 1) 86, oo .iaload 87, oo (.istore 4) 89, nn, oo (.iload_n 3) 90, oj (.ifCond .ne 11) 93 101, nn, nn, oo (.iload 4) 95, nn, oo (.bipush 10) 97],
  [nn, oo .irem 98, oj (.goto 8) 101 106, nn, nn, oo (.iload 4) 103, nn, oo (.bipush 10) 105, nn, oo .idiv 106, oo .ireturn 107, nn, nn, nn, nn, nn]])
def P_X11_pickerIn : List (List (List Nat)) := [[[],[],[788,790,26],[],[],[],[],[],[],[],[],[],[],[],[],[]], [[],[],[],[],[],[],[],[],[],[],[],[],[],[],[528],[]], [[],[],[527],[],[],[1022,821,822],[],[],[],[532],[],[],[],[525],[],[]], [[],[528],[],[],[],[],[525],[],[],[331],[],[],[845,846,847],[],[],[]], [[],[],[],[],[],[528],[],[],[404],[],[],[],[],[],[],[528]], [[],[],[397],[],[],[],[],[],[],[],[],[],[],[],[],[]], [[],[],[],[],[],[],[],[],[],[],[],[],[],[],[],[]]]
set_option maxRecDepth 100000 in
theorem kT_X11_pickerIn : ab_okT M_X11_pickerIn := ab_okT_of (P := P_X11_pickerIn) 112 (Nat.le_of_ble_eq_true rfl) (fun pc h => ab_chkR_of (lo := 0) (len := 112) (by decide +kernel) pc (Nat.zero_le _) (by omega))
theorem kY_X11_pickerIn : ab_okY M_X11_pickerIn := ab_okY_of 1047 105 (by decide +kernel)
def M_X11_year : ab_M := (yX11_year, cX11_year, 6, (some .int), 11, 2, [
  [oo (.iload_n 1) 1, oj (.ifCond .lt 20) 4 21, nn, nn, oo (.iload_n 1) 5, oo (.bipush 40) 7, nn, oj (.if_icmp .gt 14) 10 21, nn, nn, oo (.iload_n 2) 11, oo (.iconst 1) 12, oj (.if_icmp .lt 9) 15 21, nn, nn, oo (.iload_n 2) 16],
  [oo (.bipush 20) 18, nn, oj (.if_icmp .le 5) 21 23, nn, nn, oo (.iconst (-1)) 22, oo .ireturn 23, oo (.aload_n 0) 24, of (.getfield 26) 27 11 2, nn, nn, of (.getfield 278) 30 5 17, nn, nn, oj (.ifCond .le 15) 33 45, nn],
  [nn, oo (.aload_n 0) 34, of (.getfield 26) 37 11 2, nn, nn, of (.getfield 278) 40 5 17, nn, nn, oo (.bipush 100) 42, nn, oj (.if_icmp .lt 7) 45 49, nn, nn, oo (.iconst 1) 46, oj (.goto 4) 49 50, nn],
  [nn, oo (.iconst 0) 50, oo (.istore_n 3) 51, oo (.iconst 0) 52, oo (.istore 4) 54, nn, oo (.iconst 0) 55, oo (.istore 5) 57, nn, oo (.iload 5) 59, nn, oo (.iload_n 3) 60, oj (.ifCond .eq 7) 63 67, nn, nn, oo (.iconst 1) 64],
  [oj (.goto 4) 67 68, nn, nn, oo (.iload_n 2) 68, oj (.if_icmp .ge 59) 71 127, nn, nn, oo (.aload_n 0) 72, of (.getfield 40) 75 11 5, nn, nn, oo (.aload_n 0) 76, of (.getfield 36) 79 11 4, nn, nn, om (.invokevirtual 262) 82 0 yX10_copy],
  [nn, nn, oo (.aload_n 0) 83, of (.getfield 57) 86 11 9, nn, nn, oo (.aload_n 0) 87, of (.getfield 26) 90 11 2, nn, nn, oo (.aload_n 0) 91, of (.getfield 40) 94 11 5, nn, nn, oo (.iload_n 1) 95, oo (.aload_n 0) 96],
  [of (.getfield 26) 99 11 2, nn, nn, of (.getfield 185) 102 5 18, nn, nn, oo (.iload 5) 104, nn, oo .iadd 105, om (.invokevirtual 188) 108 0 yX9_goOn, nn, nn, oo (.aload_n 0) 109, of (.getfield 40) 112 11 5, nn, nn],
  [om (.invokevirtual 275) 115 0 yX10_countLying, nn, nn, oj (.ifCond .ne 6) 118 121, nn, nn, oo (.iinc 4 1) 121, nn, nn, oo (.iinc 5 1) 124, nn, nn, oj (.goto (-67)) 127 57, nn, nn, oo (.iload_n 3) 128],
  [oj (.ifCond .eq 10) 131 138, nn, nn, oo (.iload 4) 133, nn, oo (.iload_n 2) 134, oo .imul 135, oj (.goto 5) 138 140, nn, nn, oo (.iload 4) 140, nn, oo .ireturn 141, nn, nn, nn]])
def P_X11_year : List (List (List Nat)) := [[[],[],[],[],[],[],[],[],[],[],[],[],[],[],[],[]], [[],[],[],[],[],[],[],[],[525],[],[],[328],[],[],[],[]], [[],[],[525],[],[],[328],[],[],[],[],[],[],[],[],[],[]], [[],[],[],[],[],[],[],[],[],[],[],[],[],[],[],[]], [[],[],[],[],[],[],[],[],[528],[],[],[],[527],[],[],[1022,821,822]], [[],[],[],[532],[],[],[],[525],[],[],[],[528],[],[],[],[]], [[525],[],[],[331],[],[],[],[],[],[845,846,847],[],[],[],[528],[],[]], [[1036,1037,1038],[],[],[],[],[],[],[],[],[],[],[],[],[],[],[]], [[],[],[],[],[],[],[],[],[],[],[],[],[],[],[],[]]]
set_option maxRecDepth 100000 in
theorem kT_X11_year : ab_okT M_X11_year := ab_okT_of (P := P_X11_year) 144 (Nat.le_of_ble_eq_true rfl) (fun pc h => ab_chkR_of (lo := 0) (len := 144) (by decide +kernel) pc (Nat.zero_le _) (by omega))
theorem kY_X11_year : ab_okY M_X11_year := ab_okY_of 1051 105 (by decide +kernel)
def M_X11_tell : ab_M := (yX11_tell, cX11_tell, 3, (some .int), 11, 2, [
  [oo (.iload_n 1) 1, oo (.iconst 1) 2, oj (.if_icmp .lt 21) 5 23, nn, nn, oo (.iload_n 1) 6, oo (.bipush 26) 8, nn, oj (.if_icmp .gt 15) 11 23, nn, nn, oo (.aload_n 0) 12, of (.getfield 78) 15 11 12, nn, nn, of (.getfield 111) 18 7 0],
  [nn, nn, oo (.bipush 20) 20, nn, oj (.if_icmp .lt 5) 23 25, nn, nn, oo (.iconst (-1)) 24, oo .ireturn 25, oo (.aload_n 0) 26, of (.getfield 78) 29 11 12, nn, nn, oo (.iload_n 1) 30, oo (.iload_n 2) 31, om (.invokevirtual 281) 34 0 yX7_add],
  [nn, nn, oo .ireturn 35, nn, nn, nn, nn, nn, nn, nn, nn, nn, nn, nn, nn, nn]])
def P_X11_tell : List (List (List Nat)) := [[[],[],[],[],[],[],[],[],[],[],[],[],[535],[],[],[503]], [[],[],[],[],[],[],[],[],[],[],[535],[],[],[],[],[1056,1057,1058]], [[],[],[],[],[],[],[],[],[],[],[],[],[],[],[],[]]]
set_option maxRecDepth 100000 in
theorem kT_X11_tell : ab_okT M_X11_tell := ab_okT_of (P := P_X11_tell) 48 (Nat.le_of_ble_eq_true rfl) (fun pc h => ab_chkR_of (lo := 0) (len := 48) (by decide +kernel) pc (Nat.zero_le _) (by omega))
theorem kY_X11_tell : ab_okY M_X11_tell := ab_okY_of 1055 105 (by decide +kernel)
def M_X11_forget : ab_M := (yX11_forget, cX11_forget, 2, (some .int), 11, 0, [
  [oo (.aload_n 0) 1, of (.getfield 78) 4 11 12, nn, nn, of (.getfield 111) 7 7 0, nn, nn, oo (.istore_n 1) 8, oo (.aload_n 0) 9, of (.getfield 78) 12 11 12, nn, nn, oo (.iconst 0) 13, of (.putfield 111) 16 7 0, nn, nn],
  [oo (.iload_n 1) 17, oo .ireturn 18, nn, nn, nn, nn, nn, nn, nn, nn, nn, nn, nn, nn, nn, nn]])
def P_X11_forget : List (List (List Nat)) := [[[],[535],[],[],[503],[],[],[],[],[535],[],[],[],[503],[],[]], [[],[],[],[],[],[],[],[],[],[],[],[],[],[],[],[]]]
set_option maxRecDepth 100000 in
theorem kT_X11_forget : ab_okT M_X11_forget := ab_okT_of (P := P_X11_forget) 32 (Nat.le_of_ble_eq_true rfl) (fun pc h => ab_chkR_of (lo := 0) (len := 32) (by decide +kernel) pc (Nat.zero_le _) (by omega))
theorem kY_X11_forget : ab_okY M_X11_forget := ab_okY_of 1063 105 (by decide +kernel)
def M_X11_written : ab_M := (yX11_written, cX11_written, 4, (some .int), 11, 2, [
  [oo (.iload_n 1) 1, oj (.ifCond .lt 23) 4 24, nn, nn, oo (.iload_n 1) 5, oo (.aload_n 0) 6, of (.getfield 78) 9 11 12, nn, nn, of (.getfield 111) 12 7 0, nn, nn, oj (.if_icmp .gt 12) 15 24, nn, nn, oo (.iload_n 2) 16],
  [oj (.ifCond .lt 8) 19 24, nn, nn, oo (.iload_n 2) 20, oo (.iconst 1) 21, oj (.if_icmp .le 5) 24 26, nn, nn, oo (.iconst (-1)) 25, oo .ireturn 26, oo (.aload_n 0) 27, of (.getfield 78) 30 11 12, nn, nn, oo (.aload_n 0) 31, of (.getfield 26) 34 11 2],
  [nn, nn, oo (.iload_n 1) 35, om (.invokevirtual 284) 38 0 yX7_left, nn, nn, oo (.istore_n 3) 39, oo (.iload_n 2) 40, oj (.ifCond .ne 10) 43 50, nn, nn, oo (.iload_n 3) 44, om (.invokestatic 240) 47 0 yJ6_bitCount_0f7a4, nn, nn, oj (.goto 4) 50 51],
  [nn, nn, oo (.iload_n 3) 51, oo .ireturn 52, nn, nn, nn, nn, nn, nn, nn, nn, nn, nn, nn, nn]])
def P_X11_written : List (List (List Nat)) := [[[],[],[],[],[],[],[535],[],[],[503],[],[],[],[],[],[]], [[],[],[],[],[],[],[],[],[],[],[],[535],[],[],[],[525]], [[],[],[],[1068,1069,1070],[],[],[],[],[],[],[],[],[1003,994],[],[],[]], [[],[],[],[],[],[],[],[],[],[],[],[],[],[],[],[]]]
set_option maxRecDepth 100000 in
theorem kT_X11_written : ab_okT M_X11_written := ab_okT_of (P := P_X11_written) 64 (Nat.le_of_ble_eq_true rfl) (fun pc h => ab_chkR_of (lo := 0) (len := 64) (by decide +kernel) pc (Nat.zero_le _) (by omega))
theorem kY_X11_written : ab_okY M_X11_written := ab_okY_of 1067 105 (by decide +kernel)
def M_X11_ask : ab_M := (yX11_ask, cX11_ask, 2, (some .int), 11, 1, [
  [oo (.iload_n 1) 1, oj (.ifCond .lt 14) 4 15, nn, nn, oo (.iload_n 1) 5, oo (.aload_n 0) 6, of (.getfield 78) 9 11 12, nn, nn, of (.getfield 111) 12 7 0, nn, nn, oj (.if_icmp .le 5) 15 17, nn, nn, oo (.iconst (-1)) 16],
  [oo .ireturn 17, oo (.aload_n 0) 18, of (.getfield 78) 21 11 12, nn, nn, oo (.aload_n 0) 22, of (.getfield 26) 25 11 2, nn, nn, oo (.aload_n 0) 26, of (.getfield 78) 29 11 12, nn, nn, oo (.aload_n 0) 30, of (.getfield 26) 33 11 2, nn],
  [nn, oo (.iload_n 1) 34, om (.invokevirtual 284) 37 0 yX7_left, nn, nn, om (.invokevirtual 288) 40 0 yX7_bestQuestion, nn, nn, oo .ireturn 41, nn, nn, nn, nn, nn, nn, nn]])
def P_X11_ask : List (List (List Nat)) := [[[],[],[],[],[],[],[535],[],[],[503],[],[],[],[],[],[]], [[],[],[535],[],[],[],[525],[],[],[],[535],[],[],[],[525],[]], [[],[],[1068,1069,1070],[],[],[1085,1086,1087],[],[],[],[],[],[],[],[],[],[]]]
set_option maxRecDepth 100000 in
theorem kT_X11_ask : ab_okT M_X11_ask := ab_okT_of (P := P_X11_ask) 48 (Nat.le_of_ble_eq_true rfl) (fun pc h => ab_chkR_of (lo := 0) (len := 48) (by decide +kernel) pc (Nat.zero_le _) (by omega))
theorem kY_X11_ask : ab_okY M_X11_ask := ab_okY_of 1084 105 (by decide +kernel)
def M_X11_hold : ab_M := (yX11_hold, cX11_hold, 2, (some .boolean), 11, 1, [
  [oo (.iload_n 1) 1, oj (.ifCond .lt 8) 4 9, nn, nn, oo (.iload_n 1) 5, oo (.iconst 3) 6, oj (.if_icmp .lt 5) 9 11, nn, nn, oo (.iconst 0) 10, oo .ireturn 11, oo (.aload_n 0) 12, of (.getfield 50) 15 11 7, nn, nn, oo (.iload_n 1) 16],
  [oo .aaload 17, oj (.ifnonnull 16) 20 33, nn, nn, oo (.aload_n 0) 21, of (.getfield 50) 24 11 7, nn, nn, oo (.iload_n 1) 25, of (.new 33) 28 10 0, nn, nn, oo .dup 29, om (.invokespecial 35) 32 1 yX10_init, nn, nn],
  [oo .aastore 33, oo (.aload_n 0) 34, of (.getfield 50) 37 11 7, nn, nn, oo (.iload_n 1) 38, oo .aaload 39, oo (.aload_n 0) 40, of (.getfield 36) 43 11 4, nn, nn, om (.invokevirtual 262) 46 0 yX10_copy, nn, nn, oo (.aload_n 0) 47, oo .dup 48],
  [of (.getfield 112) 51 11 8, nn, nn, oo (.iconst 1) 52, oo (.iload_n 1) 53, oo .ishl 54, oo .ior 55, of (.putfield 112) 58 11 8, nn, nn, oo (.iconst 1) 59, oo .ireturn 60, nn, nn, nn, nn]])
def P_X11_hold : List (List (List Nat)) := [[[],[],[],[],[],[],[],[],[],[],[],[],[530],[],[],[]], [[],[],[],[],[],[530],[],[],[],[371,372,114],[],[],[],[374,373],[],[]], [[],[],[530],[],[],[],[],[],[527],[],[],[1022,821,822],[],[],[],[]], [[531],[],[],[],[],[],[],[531],[],[],[],[],[],[],[],[]]]
set_option maxRecDepth 100000 in
theorem kT_X11_hold : ab_okT M_X11_hold := ab_okT_of (P := P_X11_hold) 64 (Nat.le_of_ble_eq_true rfl) (fun pc h => ab_chkR_of (lo := 0) (len := 64) (by decide +kernel) pc (Nat.zero_le _) (by omega))
theorem kY_X11_hold : ab_okY M_X11_hold := ab_okY_of 1094 105 (by decide +kernel)
def M_X11_restore : ab_M := (yX11_restore, cX11_restore, 2, (some .boolean), 11, 1, [
  [oo (.iload_n 1) 1, oj (.ifCond .lt 28) 4 29, nn, nn, oo (.iload_n 1) 5, oo (.iconst 3) 6, oj (.if_icmp .ge 23) 9 29, nn, nn, oo (.aload_n 0) 10, of (.getfield 112) 13 11 8, nn, nn, oo (.iload_n 1) 14, oo .ishr 15, oo (.iconst 1) 16],
  [oo .iand 17, oj (.ifCond .eq 12) 20 29, nn, nn, oo (.aload_n 0) 21, of (.getfield 50) 24 11 7, nn, nn, oo (.iload_n 1) 25, oo .aaload 26, oj (.ifnonnull 5) 29 31, nn, nn, oo (.iconst 0) 30, oo .ireturn 31, oo (.aload_n 0) 32],
  [of (.getfield 36) 35 11 4, nn, nn, oo (.aload_n 0) 36, of (.getfield 50) 39 11 7, nn, nn, oo (.iload_n 1) 40, oo .aaload 41, om (.invokevirtual 262) 44 0 yX10_copy, nn, nn, oo (.aload_n 0) 45, of (.getfield 46) 48 11 6, nn, nn],
  [oo (.iconst 0) 49, of (.putfield 108) 52 2 0, nn, nn, oo (.iconst 1) 53, oo .ireturn 54, nn, nn, nn, nn, nn, nn, nn, nn, nn, nn]])
def P_X11_restore : List (List (List Nat)) := [[[],[],[],[],[],[],[],[],[],[],[531],[],[],[],[],[]], [[],[],[],[],[],[530],[],[],[],[],[],[],[],[],[],[]], [[527],[],[],[],[530],[],[],[],[],[1022,821,822],[],[],[],[529],[],[]], [[],[431],[],[],[],[],[],[],[],[],[],[],[],[],[],[]]]
set_option maxRecDepth 100000 in
theorem kT_X11_restore : ab_okT M_X11_restore := ab_okT_of (P := P_X11_restore) 64 (Nat.le_of_ble_eq_true rfl) (fun pc h => ab_chkR_of (lo := 0) (len := 64) (by decide +kernel) pc (Nat.zero_le _) (by omega))
theorem kY_X11_restore : ab_okY M_X11_restore := ab_okY_of 1098 105 (by decide +kernel)
