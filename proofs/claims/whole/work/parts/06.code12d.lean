def M_X12_termOf : ab_M := (yX12_termOf, cX12_termOf, 8, (some .int), 12, 2, [
  [oo (.iconst 0) 1, oo (.istore_n 3) 2, oo (.iload_n 1) 3, oo (.istore 4) 5, nn, oo (.iload 4) 7, nn, oo (.iload_n 2) 8, oj (.if_icmp .ge 157) 11 165, nn, nn, oo (.aload_n 0) 12, of (.getfield 104) 15 12 43, nn, nn, oo (.iload 4) 17],
  [nn, oo .iaload 18, oo (.istore 5) 20, nn, oo (.iload 5) 22, nn, oo (.iconst 2) 23, oj (.if_icmp .ge 42) 26 65, nn, nn, oo (.aload_n 0) 27, of (.getfield 116) 30 12 48, nn, nn, oo (.iload_n 3) 31, oo (.iload 5) 33],
  [nn, oj (.ifCond .ne 13) 36 46, nn, nn, oo (.aload_n 0) 37, of (.getfield 107) 40 12 44, nn, nn, oo (.iload 4) 42, nn, oo .iaload 43, oj (.goto 15) 46 58, nn, nn, oo (.aload_n 0) 47, of (.getfield 113) 50 12 47],
  [nn, nn, oo (.aload_n 0) 51, of (.getfield 107) 54 12 44, nn, nn, oo (.iload 4) 56, nn, oo .iaload 57, oo .iaload 58, oo .iastore 59, oo (.iinc 3 1) 62, nn, nn, oj (.goto 97) 65 159, nn],
  [nn, oo (.iinc 3 (-1)) 68, nn, nn, oo (.aload_n 0) 69, of (.getfield 116) 72 12 48, nn, nn, oo (.iload_n 3) 73, oo (.iconst 1) 74, oo .isub 75, oo .iaload 76, oo (.istore 6) 78, nn, oo (.aload_n 0) 79, of (.getfield 116) 82 12 48],
  [nn, nn, oo (.iload_n 3) 83, oo .iaload 84, oo (.istore 7) 86, nn, oo (.iload 5) 88, nn, oo (.iconst 5) 89, oj (.if_icmp .ne 15) 92 104, nn, nn, oo (.iload 7) 94, nn, oj (.ifCond .ne 10) 97 104, nn],
  [nn, oo (.aload_n 0) 98, oo (.iconst 1) 99, of (.putfield 313) 102 12 49, nn, nn, oo (.iconst 0) 103, oo .ireturn 104, oo (.aload_n 0) 105, of (.getfield 116) 108 12 48, nn, nn, oo (.iload_n 3) 109, oo (.iconst 1) 110, oo .isub 111, oo (.iload 5) 113],
  [nn, oo (.iconst 2) 114, oj (.if_icmp .ne 11) 117 125, nn, nn, oo (.iload 6) 119, nn, oo (.iload 7) 121, nn, oo .iadd 122, oj (.goto 36) 125 158, nn, nn, oo (.iload 5) 127, nn, oo (.iconst 3) 128],
  [oj (.if_icmp .ne 11) 131 139, nn, nn, oo (.iload 6) 133, nn, oo (.iload 7) 135, nn, oo .isub 136, oj (.goto 22) 139 158, nn, nn, oo (.iload 5) 141, nn, oo (.iconst 4) 142, oj (.if_icmp .ne 11) 145 153, nn],
  [nn, oo (.iload 6) 147, nn, oo (.iload 7) 149, nn, oo .imul 150, oj (.goto 8) 153 158, nn, nn, oo (.iload 6) 155, nn, oo (.iload 7) 157, nn, oo .idiv 158, oo .iastore 159, oo (.iinc 4 1) 162],
  [nn, nn, oj (.goto (-157)) 165 5, nn, nn, oo (.aload_n 0) 166, of (.getfield 116) 169 12 48, nn, nn, oo (.iconst 0) 170, oo .iaload 171, oo .ireturn 172, nn, nn, nn, nn]])
def P_X12_termOf : List (List (List Nat)) := [[[],[],[],[],[],[],[],[],[],[],[],[],[1194],[],[],[]], [[],[],[],[],[],[],[],[],[],[],[],[1199],[],[],[],[]], [[],[],[],[],[],[1195],[],[],[],[],[],[],[],[],[],[1198]], [[],[],[],[1195],[],[],[],[],[],[],[],[],[],[],[],[]], [[],[],[],[],[],[1199],[],[],[],[],[],[],[],[],[],[1199]], [[],[],[],[],[],[],[],[],[],[],[],[],[],[],[],[]], [[],[],[],[1200],[],[],[],[],[],[1199],[],[],[],[],[],[]], [[],[],[],[],[],[],[],[],[],[],[],[],[],[],[],[]], [[],[],[],[],[],[],[],[],[],[],[],[],[],[],[],[]], [[],[],[],[],[],[],[],[],[],[],[],[],[],[],[],[]], [[],[],[],[],[],[],[1199],[],[],[],[],[],[],[],[],[]]]
set_option maxRecDepth 100000 in
theorem kT_X12_termOf : ab_okT M_X12_termOf := ab_okT_of (P := P_X12_termOf) 176 (Nat.le_of_ble_eq_true rfl) (fun pc h => ab_chkR_of (lo := 0) (len := 176) (by decide +kernel) pc (Nat.zero_le _) (by omega))
theorem kY_X12_termOf : ab_okY M_X12_termOf := ab_okY_of 1535 124 (by decide +kernel)
def M_X12_lengthOf : ab_M := (yX12_lengthOf, cX12_lengthOf, 5, (some .int), 12, 1, [
  [oo (.iconst 0) 1, oo (.istore_n 2) 2, oo (.lload_n 0) 3, oo (.lstore_n 3) 4, oo (.lload_n 3) 5, oo (.lconst 0) 6, oo .lcmp 7, oj (.ifCond .le 15) 10 22, nn, nn, oo (.lload_n 3) 11, oc (.ldc2_w 181) 14 (.long (27)), nn, nn, oo .ldiv 15, oo (.lstore_n 3) 16],
  [oo (.iinc 2 1) 19, nn, nn, oj (.goto (-15)) 22 4, nn, nn, oo (.iload_n 2) 23, oo .ireturn 24, nn, nn, nn, nn, nn, nn, nn, nn]])
def P_X12_lengthOf : List (List (List Nat)) := [[[],[],[],[],[],[],[],[],[],[],[],[1137],[],[],[],[]], [[],[],[],[],[],[],[],[],[],[],[],[],[],[],[],[]]]
set_option maxRecDepth 100000 in
theorem kT_X12_lengthOf : ab_okT M_X12_lengthOf := ab_okT_of (P := P_X12_lengthOf) 32 (Nat.le_of_ble_eq_true rfl) (fun pc h => ab_chkR_of (lo := 0) (len := 32) (by decide +kernel) pc (Nat.zero_le _) (by omega))
theorem kY_X12_lengthOf : ab_okY M_X12_lengthOf := ab_okY_of 1144 124 (by decide +kernel)
def M_X12_signAt : ab_M := (yX12_signAt, cX12_signAt, 6, (some .int), 12, 2, [
  [oo (.lload_n 0) 1, oo (.lstore_n 3) 2, oo (.lload_n 0) 3, om (.invokestatic 317) 6 0 yX12_lengthOf, nn, nn, oo (.iconst 1) 7, oo .isub 8, oo (.istore 5) 10, nn, oo (.iload 5) 12, nn, oo (.iload_n 2) 13, oj (.if_icmp .le 15) 16 28, nn, nn],
  [oo (.lload_n 3) 17, oc (.ldc2_w 181) 20 (.long (27)), nn, nn, oo .ldiv 21, oo (.lstore_n 3) 22, oo (.iinc 5 (-1)) 25, nn, nn, oj (.goto (-15)) 28 10, nn, nn, oo (.lload_n 3) 29, oc (.ldc2_w 181) 32 (.long (27)), nn, nn],
  [oo .lrem 33, oo .l2i 34, oo .ireturn 35, nn, nn, nn, nn, nn, nn, nn, nn, nn, nn, nn, nn, nn]])
def P_X12_signAt : List (List (List Nat)) := [[[],[],[],[1142,1143],[],[],[],[],[],[],[],[],[],[],[],[]], [[],[1137],[],[],[],[],[],[],[],[],[],[],[],[1137],[],[]], [[],[],[],[],[],[],[],[],[],[],[],[],[],[],[],[]]]
set_option maxRecDepth 100000 in
theorem kT_X12_signAt : ab_okT M_X12_signAt := ab_okT_of (P := P_X12_signAt) 48 (Nat.le_of_ble_eq_true rfl) (fun pc h => ab_chkR_of (lo := 0) (len := 48) (by decide +kernel) pc (Nat.zero_le _) (by omega))
theorem kY_X12_signAt : ab_okY M_X12_signAt := ab_okY_of 1147 124 (by decide +kernel)
def M_X12_timesIn : ab_M := (yX12_timesIn, cX12_timesIn, 6, (some .int), 12, 2, [
  [oo (.iconst 0) 1, oo (.istore_n 3) 2, oo (.lload_n 0) 3, oo (.lstore 4) 5, nn, oo (.lload 4) 7, nn, oo (.lconst 0) 8, oo .lcmp 9, oj (.ifCond .le 29) 12 38, nn, nn, oo (.lload 4) 14, nn, oc (.ldc2_w 181) 17 (.long (27)), nn],
  [nn, oo .lrem 18, oo (.iload_n 2) 19, oo .i2l 20, oo .lcmp 21, oj (.ifCond .ne 6) 24 27, nn, nn, oo (.iinc 3 1) 27, nn, nn, oo (.lload 4) 29, nn, oc (.ldc2_w 181) 32 (.long (27)), nn, nn],
  [oo .ldiv 33, oo (.lstore 4) 35, nn, oj (.goto (-30)) 38 5, nn, nn, oo (.iload_n 3) 39, oo .ireturn 40, nn, nn, nn, nn, nn, nn, nn, nn]])
def P_X12_timesIn : List (List (List Nat)) := [[[],[],[],[],[],[],[],[],[],[],[],[],[],[],[1137],[]], [[],[],[],[],[],[],[],[],[],[],[],[],[],[1137],[],[]], [[],[],[],[],[],[],[],[],[],[],[],[],[],[],[],[]]]
set_option maxRecDepth 100000 in
theorem kT_X12_timesIn : ab_okT M_X12_timesIn := ab_okT_of (P := P_X12_timesIn) 48 (Nat.le_of_ble_eq_true rfl) (fun pc h => ab_chkR_of (lo := 0) (len := 48) (by decide +kernel) pc (Nat.zero_le _) (by omega))
theorem kY_X12_timesIn : ab_okY M_X12_timesIn := ab_okY_of 1693 124 (by decide +kernel)
def M_X12_in : ab_M := (yX12_in, cX12_in, 3, (some .boolean), 12, 3, [
  [oo (.iload_n 0) 1, oo (.iload_n 1) 2, oj (.if_icmp .lt 12) 5 14, nn, nn, oo (.iload_n 0) 6, oo (.iload_n 2) 7, oj (.if_icmp .gt 7) 10 14, nn, nn, oo (.iconst 1) 11, oj (.goto 4) 14 15, nn, nn, oo (.iconst 0) 15, oo .ireturn 16]])
def P_X12_in : List (List (List Nat)) := [[[],[],[],[],[],[],[],[],[],[],[],[],[],[],[],[]]]
set_option maxRecDepth 100000 in
theorem kT_X12_in : ab_okT M_X12_in := ab_okT_of (P := P_X12_in) 16 (Nat.le_of_ble_eq_true rfl) (fun pc h => ab_chkR_of (lo := 0) (len := 16) (by decide +kernel) pc (Nat.zero_le _) (by omega))
theorem kY_X12_in : ab_okY M_X12_in := ab_okY_of 1491 124 (by decide +kernel)
def M_X12_within : ab_M := (yX12_within, cX12_within, 3, (some .int), 12, 3, [
  [oo (.iload_n 0) 1, oo (.iload_n 1) 2, oj (.if_icmp .ge 7) 5 9, nn, nn, oo (.iload_n 1) 6, oj (.goto 13) 9 19, nn, nn, oo (.iload_n 0) 10, oo (.iload_n 2) 11, oj (.if_icmp .le 7) 14 18, nn, nn, oo (.iload_n 2) 15, oj (.goto 4) 18 19],
  [nn, nn, oo (.iload_n 0) 19, oo .ireturn 20, nn, nn, nn, nn, nn, nn, nn, nn, nn, nn, nn, nn]])
def P_X12_within : List (List (List Nat)) := [[[],[],[],[],[],[],[],[],[],[],[],[],[],[],[],[]], [[],[],[],[],[],[],[],[],[],[],[],[],[],[],[],[]]]
set_option maxRecDepth 100000 in
theorem kT_X12_within : ab_okT M_X12_within := ab_okT_of (P := P_X12_within) 32 (Nat.le_of_ble_eq_true rfl) (fun pc h => ab_chkR_of (lo := 0) (len := 32) (by decide +kernel) pc (Nat.zero_le _) (by omega))
theorem kY_X12_within : ab_okY M_X12_within := ab_okY_of 1542 124 (by decide +kernel)
def M_X12_bits : ab_M := (yX12_bits, cX12_bits, 3, (some .int), 12, 1, [
  [oo (.iconst 0) 1, oo (.istore_n 1) 2, oo (.iconst 0) 3, oo (.istore_n 2) 4, oo (.iload_n 2) 5, oo (.bipush 10) 7, nn, oj (.if_icmp .ge 17) 10 24, nn, nn, oo (.iload_n 1) 11, oo (.iload_n 0) 12, oo (.iload_n 2) 13, oo .ishr 14, oo (.iconst 1) 15, oo .iand 16],
  [oo .iadd 17, oo (.istore_n 1) 18, oo (.iinc 2 1) 21, nn, nn, oj (.goto (-17)) 24 4, nn, nn, oo (.iload_n 1) 25, oo .ireturn 26, nn, nn, nn, nn, nn, nn]])
def P_X12_bits : List (List (List Nat)) := [[[],[],[],[],[],[],[],[],[],[],[],[],[],[],[],[]], [[],[],[],[],[],[],[],[],[],[],[],[],[],[],[],[]]]
set_option maxRecDepth 100000 in
theorem kT_X12_bits : ab_okT M_X12_bits := ab_okT_of (P := P_X12_bits) 32 (Nat.le_of_ble_eq_true rfl) (fun pc h => ab_chkR_of (lo := 0) (len := 32) (by decide +kernel) pc (Nat.zero_le _) (by omega))
theorem kY_X12_bits : ab_okY M_X12_bits := ab_okY_of 1700 124 (by decide +kernel)
def M_X12_off : ab_M := (yX12_off, cX12_off, 2, (some .int), 12, 2, [
  [oo (.iload_n 0) 1, oo (.iload_n 1) 2, oj (.if_icmp .ge 9) 5 11, nn, nn, oo (.iload_n 1) 6, oo (.iload_n 0) 7, oo .isub 8, oj (.goto 6) 11 14, nn, nn, oo (.iload_n 0) 12, oo (.iload_n 1) 13, oo .isub 14, oo .ireturn 15, nn]])
def P_X12_off : List (List (List Nat)) := [[[],[],[],[],[],[],[],[],[],[],[],[],[],[],[],[]]]
set_option maxRecDepth 100000 in
theorem kT_X12_off : ab_okT M_X12_off := ab_okT_of (P := P_X12_off) 16 (Nat.le_of_ble_eq_true rfl) (fun pc h => ab_chkR_of (lo := 0) (len := 16) (by decide +kernel) pc (Nat.zero_le _) (by omega))
theorem kY_X12_off : ab_okY M_X12_off := ab_okY_of 1642 124 (by decide +kernel)
def M_X12_stepsOff : ab_M := (yX12_stepsOff, cX12_stepsOff, 2, (some .int), 12, 2, [
  [oo (.iload_n 0) 1, oo (.bipush 10) 3, nn, oo .irem 4, oo (.iload_n 1) 5, oo (.bipush 10) 7, nn, oo .irem 8, om (.invokestatic 321) 11 0 yX12_off, nn, nn, oo (.iload_n 0) 12, oo (.bipush 10) 14, nn, oo .idiv 15, oo (.iload_n 1) 16],
  [oo (.bipush 10) 18, nn, oo .idiv 19, om (.invokestatic 321) 22 0 yX12_off, nn, nn, oo .iadd 23, oo .ireturn 24, nn, nn, nn, nn, nn, nn, nn, nn]])
def P_X12_stepsOff : List (List (List Nat)) := [[[],[],[],[],[],[],[],[],[1640,1641],[],[],[],[],[],[],[]], [[],[],[],[1640,1641],[],[],[],[],[],[],[],[],[],[],[],[]]]
set_option maxRecDepth 100000 in
theorem kT_X12_stepsOff : ab_okT M_X12_stepsOff := ab_okT_of (P := P_X12_stepsOff) 32 (Nat.le_of_ble_eq_true rfl) (fun pc h => ab_chkR_of (lo := 0) (len := 32) (by decide +kernel) pc (Nat.zero_le _) (by omega))
theorem kY_X12_stepsOff : ab_okY M_X12_stepsOff := ab_okY_of 1639 124 (by decide +kernel)
def M_X12_isPiece : ab_M := (yX12_isPiece, cX12_isPiece, 2, (some .boolean), 12, 1, [
  [oo (.iload_n 1) 1, oo (.iconst 0) 2, oo (.aload_n 0) 3, of (.getfield 324) 6 12 54, nn, nn, oo (.iconst 1) 7, oo .isub 8, om (.invokestatic 327) 11 0 yX12_in, nn, nn, oo .ireturn 12, nn, nn, nn, nn]])
def P_X12_isPiece : List (List (List Nat)) := [[[],[],[],[1205],[],[],[],[],[1489,1490],[],[],[],[],[],[],[]]]
set_option maxRecDepth 100000 in
theorem kT_X12_isPiece : ab_okT M_X12_isPiece := ab_okT_of (P := P_X12_isPiece) 16 (Nat.le_of_ble_eq_true rfl) (fun pc h => ab_chkR_of (lo := 0) (len := 16) (by decide +kernel) pc (Nat.zero_le _) (by omega))
theorem kY_X12_isPiece : ab_okY M_X12_isPiece := ab_okY_of 1488 124 (by decide +kernel)
def M_X12_isPicker : ab_M := (yX12_isPicker, cX12_isPicker, 2, (some .boolean), 12, 1, [
  [oo (.iload_n 1) 1, oo (.iconst 0) 2, oo (.aload_n 0) 3, of (.getfield 58) 6 12 26, nn, nn, oo (.aload_n 0) 7, of (.getfield 239) 10 12 18, nn, nn, oo .iaload 11, oo (.iconst 1) 12, oo .isub 13, om (.invokestatic 327) 16 0 yX12_in, nn, nn],
  [oo .ireturn 17, nn, nn, nn, nn, nn, nn, nn, nn, nn, nn, nn, nn, nn, nn, nn]])
def P_X12_isPicker : List (List (List Nat)) := [[[],[],[],[1177],[],[],[],[1169],[],[],[],[],[],[1489,1490],[],[]], [[],[],[],[],[],[],[],[],[],[],[],[],[],[],[],[]]]
set_option maxRecDepth 100000 in
theorem kT_X12_isPicker : ab_okT M_X12_isPicker := ab_okT_of (P := P_X12_isPicker) 32 (Nat.le_of_ble_eq_true rfl) (fun pc h => ab_chkR_of (lo := 0) (len := 32) (by decide +kernel) pc (Nat.zero_le _) (by omega))
theorem kY_X12_isPicker : ab_okY M_X12_isPicker := ab_okY_of 1550 124 (by decide +kernel)
def M_X12_isWord : ab_M := (yX12_isWord, cX12_isWord, 2, (some .boolean), 12, 1, [
  [oo (.iload_n 1) 1, oo (.iconst 0) 2, oo (.aload_n 0) 3, of (.getfield 52) 6 12 24, nn, nn, oo (.aload_n 0) 7, of (.getfield 239) 10 12 18, nn, nn, oo .iaload 11, oo (.iconst 1) 12, oo .isub 13, om (.invokestatic 327) 16 0 yX12_in, nn, nn],
  [oo .ireturn 17, nn, nn, nn, nn, nn, nn, nn, nn, nn, nn, nn, nn, nn, nn, nn]])
def P_X12_isWord : List (List (List Nat)) := [[[],[],[],[1175],[],[],[],[1169],[],[],[],[],[],[1489,1490],[],[]], [[],[],[],[],[],[],[],[],[],[],[],[],[],[],[],[]]]
set_option maxRecDepth 100000 in
theorem kT_X12_isWord : ab_okT M_X12_isWord := ab_okT_of (P := P_X12_isWord) 32 (Nat.le_of_ble_eq_true rfl) (fun pc h => ab_chkR_of (lo := 0) (len := 32) (by decide +kernel) pc (Nat.zero_le _) (by omega))
theorem kY_X12_isWord : ab_okY M_X12_isWord := ab_okY_of 1712 124 (by decide +kernel)
def M_X12_isCell : ab_M := (yX12_isCell, cX12_isCell, 2, (some .boolean), 12, 2, [
  [oo (.iload_n 0) 1, oo (.iconst 0) 2, oo (.bipush 9) 4, nn, om (.invokestatic 327) 7 0 yX12_in, nn, nn, oj (.ifCond .eq 17) 10 24, nn, nn, oo (.iload_n 1) 11, oo (.iconst 0) 12, oo (.bipush 7) 14, nn, om (.invokestatic 327) 17 0 yX12_in, nn],
  [nn, oj (.ifCond .eq 7) 20 24, nn, nn, oo (.iconst 1) 21, oj (.goto 4) 24 25, nn, nn, oo (.iconst 0) 25, oo .ireturn 26, nn, nn, nn, nn, nn, nn]])
def P_X12_isCell : List (List (List Nat)) := [[[],[],[],[],[1489,1490],[],[],[],[],[],[],[],[],[],[1489,1490],[]], [[],[],[],[],[],[],[],[],[],[],[],[],[],[],[],[]]]
set_option maxRecDepth 100000 in
theorem kT_X12_isCell : ab_okT M_X12_isCell := ab_okT_of (P := P_X12_isCell) 32 (Nat.le_of_ble_eq_true rfl) (fun pc h => ab_chkR_of (lo := 0) (len := 32) (by decide +kernel) pc (Nat.zero_le _) (by omega))
theorem kY_X12_isCell : ab_okY M_X12_isCell := ab_okY_of 1569 124 (by decide +kernel)
def M_X12_begins : ab_M := (yX12_begins, cX12_begins, 4, none, 12, 0, [
  [oo (.iconst 0) 1, oo (.istore_n 1) 2, oo (.iload_n 1) 3, oo (.sipush 141) 6, nn, nn, oj (.if_icmp .ge 16) 9 22, nn, nn, oo (.aload_n 0) 10, of (.getfield 122) 13 12 51, nn, nn, oo (.iload_n 1) 14, oo (.iconst 0) 15, oo .iastore 16],
  [oo (.iinc 1 1) 19, nn, nn, oj (.goto (-17)) 22 2, nn, nn, oo (.aload_n 0) 23, oo (.iconst 0) 24, of (.putfield 324) 27 12 54, nn, nn, oo (.iconst 0) 28, oo (.istore_n 1) 29, oo (.iload_n 1) 30, oo (.aload_n 0) 31, of (.getfield 40) 34 12 20],
  [nn, nn, oo (.aload_n 0) 35, of (.getfield 239) 38 12 18, nn, nn, oo .iaload 39, oj (.if_icmp .ge 130) 42 169, nn, nn, oo (.iconst 4) 43, oo (.aload_n 0) 44, of (.getfield 239) 47 12 18, nn, nn, oo .imul 48],
  [oo (.iload_n 1) 49, oo .iadd 50, oo (.istore_n 2) 51, oo (.iconst 0) 52, oo (.istore_n 3) 53, oo (.iload_n 3) 54, oo (.aload_n 0) 55, of (.getfield 43) 58 12 21, nn, nn, oo (.iload_n 2) 59, oo .laload 60, om (.invokestatic 317) 63 0 yX12_lengthOf, nn, nn, oj (.if_icmp .ge 100) 66 163],
  [nn, nn, oo (.aload_n 0) 67, of (.getfield 125) 70 12 55, nn, nn, oo (.aload_n 0) 71, of (.getfield 324) 74 12 54, nn, nn, oo (.aload_n 0) 75, of (.getfield 43) 78 12 21, nn, nn, oo (.iload_n 2) 79, oo .laload 80],
  [oo (.iload_n 3) 81, om (.invokestatic 331) 84 0 yX12_signAt, nn, nn, oo .iastore 85, oo (.aload_n 0) 86, of (.getfield 128) 89 12 56, nn, nn, oo (.aload_n 0) 90, of (.getfield 324) 93 12 54, nn, nn, oo (.iload_n 1) 94, oo .iastore 95, oo (.aload_n 0) 96],
  [of (.getfield 122) 99 12 51, nn, nn, oo (.aload_n 0) 100, of (.getfield 324) 103 12 54, nn, nn, oo (.aload_n 0) 104, of (.getfield 46) 107 12 22, nn, nn, oo (.iload_n 2) 108, oo .iaload 109, oo (.iload_n 3) 110, oo .iadd 111, oo (.bipush 10) 113],
  [nn, oo .irem 114, oo .iastore 115, oo (.aload_n 0) 116, of (.getfield 122) 119 12 51, nn, nn, oo (.bipush 32) 121, nn, oo (.aload_n 0) 122, of (.getfield 324) 125 12 54, nn, nn, oo .iadd 126, oo (.aload_n 0) 127, of (.getfield 49) 130 12 23],
  [nn, nn, oo (.iload_n 2) 131, oo .iaload 132, oo .iastore 133, oo (.aload_n 0) 134, of (.getfield 122) 137 12 51, nn, nn, oo (.bipush 64) 139, nn, oo (.aload_n 0) 140, of (.getfield 324) 143 12 54, nn, nn, oo .iadd 144],
  [oo (.bipush (-2)) 146, nn, oo .iastore 147, oo (.aload_n 0) 148, oo .dup 149, of (.getfield 324) 152 12 54, nn, nn, oo (.iconst 1) 153, oo .iadd 154, of (.putfield 324) 157 12 54, nn, nn, oo (.iinc 3 1) 160, nn, nn],
  [oj (.goto (-107)) 163 53, nn, nn, oo (.iinc 1 1) 166, nn, nn, oj (.goto (-137)) 169 29, nn, nn, oo (.iconst 0) 170, oo (.istore_n 1) 171, oo (.iload_n 1) 172, oo (.aload_n 0) 173, of (.getfield 58) 176 12 26, nn, nn],
  [oo (.aload_n 0) 177, of (.getfield 239) 180 12 18, nn, nn, oo .iaload 181, oj (.if_icmp .ge 67) 184 248, nn, nn, oo (.aload_n 0) 185, of (.getfield 122) 188 12 51, nn, nn, oo (.sipush 128) 191, nn, nn, oo (.iload_n 1) 192],
  [oo .iadd 193, oo (.aload_n 0) 194, of (.getfield 64) 197 12 28, nn, nn, oo (.iconst 4) 198, oo (.aload_n 0) 199, of (.getfield 239) 202 12 18, nn, nn, oo .imul 203, oo (.iload_n 1) 204, oo .iadd 205, oo .iaload 206, oo .iastore 207, oo (.aload_n 0) 208],
  [of (.getfield 122) 211 12 51, nn, nn, oo (.sipush 132) 214, nn, nn, oo (.iload_n 1) 215, oo .iadd 216, oo (.aload_n 0) 217, of (.getfield 67) 220 12 29, nn, nn, oo (.iconst 4) 221, oo (.aload_n 0) 222, of (.getfield 239) 225 12 18, nn],
  [nn, oo .imul 226, oo (.iload_n 1) 227, oo .iadd 228, oo .iaload 229, oo .iastore 230, oo (.aload_n 0) 231, of (.getfield 122) 234 12 51, nn, nn, oo (.sipush 136) 237, nn, nn, oo (.iload_n 1) 238, oo .iadd 239, oo (.bipush (-2)) 241],
  [nn, oo .iastore 242, oo (.iinc 1 1) 245, nn, nn, oj (.goto (-74)) 248 171, nn, nn, oo (.aload_n 0) 249, oo (.aload_n 0) 250, of (.getfield 79) 253 12 33, nn, nn, oo (.aload_n 0) 254, of (.getfield 239) 257 12 18, nn],
  [nn, oo .iaload 258, of (.putfield 335) 261 12 52, nn, nn, oo (.aload_n 0) 262, oo (.iconst 0) 263, of (.putfield 338) 266 12 53, nn, nn, oo .return_ 267, nn, nn, nn, nn, nn]])
def P_X12_begins : List (List (List Nat)) := [[[],[],[],[],[],[],[],[],[],[],[1202],[],[],[],[],[]], [[],[],[],[],[],[],[],[],[1205],[],[],[],[],[],[],[1171]], [[],[],[],[1169],[],[],[],[],[],[],[],[],[1169],[],[],[]], [[],[],[],[],[],[],[],[1172],[],[],[],[],[1142,1143],[],[],[]], [[],[],[],[1206],[],[],[],[1205],[],[],[],[1172],[],[],[],[]], [[],[1145,1146],[],[],[],[],[1207],[],[],[],[1205],[],[],[],[],[]], [[1202],[],[],[],[1205],[],[],[],[1173],[],[],[],[],[],[],[]], [[],[],[],[],[1202],[],[],[],[],[],[1205],[],[],[],[],[1174]], [[],[],[],[],[],[],[1202],[],[],[],[],[],[1205],[],[],[]], [[],[],[],[],[],[1205],[],[],[],[],[1205],[],[],[],[],[]], [[],[],[],[],[],[],[],[],[],[],[],[],[],[1177],[],[]], [[],[1169],[],[],[],[],[],[],[],[1202],[],[],[],[],[],[]], [[],[],[1179],[],[],[],[],[1169],[],[],[],[],[],[],[],[]], [[1202],[],[],[],[],[],[],[],[],[1180],[],[],[],[],[1169],[]], [[],[],[],[],[],[],[],[1202],[],[],[],[],[],[],[],[]], [[],[],[],[],[],[],[],[],[],[],[1184],[],[],[],[1169],[]], [[],[],[1203],[],[],[],[],[1204],[],[],[],[],[],[],[],[]]]
set_option maxRecDepth 100000 in
theorem kT_X12_begins : ab_okT M_X12_begins := ab_okT_of (P := P_X12_begins) 272 (Nat.le_of_ble_eq_true rfl) (fun pc h => ab_chkR_of (lo := 0) (len := 272) (by decide +kernel) pc (Nat.zero_le _) (by omega))
theorem kY_X12_begins : ab_okY M_X12_begins := ab_okY_of 1141 124 (by decide +kernel)
def M_X12_keepsRow : ab_M := (yX12_keepsRow, cX12_keepsRow, 2, none, 12, 0, [
  [oo (.iconst 0) 1, oo (.istore_n 1) 2, oo (.iload_n 1) 3, oo (.sipush 141) 6, nn, nn, oj (.if_icmp .ge 21) 9 27, nn, nn, oo (.aload_n 0) 10, of (.getfield 119) 13 12 50, nn, nn, oo (.iload_n 1) 14, oo (.aload_n 0) 15, of (.getfield 122) 18 12 51],
  [nn, nn, oo (.iload_n 1) 19, oo .iaload 20, oo .iastore 21, oo (.iinc 1 1) 24, nn, nn, oj (.goto (-22)) 27 2, nn, nn, oo .return_ 28, nn, nn, nn, nn]])
def P_X12_keepsRow : List (List (List Nat)) := [[[],[],[],[],[],[],[],[],[],[],[1201],[],[],[],[],[1202]], [[],[],[],[],[],[],[],[],[],[],[],[],[],[],[],[]]]
set_option maxRecDepth 100000 in
theorem kT_X12_keepsRow : ab_okT M_X12_keepsRow := ab_okT_of (P := P_X12_keepsRow) 32 (Nat.le_of_ble_eq_true rfl) (fun pc h => ab_chkR_of (lo := 0) (len := 32) (by decide +kernel) pc (Nat.zero_le _) (by omega))
theorem kY_X12_keepsRow : ab_okY M_X12_keepsRow := ab_okY_of 1151 124 (by decide +kernel)
def M_X12_copies : ab_M := (yX12_copies, cX12_copies, 2, none, 12, 0, [
  [oo (.iconst 0) 1, oo (.istore_n 1) 2, oo (.iload_n 1) 3, oo (.sipush 141) 6, nn, nn, oj (.if_icmp .ge 21) 9 27, nn, nn, oo (.aload_n 0) 10, of (.getfield 122) 13 12 51, nn, nn, oo (.iload_n 1) 14, oo (.aload_n 0) 15, of (.getfield 119) 18 12 50],
  [nn, nn, oo (.iload_n 1) 19, oo .iaload 20, oo .iastore 21, oo (.iinc 1 1) 24, nn, nn, oj (.goto (-22)) 27 2, nn, nn, oo (.aload_n 0) 28, oo (.aload_n 0) 29, of (.getfield 79) 32 12 33, nn, nn],
  [oo (.aload_n 0) 33, of (.getfield 239) 36 12 18, nn, nn, oo .iaload 37, of (.putfield 335) 40 12 52, nn, nn, oo (.aload_n 0) 41, oo (.iconst 0) 42, of (.putfield 338) 45 12 53, nn, nn, oo .return_ 46, nn, nn]])
def P_X12_copies : List (List (List Nat)) := [[[],[],[],[],[],[],[],[],[],[],[1202],[],[],[],[],[1201]], [[],[],[],[],[],[],[],[],[],[],[],[],[],[1184],[],[]], [[],[1169],[],[],[],[1203],[],[],[],[],[1204],[],[],[],[],[]]]
set_option maxRecDepth 100000 in
theorem kT_X12_copies : ab_okT M_X12_copies := ab_okT_of (P := P_X12_copies) 48 (Nat.le_of_ble_eq_true rfl) (fun pc h => ab_chkR_of (lo := 0) (len := 48) (by decide +kernel) pc (Nat.zero_le _) (by omega))
theorem kY_X12_copies : ab_okY M_X12_copies := ab_okY_of 1495 124 (by decide +kernel)
def M_X12_copiesStill : ab_M := (yX12_copiesStill, cX12_copiesStill, 1, none, 12, 0, [
  [oo (.aload_n 0) 1, om (.invokevirtual 341) 4 0 yX12_copies, nn, nn, oo (.aload_n 0) 5, oo (.iconst 1) 6, of (.putfield 338) 9 12 53, nn, nn, oo .return_ 10, nn, nn, nn, nn, nn, nn]])
def P_X12_copiesStill : List (List (List Nat)) := [[[],[1492,1494,65],[],[],[],[],[1204],[],[],[],[],[],[],[],[],[]]]
set_option maxRecDepth 100000 in
theorem kT_X12_copiesStill : ab_okT M_X12_copiesStill := ab_okT_of (P := P_X12_copiesStill) 16 (Nat.le_of_ble_eq_true rfl) (fun pc h => ab_chkR_of (lo := 0) (len := 16) (by decide +kernel) pc (Nat.zero_le _) (by omega))
theorem kY_X12_copiesStill : ab_okY M_X12_copiesStill := ab_okY_of 1728 124 (by decide +kernel)
def M_X12_mixed : ab_M := (yX12_mixed, cX12_mixed, 3, (some .int), 12, 2, [
  [oo (.iload_n 0) 1, oo (.iload_n 1) 2, oo .ixor 3, oc (.ldc_w 344) 6 (.int (1103515245)), nn, nn, oo .imul 7, oo (.sipush 12345) 10, nn, nn, oo .iadd 11, oo (.istore_n 2) 12, oo (.iload_n 2) 13, oo (.iload_n 2) 14, oo (.bipush 15) 16, nn],
  [oo .iushr 17, oo .ixor 18, oo .ireturn 19, nn, nn, nn, nn, nn, nn, nn, nn, nn, nn, nn, nn, nn]])
def P_X12_mixed : List (List (List Nat)) := [[[],[],[],[1628],[],[],[],[],[],[],[],[],[],[],[],[]], [[],[],[],[],[],[],[],[],[],[],[],[],[],[],[],[]]]
set_option maxRecDepth 100000 in
theorem kT_X12_mixed : ab_okT M_X12_mixed := ab_okT_of (P := P_X12_mixed) 32 (Nat.le_of_ble_eq_true rfl) (fun pc h => ab_chkR_of (lo := 0) (len := 32) (by decide +kernel) pc (Nat.zero_le _) (by omega))
theorem kY_X12_mixed : ab_okY M_X12_mixed := ab_okY_of 1627 124 (by decide +kernel)
def M_X12_isRain : ab_M := (yX12_isRain, cX12_isRain, 1, (some .boolean), 12, 0, [
  [oo (.aload_n 0) 1, of (.getfield 335) 4 12 52, nn, nn, oo (.sipush 145) 7, nn, nn, om (.invokestatic 345) 10 0 yX12_mixed, nn, nn, oo (.iconst 4) 11, oo (.aload_n 0) 12, of (.getfield 122) 15 12 51, nn, nn, oo (.sipush 140) 18],
  [nn, nn, oo .iaload 19, oo .imul 20, om (.invokestatic 345) 23 0 yX12_mixed, nn, nn, oo (.iconst 1) 24, oo .iushr 25, oo (.bipush 100) 27, nn, oo .irem 28, oo (.aload_n 0) 29, of (.getfield 76) 32 12 32, nn, nn],
  [oo (.aload_n 0) 33, of (.getfield 239) 36 12 18, nn, nn, oo .iaload 37, oj (.if_icmp .ge 7) 40 44, nn, nn, oo (.iconst 1) 41, oj (.goto 4) 44 45, nn, nn, oo (.iconst 0) 45, oo .ireturn 46, nn, nn]])
def P_X12_isRain : List (List (List Nat)) := [[[],[1203],[],[],[],[],[],[1625,1626],[],[],[],[],[1202],[],[],[]], [[],[],[],[],[1625,1626],[],[],[],[],[],[],[],[],[1183],[],[]], [[],[1169],[],[],[],[],[],[],[],[],[],[],[],[],[],[]]]
set_option maxRecDepth 100000 in
theorem kT_X12_isRain : ab_okT M_X12_isRain := ab_okT_of (P := P_X12_isRain) 48 (Nat.le_of_ble_eq_true rfl) (fun pc h => ab_chkR_of (lo := 0) (len := 48) (by decide +kernel) pc (Nat.zero_le _) (by omega))
theorem kY_X12_isRain : ab_okY M_X12_isRain := ab_okY_of 1624 124 (by decide +kernel)
def M_X12_doesLie : ab_M := (yX12_doesLie, cX12_doesLie, 2, (some .boolean), 12, 1, [
  [oo (.aload_n 0) 1, of (.getfield 122) 4 12 51, nn, nn, oo (.bipush 64) 6, nn, oo (.iload_n 1) 7, oo .iadd 8, oo .iaload 9, oj (.ifCond .ge 7) 12 16, nn, nn, oo (.iconst 1) 13, oj (.goto 4) 16 17, nn, nn],
  [oo (.iconst 0) 17, oo .ireturn 18, nn, nn, nn, nn, nn, nn, nn, nn, nn, nn, nn, nn, nn, nn]])
def P_X12_doesLie : List (List (List Nat)) := [[[],[1202],[],[],[],[],[],[],[],[],[],[],[],[],[],[]], [[],[],[],[],[],[],[],[],[],[],[],[],[],[],[],[]]]
set_option maxRecDepth 100000 in
theorem kT_X12_doesLie : ab_okT M_X12_doesLie := ab_okT_of (P := P_X12_doesLie) 32 (Nat.le_of_ble_eq_true rfl) (fun pc h => ab_chkR_of (lo := 0) (len := 32) (by decide +kernel) pc (Nat.zero_le _) (by omega))
theorem kY_X12_doesLie : ab_okY M_X12_doesLie := ab_okY_of 1503 124 (by decide +kernel)
def M_X12_cellOf : ab_M := (yX12_cellOf, cX12_cellOf, 2, (some .int), 12, 1, [
  [oo (.bipush 10) 2, nn, oo (.aload_n 0) 3, of (.getfield 122) 6 12 51, nn, nn, oo (.bipush 32) 8, nn, oo (.iload_n 1) 9, oo .iadd 10, oo .iaload 11, oo .imul 12, oo (.aload_n 0) 13, of (.getfield 122) 16 12 51, nn, nn],
  [oo (.iload_n 1) 17, oo .iaload 18, oo .iadd 19, oo .ireturn 20, nn, nn, nn, nn, nn, nn, nn, nn, nn, nn, nn, nn]])
def P_X12_cellOf : List (List (List Nat)) := [[[],[],[],[1202],[],[],[],[],[],[],[],[],[],[1202],[],[]], [[],[],[],[],[],[],[],[],[],[],[],[],[],[],[],[]]]
set_option maxRecDepth 100000 in
theorem kT_X12_cellOf : ab_okT M_X12_cellOf := ab_okT_of (P := P_X12_cellOf) 32 (Nat.le_of_ble_eq_true rfl) (fun pc h => ab_chkR_of (lo := 0) (len := 32) (by decide +kernel) pc (Nat.zero_le _) (by omega))
theorem kY_X12_cellOf : ab_okY M_X12_cellOf := ab_okY_of 1523 124 (by decide +kernel)
def M_X12_cellOfPicker : ab_M := (yX12_cellOfPicker, cX12_cellOfPicker, 2, (some .int), 12, 1, [
  [oo (.bipush 10) 2, nn, oo (.aload_n 0) 3, of (.getfield 122) 6 12 51, nn, nn, oo (.sipush 132) 9, nn, nn, oo (.iload_n 1) 10, oo .iadd 11, oo .iaload 12, oo .imul 13, oo (.aload_n 0) 14, of (.getfield 122) 17 12 51, nn],
  [nn, oo (.sipush 128) 20, nn, nn, oo (.iload_n 1) 21, oo .iadd 22, oo .iaload 23, oo .iadd 24, oo .ireturn 25, nn, nn, nn, nn, nn, nn, nn]])
def P_X12_cellOfPicker : List (List (List Nat)) := [[[],[],[],[1202],[],[],[],[],[],[],[],[],[],[],[1202],[]], [[],[],[],[],[],[],[],[],[],[],[],[],[],[],[],[]]]
set_option maxRecDepth 100000 in
theorem kT_X12_cellOfPicker : ab_okT M_X12_cellOfPicker := ab_okT_of (P := P_X12_cellOfPicker) 32 (Nat.le_of_ble_eq_true rfl) (fun pc h => ab_chkR_of (lo := 0) (len := 32) (by decide +kernel) pc (Nat.zero_le _) (by omega))
theorem kY_X12_cellOfPicker : ab_okY M_X12_cellOfPicker := ab_okY_of 1612 124 (by decide +kernel)
def M_X12_lieAt : ab_M := (yX12_lieAt, cX12_lieAt, 4, (some .int), 12, 1, [
  [oo (.iconst 0) 1, oo (.istore_n 2) 2, oo (.iconst 0) 3, oo (.istore_n 3) 4, oo (.iload_n 3) 5, oo (.aload_n 0) 6, of (.getfield 324) 9 12 54, nn, nn, oj (.if_icmp .ge 29) 12 38, nn, nn, oo (.aload_n 0) 13, oo (.iload_n 3) 14, om (.invokevirtual 348) 17 0 yX12_doesLie, nn],
  [nn, oj (.ifCond .eq 15) 20 32, nn, nn, oo (.aload_n 0) 21, oo (.iload_n 3) 22, om (.invokevirtual 351) 25 0 yX12_cellOf, nn, nn, oo (.iload_n 1) 26, oj (.if_icmp .ne 6) 29 32, nn, nn, oo (.iinc 2 1) 32, nn, nn],
  [oo (.iinc 3 1) 35, nn, nn, oj (.goto (-31)) 38 4, nn, nn, oo (.iload_n 2) 39, oo .ireturn 40, nn, nn, nn, nn, nn, nn, nn, nn]])
def P_X12_lieAt : List (List (List Nat)) := [[[],[],[],[],[],[],[1205],[],[],[],[],[],[],[],[1500,1502,67],[]], [[],[],[],[],[],[],[1520,1522,72],[],[],[],[],[],[],[],[],[]], [[],[],[],[],[],[],[],[],[],[],[],[],[],[],[],[]]]
set_option maxRecDepth 100000 in
theorem kT_X12_lieAt : ab_okT M_X12_lieAt := ab_okT_of (P := P_X12_lieAt) 48 (Nat.le_of_ble_eq_true rfl) (fun pc h => ab_chkR_of (lo := 0) (len := 48) (by decide +kernel) pc (Nat.zero_le _) (by omega))
theorem kY_X12_lieAt : ab_okY M_X12_lieAt := ab_okY_of 1527 124 (by decide +kernel)
def M_X12_inHat : ab_M := (yX12_inHat, cX12_inHat, 4, (some .int), 12, 1, [
  [oo (.iconst 0) 1, oo (.istore_n 2) 2, oo (.iconst 0) 3, oo (.istore_n 3) 4, oo (.iload_n 3) 5, oo (.aload_n 0) 6, of (.getfield 324) 9 12 54, nn, nn, oj (.if_icmp .ge 25) 12 34, nn, nn, oo (.aload_n 0) 13, of (.getfield 122) 16 12 51, nn, nn],
  [oo (.bipush 64) 18, nn, oo (.iload_n 3) 19, oo .iadd 20, oo .iaload 21, oo (.iload_n 1) 22, oj (.if_icmp .ne 6) 25 28, nn, nn, oo (.iinc 2 1) 28, nn, nn, oo (.iinc 3 1) 31, nn, nn, oj (.goto (-27)) 34 4],
  [nn, nn, oo (.iload_n 2) 35, oo .ireturn 36, nn, nn, nn, nn, nn, nn, nn, nn, nn, nn, nn, nn]])
def P_X12_inHat : List (List (List Nat)) := [[[],[],[],[],[],[],[1205],[],[],[],[],[],[],[1202],[],[]], [[],[],[],[],[],[],[],[],[],[],[],[],[],[],[],[]], [[],[],[],[],[],[],[],[],[],[],[],[],[],[],[],[]]]
set_option maxRecDepth 100000 in
theorem kT_X12_inHat : ab_okT M_X12_inHat := ab_okT_of (P := P_X12_inHat) 48 (Nat.le_of_ble_eq_true rfl) (fun pc h => ab_chkR_of (lo := 0) (len := 48) (by decide +kernel) pc (Nat.zero_le _) (by omega))
theorem kY_X12_inHat : ab_okY M_X12_inHat := ab_okY_of 1554 124 (by decide +kernel)
def M_X12_lieMany : ab_M := (yX12_lieMany, cX12_lieMany, 3, (some .int), 12, 0, [
  [oo (.iconst 0) 1, oo (.istore_n 1) 2, oo (.iconst 0) 3, oo (.istore_n 2) 4, oo (.iload_n 2) 5, oo (.aload_n 0) 6, of (.getfield 324) 9 12 54, nn, nn, oj (.if_icmp .ge 20) 12 29, nn, nn, oo (.aload_n 0) 13, oo (.iload_n 2) 14, om (.invokevirtual 348) 17 0 yX12_doesLie, nn],
  [nn, oj (.ifCond .eq 6) 20 23, nn, nn, oo (.iinc 1 1) 23, nn, nn, oo (.iinc 2 1) 26, nn, nn, oj (.goto (-22)) 29 4, nn, nn, oo (.iload_n 1) 30, oo .ireturn 31, nn]])
def P_X12_lieMany : List (List (List Nat)) := [[[],[],[],[],[],[],[1205],[],[],[],[],[],[],[],[1500,1502,67],[]], [[],[],[],[],[],[],[],[],[],[],[],[],[],[],[],[]]]
set_option maxRecDepth 100000 in
theorem kT_X12_lieMany : ab_okT M_X12_lieMany := ab_okT_of (P := P_X12_lieMany) 32 (Nat.le_of_ble_eq_true rfl) (fun pc h => ab_chkR_of (lo := 0) (len := 32) (by decide +kernel) pc (Nat.zero_le _) (by omega))
theorem kY_X12_lieMany : ab_okY M_X12_lieMany := ab_okY_of 1744 124 (by decide +kernel)
def M_X12_looks : ab_M := (yX12_looks, cX12_looks, 2, none, 12, 0, [
  [oo (.iconst 0) 1, oo (.istore_n 1) 2, oo (.iload_n 1) 3, oo (.bipush 9) 5, nn, oj (.if_icmp .ge 16) 8 21, nn, nn, oo (.aload_n 0) 9, of (.getfield 113) 12 12 47, nn, nn, oo (.iload_n 1) 13, oo (.iconst 0) 14, oo .iastore 15, oo (.iinc 1 1) 18],
  [nn, nn, oj (.goto (-16)) 21 2, nn, nn, oo (.aload_n 0) 22, of (.getfield 113) 25 12 47, nn, nn, oo (.iconst 3) 26, oo (.aload_n 0) 27, of (.getfield 122) 30 12 51, nn, nn, oo (.sipush 140) 33, nn],
  [nn, oo .iaload 34, oo .iastore 35, oo .return_ 36, nn, nn, nn, nn, nn, nn, nn, nn, nn, nn, nn, nn]])
def P_X12_looks : List (List (List Nat)) := [[[],[],[],[],[],[],[],[],[],[1198],[],[],[],[],[],[]], [[],[],[],[],[],[],[1198],[],[],[],[],[1202],[],[],[],[]], [[],[],[],[],[],[],[],[],[],[],[],[],[],[],[],[]]]
set_option maxRecDepth 100000 in
theorem kT_X12_looks : ab_okT M_X12_looks := ab_okT_of (P := P_X12_looks) 48 (Nat.le_of_ble_eq_true rfl) (fun pc h => ab_chkR_of (lo := 0) (len := 48) (by decide +kernel) pc (Nat.zero_le _) (by omega))
theorem kY_X12_looks : ab_okY M_X12_looks := ab_okY_of 1519 124 (by decide +kernel)
