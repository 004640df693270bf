def M_X11_count : ab_M := (yX11_count, cX11_count, 2, (some .int), 11, 1, [
  [oo (.iload_n 1) 1, oo (.tableswitch 212 0 14 #[75, 83, 91, 99, 107, 115, 123, 135, 140, 148, 156, 164, 172, 202, 207]) 76, nn, nn, nn, nn, nn, nn, nn, nn, nn, nn, nn, nn, nn, nn],
  [nn, nn, nn, nn, nn, nn, nn, nn, nn, nn, nn, nn, nn, nn, nn, nn],
  [nn, nn, nn, nn, nn, nn, nn, nn, nn, nn, nn, nn, nn, nn, nn, nn],
  [nn, nn, nn, nn, nn, nn, nn, nn, nn, nn, nn, nn, nn, nn, nn, nn],
  [nn, nn, nn, nn, nn, nn, nn, nn, nn, nn, nn, nn, oo (.aload_n 0) 77, of (.getfield 26) 80 11 2, nn, nn],
  [of (.getfield 259) 83 5 0, nn, nn, oo .ireturn 84, oo (.aload_n 0) 85, of (.getfield 26) 88 11 2, nn, nn, of (.getfield 291) 91 5 3, nn, nn, oo .ireturn 92, oo (.aload_n 0) 93, of (.getfield 26) 96 11 2, nn, nn],
  [of (.getfield 245) 99 5 1, nn, nn, oo .ireturn 100, oo (.aload_n 0) 101, of (.getfield 26) 104 11 2, nn, nn, of (.getfield 292) 107 5 2, nn, nn, oo .ireturn 108, oo (.aload_n 0) 109, of (.getfield 36) 112 11 4, nn, nn],
  [of (.getfield 192) 115 10 0, nn, nn, oo .ireturn 116, oo (.aload_n 0) 117, of (.getfield 36) 120 11 4, nn, nn, om (.invokevirtual 275) 123 0 yX10_countLying, nn, nn, oo .ireturn 124, oo (.aload_n 0) 125, of (.getfield 36) 128 11 4, nn, nn],
  [oo (.aload_n 0) 129, of (.getfield 82) 132 11 13, nn, nn, om (.invokevirtual 293) 135 0 yX10_countCells, nn, nn, oo .ireturn 136, oo (.aload_n 0) 137, om (.invokevirtual 297) 140 0 yX11_owedToAll, nn, nn, oo .ireturn 141, oo (.aload_n 0) 142, of (.getfield 12) 145 11 0, nn],
  [nn, of (.getfield 94) 148 4 1, nn, nn, oo .ireturn 149, oo (.aload_n 0) 150, of (.getfield 46) 153 11 6, nn, nn, of (.getfield 108) 156 2 0, nn, nn, oo .ireturn 157, oo (.aload_n 0) 158, of (.getfield 78) 161 11 12, nn],
  [nn, of (.getfield 111) 164 7 0, nn, nn, oo .ireturn 165, oo (.aload_n 0) 166, of (.getfield 112) 169 11 8, nn, nn, om (.invokestatic 240) 172 0 yJ6_bitCount_0f7a4, nn, nn, oo .ireturn 173, oo (.aload_n 0) 174, of (.getfield 26) 177 11 2, nn],
  [nn, oo (.aload_n 0) 178, of (.getfield 26) 181 11 2, nn, nn, of (.getfield 185) 184 5 18, nn, nn, oo (.aload_n 0) 185, of (.getfield 36) 188 11 4, nn, nn, of (.getfield 192) 191 10 0, nn, nn, om (.invokestatic 300) 194 0 yX11_rains],
  [nn, nn, oj (.ifCond .eq 7) 197 201, nn, nn, oo (.iconst 1) 198, oj (.goto 4) 201 202, nn, nn, oo (.iconst 0) 202, oo .ireturn 203, oo (.aload_n 0) 204, om (.invokevirtual 304) 207 0 yX11_pickersWithGoal, nn, nn, oo .ireturn 208],
  [oo (.aload_n 0) 209, om (.invokevirtual 307) 212 0 yX11_pickersWithFullHat, nn, nn, oo .ireturn 213, oo (.iconst (-1)) 214, oo .ireturn 215, nn, nn, nn, nn, nn, nn, nn, nn, nn]])
def P_X11_count : List (List (List Nat)) := [[[],[],[],[],[],[],[],[],[],[],[],[],[],[],[],[]], [[],[],[],[],[],[],[],[],[],[],[],[],[],[],[],[]], [[],[],[],[],[],[],[],[],[],[],[],[],[],[],[],[]], [[],[],[],[],[],[],[],[],[],[],[],[],[],[],[],[]], [[],[],[],[],[],[],[],[],[],[],[],[],[],[525],[],[]], [[277],[],[],[],[],[525],[],[],[289],[],[],[],[],[525],[],[]], [[282],[],[],[],[],[525],[],[],[286],[],[],[],[],[527],[],[]], [[380],[],[],[],[],[527],[],[],[1036,1037,1038],[],[],[],[],[527],[],[]], [[],[536],[],[],[1103,1104,1105],[],[],[],[],[1108,1110,34],[],[],[],[],[523],[]], [[],[141],[],[],[],[],[529],[],[],[431],[],[],[],[],[535],[]], [[],[503],[],[],[],[],[531],[],[],[1003,994],[],[],[],[],[525],[]], [[],[],[525],[],[],[331],[],[],[],[527],[],[],[380],[],[],[1112,860]], [[],[],[],[],[],[],[],[],[],[],[],[],[1113,1115,35],[],[],[]], [[],[1117,1119,36],[],[],[],[],[],[],[],[],[],[],[],[],[],[]]]
set_option maxRecDepth 100000 in
theorem kT_X11_count : ab_okT M_X11_count := ab_okT_of (P := P_X11_count) 224 (Nat.le_of_ble_eq_true rfl) (fun pc h => ab_chkR_of (lo := 0) (len := 224) (by decide +kernel) pc (Nat.zero_le _) (by omega))
theorem kY_X11_count : ab_okY M_X11_count := ab_okY_of 1102 105 (by decide +kernel)
def M_X11_owedToAll : ab_M := (yX11_owedToAll, cX11_owedToAll, 3, (some .int), 11, 0, [
  [oo (.iconst 0) 1, oo (.istore_n 1) 2, oo (.iconst 0) 3, oo (.istore_n 2) 4, oo (.iload_n 2) 5, oo (.aload_n 0) 6, of (.getfield 36) 9 11 4, nn, nn, of (.getfield 220) 12 10 2, nn, nn, oj (.if_icmp .ge 28) 15 40, nn, nn, oo (.iload_n 1) 16],
  [oo (.aload_n 0) 17, of (.getfield 57) 20 11 9, nn, nn, oo (.aload_n 0) 21, of (.getfield 26) 24 11 2, nn, nn, oo (.aload_n 0) 25, of (.getfield 36) 28 11 4, nn, nn, oo (.iload_n 2) 29, om (.invokevirtual 160) 32 0 yX9_owed, nn, nn],
  [oo .iadd 33, oo (.istore_n 1) 34, oo (.iinc 2 1) 37, nn, nn, oj (.goto (-33)) 40 4, nn, nn, oo (.iload_n 1) 41, oo .ireturn 42, nn, nn, nn, nn, nn, nn]])
def P_X11_owedToAll : List (List (List Nat)) := [[[],[],[],[],[],[],[527],[],[],[387],[],[],[],[],[],[]], [[],[532],[],[],[],[525],[],[],[],[527],[],[],[],[792,793,794],[],[]], [[],[],[],[],[],[],[],[],[],[],[],[],[],[],[],[]]]
set_option maxRecDepth 100000 in
theorem kT_X11_owedToAll : ab_okT M_X11_owedToAll := ab_okT_of (P := P_X11_owedToAll) 48 (Nat.le_of_ble_eq_true rfl) (fun pc h => ab_chkR_of (lo := 0) (len := 48) (by decide +kernel) pc (Nat.zero_le _) (by omega))
theorem kY_X11_owedToAll : ab_okY M_X11_owedToAll := ab_okY_of 1111 105 (by decide +kernel)
def M_X11_pickersWithGoal : ab_M := (yX11_pickersWithGoal, cX11_pickersWithGoal, 3, (some .int), 11, 0, [
  [oo (.iconst 0) 1, oo (.istore_n 1) 2, oo (.iconst 0) 3, oo (.istore_n 2) 4, oo (.iload_n 2) 5, oo (.aload_n 0) 6, of (.getfield 36) 9 11 4, nn, nn, of (.getfield 220) 12 10 2, nn, nn, oj (.if_icmp .ge 29) 15 41, nn, nn, oo (.aload_n 0) 16],
  [of (.getfield 36) 19 11 4, nn, nn, of (.getfield 148) 22 10 6, nn, nn, oo (.iload_n 2) 23, oo .iaload 24, oo (.bipush (-2)) 26, nn, oj (.if_icmp .eq 9) 29 35, nn, nn, oo (.iload_n 1) 30, oo (.iconst 1) 31, oo (.iload_n 2) 32],
  [oo .ishl 33, oo .ior 34, oo (.istore_n 1) 35, oo (.iinc 2 1) 38, nn, nn, oj (.goto (-34)) 41 4, nn, nn, oo (.iload_n 1) 42, oo .ireturn 43, nn, nn, nn, nn, nn]])
def P_X11_pickersWithGoal : List (List (List Nat)) := [[[],[],[],[],[],[],[527],[],[],[387],[],[],[],[],[],[]], [[527],[],[],[400],[],[],[],[],[],[],[],[],[],[],[],[]], [[],[],[],[],[],[],[],[],[],[],[],[],[],[],[],[]]]
set_option maxRecDepth 100000 in
theorem kT_X11_pickersWithGoal : ab_okT M_X11_pickersWithGoal := ab_okT_of (P := P_X11_pickersWithGoal) 48 (Nat.le_of_ble_eq_true rfl) (fun pc h => ab_chkR_of (lo := 0) (len := 48) (by decide +kernel) pc (Nat.zero_le _) (by omega))
theorem kY_X11_pickersWithGoal : ab_okY M_X11_pickersWithGoal := ab_okY_of 1116 105 (by decide +kernel)
def M_X11_pickersWithFullHat : ab_M := (yX11_pickersWithFullHat, cX11_pickersWithFullHat, 3, (some .int), 11, 0, [
  [oo (.iconst 0) 1, oo (.istore_n 1) 2, oo (.iconst 0) 3, oo (.istore_n 2) 4, oo (.iload_n 2) 5, oo (.aload_n 0) 6, of (.getfield 36) 9 11 4, nn, nn, of (.getfield 220) 12 10 2, nn, nn, oj (.if_icmp .ge 36) 15 48, nn, nn, oo (.aload_n 0) 16],
  [of (.getfield 36) 19 11 4, nn, nn, of (.getfield 157) 22 10 7, nn, nn, oo (.iload_n 2) 23, oo .iaload 24, oo (.aload_n 0) 25, of (.getfield 26) 28 11 2, nn, nn, of (.getfield 154) 31 5 11, nn, nn, oo (.iload_n 2) 32],
  [oo .iaload 33, oj (.if_icmp .lt 9) 36 42, nn, nn, oo (.iload_n 1) 37, oo (.iconst 1) 38, oo (.iload_n 2) 39, oo .ishl 40, oo .ior 41, oo (.istore_n 1) 42, oo (.iinc 2 1) 45, nn, nn, oj (.goto (-41)) 48 4, nn, nn],
  [oo (.iload_n 1) 49, oo .ireturn 50, nn, nn, nn, nn, nn, nn, nn, nn, nn, nn, nn, nn, nn, nn]])
def P_X11_pickersWithFullHat : List (List (List Nat)) := [[[],[],[],[],[],[],[527],[],[],[387],[],[],[],[],[],[]], [[527],[],[],[404],[],[],[],[],[],[525],[],[],[312],[],[],[]], [[],[],[],[],[],[],[],[],[],[],[],[],[],[],[],[]], [[],[],[],[],[],[],[],[],[],[],[],[],[],[],[],[]]]
set_option maxRecDepth 100000 in
theorem kT_X11_pickersWithFullHat : ab_okT M_X11_pickersWithFullHat := ab_okT_of (P := P_X11_pickersWithFullHat) 64 (Nat.le_of_ble_eq_true rfl) (fun pc h => ab_chkR_of (lo := 0) (len := 64) (by decide +kernel) pc (Nat.zero_le _) (by omega))
theorem kY_X11_pickersWithFullHat : ab_okY M_X11_pickersWithFullHat := ab_okY_of 1120 105 (by decide +kernel)
def M_X11_isPiece : ab_M := (yX11_isPiece, cX11_isPiece, 2, (some .boolean), 11, 1, [
  [oo (.iload_n 1) 1, oj (.ifCond .lt 18) 4 19, nn, nn, oo (.iload_n 1) 5, oo (.aload_n 0) 6, of (.getfield 36) 9 11 4, nn, nn, of (.getfield 178) 12 10 1, nn, nn, oj (.if_icmp .ge 7) 15 19, nn, nn, oo (.iconst 1) 16],
  [oj (.goto 4) 19 20, nn, nn, oo (.iconst 0) 20, oo .ireturn 21, nn, nn, nn, nn, nn, nn, nn, nn, nn, nn, nn]])
def P_X11_isPiece : List (List (List Nat)) := [[[],[],[],[],[],[],[527],[],[],[384],[],[],[],[],[],[]], [[],[],[],[],[],[],[],[],[],[],[],[],[],[],[],[]]]
set_option maxRecDepth 100000 in
theorem kT_X11_isPiece : ab_okT M_X11_isPiece := ab_okT_of (P := P_X11_isPiece) 32 (Nat.le_of_ble_eq_true rfl) (fun pc h => ab_chkR_of (lo := 0) (len := 32) (by decide +kernel) pc (Nat.zero_le _) (by omega))
theorem kY_X11_isPiece : ab_okY M_X11_isPiece := ab_okY_of 737 105 (by decide +kernel)
def M_X11_isPicker : ab_M := (yX11_isPicker, cX11_isPicker, 2, (some .boolean), 11, 1, [
  [oo (.iload_n 1) 1, oj (.ifCond .lt 18) 4 19, nn, nn, oo (.iload_n 1) 5, oo (.aload_n 0) 6, of (.getfield 36) 9 11 4, nn, nn, of (.getfield 220) 12 10 2, nn, nn, oj (.if_icmp .ge 7) 15 19, nn, nn, oo (.iconst 1) 16],
  [oj (.goto 4) 19 20, nn, nn, oo (.iconst 0) 20, oo .ireturn 21, nn, nn, nn, nn, nn, nn, nn, nn, nn, nn, nn]])
def P_X11_isPicker : List (List (List Nat)) := [[[],[],[],[],[],[],[527],[],[],[387],[],[],[],[],[],[]], [[],[],[],[],[],[],[],[],[],[],[],[],[],[],[],[]]]
set_option maxRecDepth 100000 in
theorem kT_X11_isPicker : ab_okT M_X11_isPicker := ab_okT_of (P := P_X11_isPicker) 32 (Nat.le_of_ble_eq_true rfl) (fun pc h => ab_chkR_of (lo := 0) (len := 32) (by decide +kernel) pc (Nat.zero_le _) (by omega))
theorem kY_X11_isPicker : ab_okY M_X11_isPicker := ab_okY_of 791 105 (by decide +kernel)
def M_X11_isHeap : ab_M := (yX11_isHeap, cX11_isHeap, 2, (some .boolean), 11, 1, [
  [oo (.aload_n 0) 1, oo (.iload_n 1) 2, om (.invokevirtual 145) 5 0 yX11_isPicker, nn, nn, oj (.ifCond .ne 14) 8 19, nn, nn, oo (.iload_n 1) 9, oo (.iconst 4) 10, oj (.if_icmp .lt 13) 13 23, nn, nn, oo (.iload_n 1) 14, oo (.bipush 6) 16, nn],
  [oj (.if_icmp .ge 7) 19 23, nn, nn, oo (.iconst 1) 20, oj (.goto 4) 23 24, nn, nn, oo (.iconst 0) 24, oo .ireturn 25, nn, nn, nn, nn, nn, nn, nn]])
def P_X11_isHeap : List (List (List Nat)) := [[[],[],[788,790,26],[],[],[],[],[],[],[],[],[],[],[],[],[]], [[],[],[],[],[],[],[],[],[],[],[],[],[],[],[],[]]]
set_option maxRecDepth 100000 in
theorem kT_X11_isHeap : ab_okT M_X11_isHeap := ab_okT_of (P := P_X11_isHeap) 32 (Nat.le_of_ble_eq_true rfl) (fun pc h => ab_chkR_of (lo := 0) (len := 32) (by decide +kernel) pc (Nat.zero_le _) (by omega))
theorem kY_X11_isHeap : ab_okY M_X11_isHeap := ab_okY_of 959 105 (by decide +kernel)
def M_X11_isCell : ab_M := (yX11_isCell, cX11_isCell, 2, (some .boolean), 11, 2, [
  [oo (.iload_n 0) 1, oj (.ifCond .lt 23) 4 24, nn, nn, oo (.iload_n 0) 5, oo (.bipush 10) 7, nn, oj (.if_icmp .ge 17) 10 24, nn, nn, oo (.iload_n 1) 11, oj (.ifCond .lt 13) 14 24, nn, nn, oo (.iload_n 1) 15, oo (.bipush 8) 17],
  [nn, oj (.if_icmp .ge 7) 20 24, nn, nn, oo (.iconst 1) 21, oj (.goto 4) 24 25, nn, nn, oo (.iconst 0) 25, oo .ireturn 26, nn, nn, nn, nn, nn, nn]])
def P_X11_isCell : List (List (List Nat)) := [[[],[],[],[],[],[],[],[],[],[],[],[],[],[],[],[]], [[],[],[],[],[],[],[],[],[],[],[],[],[],[],[],[]]]
set_option maxRecDepth 100000 in
theorem kT_X11_isCell : ab_okT M_X11_isCell := ab_okT_of (P := P_X11_isCell) 32 (Nat.le_of_ble_eq_true rfl) (fun pc h => ab_chkR_of (lo := 0) (len := 32) (by decide +kernel) pc (Nat.zero_le _) (by omega))
theorem kY_X11_isCell : ab_okY M_X11_isCell := ab_okY_of 809 105 (by decide +kernel)
def M_X11_apart : ab_M := (yX11_apart, cX11_apart, 2, (some .int), 11, 2, [
  [oo (.iload_n 0) 1, oo (.bipush 10) 3, nn, oo .irem 4, oo (.iload_n 1) 5, oo (.bipush 10) 7, nn, oo .irem 8, oo .isub 9, om (.invokestatic 310) 12 0 yJ9_abs_0f7a4, nn, nn, oo (.iload_n 0) 13, oo (.bipush 10) 15, nn, oo .idiv 16],
  [oo (.iload_n 1) 17, oo (.bipush 10) 19, nn, oo .idiv 20, oo .isub 21, om (.invokestatic 310) 24 0 yJ9_abs_0f7a4, nn, nn, oo .iadd 25, oo .ireturn 26, nn, nn, nn, nn, nn, nn]])
def P_X11_apart : List (List (List Nat)) := [[[],[],[],[],[],[],[],[],[],[898,899],[],[],[],[],[],[]], [[],[],[],[],[],[898,899],[],[],[],[],[],[],[],[],[],[]]]
set_option maxRecDepth 100000 in
theorem kT_X11_apart : ab_okT M_X11_apart := ab_okT_of (P := P_X11_apart) 32 (Nat.le_of_ble_eq_true rfl) (fun pc h => ab_chkR_of (lo := 0) (len := 32) (by decide +kernel) pc (Nat.zero_le _) (by omega))
theorem kY_X11_apart : ab_okY M_X11_apart := ab_okY_of 897 105 (by decide +kernel)
def M_X11_held : ab_M := (yX11_held, cX11_held, 2, (some .int), 11, 2, [
  [oo (.iconst 0) 1, oo (.iload_n 1) 2, oo (.iload_n 0) 3, om (.invokestatic 270) 6 0 yJ9_min_7cf53, nn, nn, om (.invokestatic 313) 9 0 yJ9_max_7cf53, nn, nn, oo .ireturn 10, nn, nn, nn, nn, nn, nn]])
def P_X11_held : List (List (List Nat)) := [[[],[],[],[780,515],[],[],[781,782],[],[],[],[],[],[],[],[],[]]]
set_option maxRecDepth 100000 in
theorem kT_X11_held : ab_okT M_X11_held := ab_okT_of (P := P_X11_held) 16 (Nat.le_of_ble_eq_true rfl) (fun pc h => ab_chkR_of (lo := 0) (len := 16) (by decide +kernel) pc (Nat.zero_le _) (by omega))
theorem kY_X11_held : ab_okY M_X11_held := ab_okY_of 779 105 (by decide +kernel)
def M_X11_money : ab_M := (yX11_money, cX11_money, 1, (some .int), 11, 1, [
  [oo (.iload_n 0) 1, oo (.bipush 99) 3, nn, om (.invokestatic 316) 6 0 yX11_held, nn, nn, oo .ireturn 7, nn, nn, nn, nn, nn, nn, nn, nn, nn]])
def P_X11_money : List (List (List Nat)) := [[[],[],[],[777,778],[],[],[],[],[],[],[],[],[],[],[],[]]]
set_option maxRecDepth 100000 in
theorem kT_X11_money : ab_okT M_X11_money := ab_okT_of (P := P_X11_money) 16 (Nat.le_of_ble_eq_true rfl) (fun pc h => ab_chkR_of (lo := 0) (len := 16) (by decide +kernel) pc (Nat.zero_le _) (by omega))
theorem kY_X11_money : ab_okY M_X11_money := ab_okY_of 776 105 (by decide +kernel)
def M_X11_rains : ab_M := (yX11_rains, cX11_rains, 3, (some .boolean), 11, 3, [
  [oo (.bipush 100) 2, nn, oo (.iload_n 1) 3, oo (.iconst 4) 4, oo (.iload_n 2) 5, oo .imul 6, om (.invokestatic 319) 9 0 yX11_lot, nn, nn, oo (.aload_n 0) 10, of (.getfield 278) 13 5 17, nn, nn, oj (.if_icmp .ge 7) 16 20, nn, nn],
  [oo (.iconst 1) 17, oj (.goto 4) 20 21, nn, nn, oo (.iconst 0) 21, oo .ireturn 22, nn, nn, nn, nn, nn, nn, nn, nn, nn, nn]])
def P_X11_rains : List (List (List Nat)) := [[[],[],[],[],[],[],[862,863],[],[],[],[328],[],[],[],[],[]], [[],[],[],[],[],[],[],[],[],[],[],[],[],[],[],[]]]
set_option maxRecDepth 100000 in
theorem kT_X11_rains : ab_okT M_X11_rains := ab_okT_of (P := P_X11_rains) 32 (Nat.le_of_ble_eq_true rfl) (fun pc h => ab_chkR_of (lo := 0) (len := 32) (by decide +kernel) pc (Nat.zero_le _) (by omega))
theorem kY_X11_rains : ab_okY M_X11_rains := ab_okY_of 861 105 (by decide +kernel)
def M_X11_lot : ab_M := (yX11_lot, cX11_lot, 4, (some .int), 11, 3, [
  [oo (.iload_n 1) 1, oo (.sipush 145) 4, nn, nn, om (.invokestatic 323) 7 0 yX11_stirred, nn, nn, oo (.iload_n 2) 8, om (.invokestatic 323) 11 0 yX11_stirred, nn, nn, oo (.istore_n 3) 12, oo (.iload_n 0) 13, oj (.ifCond .le 11) 16 24, nn, nn],
  [oo (.iload_n 3) 17, oo (.iconst 1) 18, oo .iushr 19, oo (.iload_n 0) 20, oo .irem 21, oj (.goto 4) 24 25, nn, nn, oo (.iconst 0) 25, oo .ireturn 26, nn, nn, nn, nn, nn, nn]])
def P_X11_lot : List (List (List Nat)) := [[[],[],[],[],[865,866],[],[],[],[865,866],[],[],[],[],[],[],[]], [[],[],[],[],[],[],[],[],[],[],[],[],[],[],[],[]]]
set_option maxRecDepth 100000 in
theorem kT_X11_lot : ab_okT M_X11_lot := ab_okT_of (P := P_X11_lot) 32 (Nat.le_of_ble_eq_true rfl) (fun pc h => ab_chkR_of (lo := 0) (len := 32) (by decide +kernel) pc (Nat.zero_le _) (by omega))
theorem kY_X11_lot : ab_okY M_X11_lot := ab_okY_of 864 105 (by decide +kernel)
def M_X11_stirred : ab_M := (yX11_stirred, cX11_stirred, 3, (some .int), 11, 2, [
  [oo (.iload_n 0) 1, oo (.iload_n 1) 2, oo .ixor 3, oc (.ldc_w 326) 6 (.int (1103515245)), nn, nn, oo .imul 7, oo (.sipush 12345) 10, nn, nn, oo .iadd 11, oo (.istore_n 2) 12, oo (.iload_n 2) 13, oo (.iload_n 2) 14, oo (.bipush 15) 16, nn],
  [oo .iushr 17, oo .ixor 18, oo .ireturn 19, nn, nn, nn, nn, nn, nn, nn, nn, nn, nn, nn, nn, nn]])
def P_X11_stirred : List (List (List Nat)) := [[[],[],[],[868],[],[],[],[],[],[],[],[],[],[],[],[]], [[],[],[],[],[],[],[],[],[],[],[],[],[],[],[],[]]]
set_option maxRecDepth 100000 in
theorem kT_X11_stirred : ab_okT M_X11_stirred := ab_okT_of (P := P_X11_stirred) 32 (Nat.le_of_ble_eq_true rfl) (fun pc h => ab_chkR_of (lo := 0) (len := 32) (by decide +kernel) pc (Nat.zero_le _) (by omega))
theorem kY_X11_stirred : ab_okY M_X11_stirred := ab_okY_of 867 105 (by decide +kernel)
def M_X11_signAt : ab_M := (yX11_signAt, cX11_signAt, 3, (some .int), 11, 2, [
  [oo (.iload_n 2) 1, oj (.ifCond .lt 9) 4 10, nn, nn, oo (.iload_n 2) 5, oo (.bipush 8) 7, nn, oj (.if_icmp .lt 7) 10 14, nn, nn, oo (.iconst 0) 11, oj (.goto 12) 14 23, nn, nn, oo (.lload_n 0) 15, oo (.iconst 5) 16],
  [oo (.iload_n 2) 17, oo .imul 18, oo .lushr 19, oo .l2i 20, oo (.bipush 31) 22, nn, oo .iand 23, oo .ireturn 24, nn, nn, nn, nn, nn, nn, nn, nn]])
def P_X11_signAt : List (List (List Nat)) := [[[],[],[],[],[],[],[],[],[],[],[],[],[],[],[],[]], [[],[],[],[],[],[],[],[],[],[],[],[],[],[],[],[]]]
set_option maxRecDepth 100000 in
theorem kT_X11_signAt : ab_okT M_X11_signAt := ab_okT_of (P := P_X11_signAt) 32 (Nat.le_of_ble_eq_true rfl) (fun pc h => ab_chkR_of (lo := 0) (len := 32) (by decide +kernel) pc (Nat.zero_le _) (by omega))
theorem kY_X11_signAt : ab_okY M_X11_signAt := ab_okY_of 692 105 (by decide +kernel)
def M_X11_withSign : ab_M := (yX11_withSign, cX11_withSign, 4, (some .long), 11, 3, [
  [oo (.iload_n 2) 1, oj (.ifCond .lt 9) 4 10, nn, nn, oo (.iload_n 2) 5, oo (.bipush 8) 7, nn, oj (.if_icmp .lt 7) 10 14, nn, nn, oo (.lload_n 0) 11, oj (.goto 11) 14 22, nn, nn, oo (.lload_n 0) 15, oo (.iload_n 3) 16],
  [oo .i2l 17, oo (.iconst 5) 18, oo (.iload_n 2) 19, oo .imul 20, oo .lshl 21, oo .lor 22, oo .lreturn 23, nn, nn, nn, nn, nn, nn, nn, nn, nn]])
def P_X11_withSign : List (List (List Nat)) := [[[],[],[],[],[],[],[],[],[],[],[],[],[],[],[],[]], [[],[],[],[],[],[],[],[],[],[],[],[],[],[],[],[]]]
set_option maxRecDepth 100000 in
theorem kT_X11_withSign : ab_okT M_X11_withSign := ab_okT_of (P := P_X11_withSign) 32 (Nat.le_of_ble_eq_true rfl) (fun pc h => ab_chkR_of (lo := 0) (len := 32) (by decide +kernel) pc (Nat.zero_le _) (by omega))
theorem kY_X11_withSign : ab_okY M_X11_withSign := ab_okY_of 213 105 (by decide +kernel)
def M_X11_nameLength : ab_M := (yX11_nameLength, cX11_nameLength, 3, (some .int), 11, 1, [
  [oo (.iconst 0) 1, oo (.istore_n 2) 2, oo (.iload_n 2) 3, oo (.bipush 8) 5, nn, oj (.if_icmp .ge 17) 8 22, nn, nn, oo (.lload_n 0) 9, oo (.iload_n 2) 10, om (.invokestatic 327) 13 0 yX11_signAt, nn, nn, oj (.ifCond .eq 9) 16 22, nn, nn],
  [oo (.iinc 2 1) 19, nn, nn, oj (.goto (-17)) 22 2, nn, nn, oo (.iload_n 2) 23, oo .ireturn 24, nn, nn, nn, nn, nn, nn, nn, nn]])
def P_X11_nameLength : List (List (List Nat)) := [[[],[],[],[],[],[],[],[],[],[],[690,691],[],[],[],[],[]], [[],[],[],[],[],[],[],[],[],[],[],[],[],[],[],[]]]
set_option maxRecDepth 100000 in
theorem kT_X11_nameLength : ab_okT M_X11_nameLength := ab_okT_of (P := P_X11_nameLength) 32 (Nat.le_of_ble_eq_true rfl) (fun pc h => ab_chkR_of (lo := 0) (len := 32) (by decide +kernel) pc (Nat.zero_le _) (by omega))
theorem kY_X11_nameLength : ab_okY M_X11_nameLength := ab_okY_of 689 105 (by decide +kernel)
