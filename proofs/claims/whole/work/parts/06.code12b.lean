def M_X12_cut : ab_M := (yX12_cut, cX12_cut, 8, none, 12, 0, [
  [oo (.aload_n 0) 1, oo (.iconst 0) 2, of (.putfield 187) 5 12 10, nn, nn, oo (.iconst 0) 6, oo (.istore_n 1) 7, oo (.aload_n 0) 8, of (.getfield 187) 11 12 10, nn, nn, oo (.sipush 400) 14, nn, nn, oj (.if_icmp .gt 280) 17 294, nn],
  [nn, oo (.aload_n 0) 18, oo (.iload_n 1) 19, om (.invokevirtual 190) 22 0 yX12_byteAt, nn, nn, oo (.istore_n 2) 23, oo (.iload_n 1) 24, oo (.aload_n 0) 25, of (.getfield 178) 28 12 4, nn, nn, oj (.if_icmp .lt 15) 31 43, nn, nn, oo (.aload_n 0) 32],
  [oo (.iconst 0) 33, oo (.aload_n 0) 34, of (.getfield 178) 37 12 4, nn, nn, oo (.iconst 0) 38, oo (.lconst 0) 39, om (.invokevirtual 194) 42 0 yX12_token, nn, nn, oo .return_ 43, oo (.iload_n 2) 44, oo (.bipush 9) 46, nn, oj (.if_icmp .eq 21) 49 67, nn],
  [nn, oo (.iload_n 2) 50, oo (.bipush 10) 52, nn, oj (.if_icmp .eq 15) 55 67, nn, nn, oo (.iload_n 2) 56, oo (.bipush 13) 58, nn, oj (.if_icmp .eq 9) 61 67, nn, nn, oo (.iload_n 2) 62, oo (.bipush 32) 64, nn],
  [oj (.if_icmp .ne 9) 67 73, nn, nn, oo (.iinc 1 1) 70, nn, nn, oj (.goto 221) 73 291, nn, nn, oo (.iload_n 2) 74, om (.invokestatic 198) 77 0 yX12_isLetter, nn, nn, oj (.ifCond .eq 119) 80 196, nn, nn],
  [oo (.iconst 0) 81, oo (.istore_n 3) 82, oo (.lconst 0) 83, oo (.lstore 4) 85, nn, oo (.aload_n 0) 86, oo (.iload_n 1) 87, oo (.iload_n 3) 88, oo .iadd 89, om (.invokevirtual 190) 92 0 yX12_byteAt, nn, nn, om (.invokestatic 198) 95 0 yX12_isLetter, nn, nn, oj (.ifCond .eq 29) 98 124],
  [nn, nn, oo (.iload_n 3) 99, oo (.bipush 8) 101, nn, oj (.if_icmp .ge 17) 104 118, nn, nn, oo (.lload 4) 106, nn, oo (.aload_n 0) 107, oo (.iload_n 1) 108, oo (.iload_n 3) 109, oo .iadd 110, om (.invokevirtual 190) 113 0 yX12_byteAt, nn],
  [nn, om (.invokestatic 183) 116 0 yX12_appends, nn, nn, oo (.lstore 4) 118, nn, oo (.iinc 3 1) 121, nn, nn, oj (.goto (-36)) 124 85, nn, nn, oo (.iload_n 3) 125, oo (.bipush 8) 127, nn, oj (.if_icmp .le 7) 130 134],
  [nn, nn, oo (.iconst 3) 131, oj (.goto 4) 134 135, nn, nn, oo (.iconst 1) 135, oo (.istore 6) 137, nn, oo (.iload_n 3) 138, oo (.bipush 8) 140, nn, oj (.if_icmp .gt 39) 143 179, nn, nn, oo (.iconst 0) 144],
  [oo (.istore 7) 146, nn, oo (.iload 7) 148, nn, oo (.bipush 21) 150, nn, oj (.if_icmp .ge 29) 153 179, nn, nn, oo (.aload_n 0) 154, of (.getfield 34) 157 12 9, nn, nn, oo (.iload 7) 159, nn, oo .laload 160],
  [oo (.lload 4) 162, nn, oo .lcmp 163, oj (.ifCond .ne 10) 166 173, nn, nn, oo (.bipush 20) 168, nn, oo (.iload 7) 170, nn, oo .iadd 171, oo (.istore 6) 173, nn, oo (.iinc 7 1) 176, nn, nn],
  [oj (.goto (-30)) 179 146, nn, nn, oo (.aload_n 0) 180, oo (.iload 6) 182, nn, oo (.iload_n 1) 183, oo (.iconst 0) 184, oo (.lload 4) 186, nn, om (.invokevirtual 194) 189 0 yX12_token, nn, nn, oo (.iload_n 1) 190, oo (.iload_n 3) 191, oo .iadd 192],
  [oo (.istore_n 1) 193, oj (.goto 98) 196 291, nn, nn, oo (.iload_n 2) 197, om (.invokestatic 202) 200 0 yX12_isDigit, nn, nn, oj (.ifCond .eq 75) 203 275, nn, nn, oo (.iconst 0) 204, oo (.istore_n 3) 205, oo (.iconst 0) 206, oo (.istore 4) 208, nn],
  [oo (.aload_n 0) 209, oo (.iload_n 1) 210, oo (.iload_n 3) 211, oo .iadd 212, om (.invokevirtual 190) 215 0 yX12_byteAt, nn, nn, om (.invokestatic 202) 218 0 yX12_isDigit, nn, nn, oj (.ifCond .eq 32) 221 250, nn, nn, oo (.iload_n 3) 222, oo (.iconst 4) 223, oj (.if_icmp .ge 21) 226 244],
  [nn, nn, oo (.bipush 10) 228, nn, oo (.iload 4) 230, nn, oo .imul 231, oo (.aload_n 0) 232, oo (.iload_n 1) 233, oo (.iload_n 3) 234, oo .iadd 235, om (.invokevirtual 190) 238 0 yX12_byteAt, nn, nn, oo .iadd 239, oo (.bipush 48) 241],
  [nn, oo .isub 242, oo (.istore 4) 244, nn, oo (.iinc 3 1) 247, nn, nn, oj (.goto (-39)) 250 208, nn, nn, oo (.aload_n 0) 251, oo (.iload_n 3) 252, oo (.iconst 4) 253, oj (.if_icmp .le 7) 256 260, nn, nn],
  [oo (.iconst 3) 257, oj (.goto 4) 260 261, nn, nn, oo (.iconst 2) 261, oo (.iload_n 1) 262, oo (.iload 4) 264, nn, oo (.lconst 0) 265, om (.invokevirtual 194) 268 0 yX12_token, nn, nn, oo (.iload_n 1) 269, oo (.iload_n 3) 270, oo .iadd 271, oo (.istore_n 1) 272],
  [oj (.goto 19) 275 291, nn, nn, oo (.iload_n 1) 276, oo (.aload_n 0) 277, oo (.iload_n 1) 278, oo (.iload_n 2) 279, oo (.aload_n 0) 280, oo (.iload_n 1) 281, oo (.iconst 1) 282, oo .iadd 283, om (.invokevirtual 190) 286 0 yX12_byteAt, nn, nn, om (.invokevirtual 205) 289 0 yX12_sign, nn],
  [nn, oo .iadd 290, oo (.istore_n 1) 291, oj (.goto (-284)) 294 7, nn, nn, oo .return_ 295, nn, nn, nn, nn, nn, nn, nn, nn, nn]])
def P_X12_cut : List (List (List Nat)) := [[[],[],[1161],[],[],[],[],[],[1161],[],[],[],[],[],[],[]], [[],[],[],[1383,1385,42],[],[],[],[],[],[1155],[],[],[],[],[],[]], [[],[],[1155],[],[],[],[],[1387,1389,43],[],[],[],[],[],[],[],[]], [[],[],[],[],[],[],[],[],[],[],[],[],[],[],[],[]], [[],[],[],[],[],[],[],[],[],[],[1391,1392],[],[],[],[],[]], [[],[],[],[],[],[],[],[],[],[1383,1385,42],[],[],[1391,1392],[],[],[]], [[],[],[],[],[],[],[],[],[],[],[],[],[],[],[1383,1385,42],[]], [[],[1134,1135],[],[],[],[],[],[],[],[],[],[],[],[],[],[]], [[],[],[],[],[],[],[],[],[],[],[],[],[],[],[],[]], [[],[],[],[],[],[],[],[],[],[],[1160],[],[],[],[],[]], [[],[],[],[],[],[],[],[],[],[],[],[],[],[],[],[]], [[],[],[],[],[],[],[],[],[],[],[1387,1389,43],[],[],[],[],[]], [[],[],[],[],[],[1394,1395],[],[],[],[],[],[],[],[],[],[]], [[],[],[],[],[1383,1385,42],[],[],[1394,1395],[],[],[],[],[],[],[],[]], [[],[],[],[],[],[],[],[],[],[],[],[1383,1385,42],[],[],[],[]], [[],[],[],[],[],[],[],[],[],[],[],[],[],[],[],[]], [[],[],[],[],[],[],[],[],[],[1387,1389,43],[],[],[],[],[],[]], [[],[],[],[],[],[],[],[],[],[],[],[1383,1385,42],[],[],[1397,1399,44],[]], [[],[],[],[],[],[],[],[],[],[],[],[],[],[],[],[]]]
set_option maxRecDepth 100000 in
theorem kT_X12_cut : ab_okT M_X12_cut := ab_okT_of (P := P_X12_cut) 304 (Nat.le_of_ble_eq_true rfl) (fun pc h => ab_chkR_of (lo := 0) (len := 304) (by decide +kernel) pc (Nat.zero_le _) (by omega))
theorem kY_X12_cut : ab_okY M_X12_cut := ab_okY_of 1382 124 (by decide +kernel)
def M_X12_sign : ab_M := (yX12_sign, cX12_sign, 5, (some .int), 12, 3, [
  [oo (.iload_n 2) 1, oo (.bipush 59) 3, nn, oj (.if_icmp .ne 7) 6 10, nn, nn, oo (.iconst 4) 7, oj (.goto 36) 10 43, nn, nn, oo (.iload_n 2) 11, oo (.bipush 61) 13, nn, oj (.if_icmp .ne 7) 16 20, nn, nn],
  [oo (.iconst 5) 17, oj (.goto 26) 20 43, nn, nn, oo (.iload_n 2) 21, oo (.bipush 40) 23, nn, oj (.if_icmp .ne 8) 26 31, nn, nn, oo (.bipush 6) 28, nn, oj (.goto 15) 31 43, nn, nn, oo (.iload_n 2) 32],
  [oo (.bipush 41) 34, nn, oj (.if_icmp .ne 8) 37 42, nn, nn, oo (.bipush 7) 39, nn, oj (.goto 4) 42 43, nn, nn, oo (.iconst 3) 43, oo (.istore 4) 45, nn, oo (.iload_n 2) 46, oo (.bipush 43) 48, nn],
  [oj (.if_icmp .ne 7) 51 55, nn, nn, oo (.bipush 8) 53, nn, oo (.istore 4) 55, nn, oo (.iload_n 2) 56, oo (.bipush 45) 58, nn, oj (.if_icmp .ne 7) 61 65, nn, nn, oo (.bipush 9) 63, nn, oo (.istore 4) 65],
  [nn, oo (.iload_n 2) 66, oo (.bipush 42) 68, nn, oj (.if_icmp .ne 7) 71 75, nn, nn, oo (.bipush 10) 73, nn, oo (.istore 4) 75, nn, oo (.iload_n 2) 76, oo (.bipush 47) 78, nn, oj (.if_icmp .ne 7) 81 85, nn],
  [nn, oo (.bipush 15) 83, nn, oo (.istore 4) 85, nn, oo (.iload_n 2) 86, oo (.bipush 60) 88, nn, oj (.if_icmp .ne 7) 91 95, nn, nn, oo (.bipush 13) 93, nn, oo (.istore 4) 95, nn, oo (.aload_n 0) 96],
  [oo (.iload 4) 98, nn, oo (.iload_n 1) 99, oo (.iconst 0) 100, oo (.lconst 0) 101, om (.invokevirtual 194) 104 0 yX12_token, nn, nn, oo (.iconst 1) 105, oo .ireturn 106, nn, nn, nn, nn, nn, nn]])
def P_X12_sign : List (List (List Nat)) := [[[],[],[],[],[],[],[],[],[],[],[],[],[],[],[],[]], [[],[],[],[],[],[],[],[],[],[],[],[],[],[],[],[]], [[],[],[],[],[],[],[],[],[],[],[],[],[],[],[],[]], [[],[],[],[],[],[],[],[],[],[],[],[],[],[],[],[]], [[],[],[],[],[],[],[],[],[],[],[],[],[],[],[],[]], [[],[],[],[],[],[],[],[],[],[],[],[],[],[],[],[]], [[],[],[],[],[],[1387,1389,43],[],[],[],[],[],[],[],[],[],[]]]
set_option maxRecDepth 100000 in
theorem kT_X12_sign : ab_okT M_X12_sign := ab_okT_of (P := P_X12_sign) 112 (Nat.le_of_ble_eq_true rfl) (fun pc h => ab_chkR_of (lo := 0) (len := 112) (by decide +kernel) pc (Nat.zero_le _) (by omega))
theorem kY_X12_sign : ab_okY M_X12_sign := ab_okY_of 1400 124 (by decide +kernel)
def M_X12_is : ab_M := (yX12_is, cX12_is, 2, (some .boolean), 12, 1, [
  [oo (.aload_n 0) 1, of (.getfield 209) 4 12 13, nn, nn, oj (.ifCond .ne 20) 7 24, nn, nn, oo (.aload_n 0) 8, of (.getfield 20) 11 12 5, nn, nn, oo (.aload_n 0) 12, of (.getfield 212) 15 12 11, nn, nn, oo .iaload 16],
  [oo (.iload_n 1) 17, oj (.if_icmp .ne 7) 20 24, nn, nn, oo (.iconst 1) 21, oj (.goto 4) 24 25, nn, nn, oo (.iconst 0) 25, oo .ireturn 26, nn, nn, nn, nn, nn, nn]])
def P_X12_is : List (List (List Nat)) := [[[],[1164],[],[],[],[],[],[],[1156],[],[],[],[1162],[],[],[]], [[],[],[],[],[],[],[],[],[],[],[],[],[],[],[],[]]]
set_option maxRecDepth 100000 in
theorem kT_X12_is : ab_okT M_X12_is := ab_okT_of (P := P_X12_is) 32 (Nat.le_of_ble_eq_true rfl) (fun pc h => ab_chkR_of (lo := 0) (len := 32) (by decide +kernel) pc (Nat.zero_le _) (by omega))
theorem kY_X12_is : ab_okY M_X12_is := ab_okY_of 1404 124 (by decide +kernel)
def M_X12_fail : ab_M := (yX12_fail, cX12_fail, 2, none, 12, 1, [
  [oo (.aload_n 0) 1, of (.getfield 209) 4 12 13, nn, nn, oj (.ifCond .le 4) 7 8, nn, nn, oo .return_ 8, oo (.aload_n 0) 9, oo (.iload_n 1) 10, of (.putfield 209) 13 12 13, nn, nn, oo (.aload_n 0) 14, oo (.aload_n 0) 15, of (.getfield 24) 18 12 6],
  [nn, nn, oo (.aload_n 0) 19, of (.getfield 212) 22 12 11, nn, nn, oo .iaload 23, of (.putfield 215) 26 12 14, nn, nn, oo .return_ 27, nn, nn, nn, nn, nn]])
def P_X12_fail : List (List (List Nat)) := [[[],[1164],[],[],[],[],[],[],[],[],[1164],[],[],[],[],[1157]], [[],[],[],[1162],[],[],[],[1165],[],[],[],[],[],[],[],[]]]
set_option maxRecDepth 100000 in
theorem kT_X12_fail : ab_okT M_X12_fail := ab_okT_of (P := P_X12_fail) 32 (Nat.le_of_ble_eq_true rfl) (fun pc h => ab_chkR_of (lo := 0) (len := 32) (by decide +kernel) pc (Nat.zero_le _) (by omega))
theorem kY_X12_fail : ab_okY M_X12_fail := ab_okY_of 1416 124 (by decide +kernel)
def M_X12_wrong : ab_M := (yX12_wrong, cX12_wrong, 4, none, 12, 2, [
  [oo (.aload_n 0) 1, of (.getfield 24) 4 12 6, nn, nn, oo (.iload_n 2) 5, oo .iaload 6, oo (.istore_n 3) 7, oo (.aload_n 0) 8, of (.getfield 209) 11 12 13, nn, nn, oj (.ifCond .gt 34) 14 45, nn, nn, oo (.aload_n 0) 15, of (.getfield 218) 18 12 15],
  [nn, nn, oj (.ifCond .eq 28) 21 46, nn, nn, oo (.iload_n 3) 22, oo (.aload_n 0) 23, of (.getfield 221) 26 12 16, nn, nn, oj (.if_icmp .gt 19) 29 45, nn, nn, oo (.iload_n 3) 30, oo (.aload_n 0) 31, of (.getfield 221) 34 12 16],
  [nn, nn, oj (.if_icmp .ne 12) 37 46, nn, nn, oo (.iload_n 1) 38, oo (.aload_n 0) 39, of (.getfield 218) 42 12 15, nn, nn, oj (.if_icmp .lt 4) 45 46, nn, nn, oo .return_ 46, oo (.aload_n 0) 47, oo (.iload_n 1) 48],
  [of (.putfield 218) 51 12 15, nn, nn, oo (.aload_n 0) 52, oo (.iload_n 3) 53, of (.putfield 221) 56 12 16, nn, nn, oo .return_ 57, nn, nn, nn, nn, nn, nn, nn]])
def P_X12_wrong : List (List (List Nat)) := [[[],[1157],[],[],[],[],[],[],[1164],[],[],[],[],[],[],[1166]], [[],[],[],[],[],[],[],[1167],[],[],[],[],[],[],[],[1167]], [[],[],[],[],[],[],[],[1166],[],[],[],[],[],[],[],[]], [[1166],[],[],[],[],[1167],[],[],[],[],[],[],[],[],[],[]]]
set_option maxRecDepth 100000 in
theorem kT_X12_wrong : ab_okT M_X12_wrong := ab_okT_of (P := P_X12_wrong) 64 (Nat.le_of_ble_eq_true rfl) (fun pc h => ab_chkR_of (lo := 0) (len := 64) (by decide +kernel) pc (Nat.zero_le _) (by omega))
theorem kY_X12_wrong : ab_okY M_X12_wrong := ab_okY_of 1436 124 (by decide +kernel)
def M_X12_goesOn : ab_M := (yX12_goesOn, cX12_goesOn, 1, none, 12, 0, [
  [oo (.aload_n 0) 1, of (.getfield 212) 4 12 11, nn, nn, oo (.sipush 400) 7, nn, nn, oj (.if_icmp .ne 11) 10 18, nn, nn, oo (.aload_n 0) 11, oo (.iconst 2) 12, om (.invokevirtual 224) 15 0 yX12_fail, nn, nn, oj (.goto 13) 18 28],
  [nn, nn, oo (.aload_n 0) 19, oo .dup 20, of (.getfield 212) 23 12 11, nn, nn, oo (.iconst 1) 24, oo .iadd 25, of (.putfield 212) 28 12 11, nn, nn, oo .return_ 29, nn, nn, nn]])
def P_X12_goesOn : List (List (List Nat)) := [[[],[1162],[],[],[],[],[],[],[],[],[],[],[1413,1415,48],[],[],[]], [[],[],[],[],[1162],[],[],[],[],[1162],[],[],[],[],[],[]]]
set_option maxRecDepth 100000 in
theorem kT_X12_goesOn : ab_okT M_X12_goesOn := ab_okT_of (P := P_X12_goesOn) 32 (Nat.le_of_ble_eq_true rfl) (fun pc h => ab_chkR_of (lo := 0) (len := 32) (by decide +kernel) pc (Nat.zero_le _) (by omega))
theorem kY_X12_goesOn : ab_okY M_X12_goesOn := ab_okY_of 1420 124 (by decide +kernel)
def M_X12_must : ab_M := (yX12_must, cX12_must, 2, none, 12, 1, [
  [oo (.aload_n 0) 1, oo (.iload_n 1) 2, om (.invokevirtual 227) 5 0 yX12_is, nn, nn, oj (.ifCond .eq 10) 8 15, nn, nn, oo (.aload_n 0) 9, om (.invokevirtual 230) 12 0 yX12_goesOn, nn, nn, oj (.goto 8) 15 20, nn, nn, oo (.aload_n 0) 16],
  [oo (.iconst 1) 17, om (.invokevirtual 224) 20 0 yX12_fail, nn, nn, oo .return_ 21, nn, nn, nn, nn, nn, nn, nn, nn, nn, nn, nn]])
def P_X12_must : List (List (List Nat)) := [[[],[],[1401,1403,45],[],[],[],[],[],[],[1417,1419,49],[],[],[],[],[],[]], [[],[1413,1415,48],[],[],[],[],[],[],[],[],[],[],[],[],[],[]]]
set_option maxRecDepth 100000 in
theorem kT_X12_must : ab_okT M_X12_must := ab_okT_of (P := P_X12_must) 32 (Nat.le_of_ble_eq_true rfl) (fun pc h => ab_chkR_of (lo := 0) (len := 32) (by decide +kernel) pc (Nat.zero_le _) (by omega))
theorem kY_X12_must : ab_okY M_X12_must := ab_okY_of 1432 124 (by decide +kernel)
def M_X12_plain : ab_M := (yX12_plain, cX12_plain, 3, none, 12, 1, [
  [oo (.aload_n 0) 1, of (.getfield 40) 4 12 20, nn, nn, oo (.iload_n 1) 5, oo (.iconst 0) 6, oo .iastore 7, oo (.aload_n 0) 8, of (.getfield 52) 11 12 24, nn, nn, oo (.iload_n 1) 12, oo (.iconst 0) 13, oo .iastore 14, oo (.aload_n 0) 15, of (.getfield 58) 18 12 26],
  [nn, nn, oo (.iload_n 1) 19, oo (.iconst 0) 20, oo .iastore 21, oo (.aload_n 0) 22, of (.getfield 73) 25 12 31, nn, nn, oo (.iconst 2) 26, oo (.iload_n 1) 27, oo .imul 28, oo (.iconst 1) 29, oo .iastore 30, oo (.aload_n 0) 31, of (.getfield 73) 34 12 31],
  [nn, nn, oo (.iconst 2) 35, oo (.iload_n 1) 36, oo .imul 37, oo (.iconst 1) 38, oo .iadd 39, oo (.iconst 0) 40, oo .iastore 41, oo (.aload_n 0) 42, of (.getfield 76) 45 12 32, nn, nn, oo (.iload_n 1) 46, oo (.iconst 0) 47, oo .iastore 48],
  [oo (.aload_n 0) 49, of (.getfield 79) 52 12 33, nn, nn, oo (.iload_n 1) 53, oo (.iconst 0) 54, oo .iastore 55, oo (.iconst 0) 56, oo (.istore_n 2) 57, oo (.iload_n 2) 58, oo (.iconst 3) 59, oj (.if_icmp .ge 31) 62 90, nn, nn, oo (.aload_n 0) 63, of (.getfield 82) 66 12 34],
  [nn, nn, oo (.iconst 3) 67, oo (.iload_n 1) 68, oo .imul 69, oo (.iload_n 2) 70, oo .iadd 71, oo (.iconst 0) 72, oo .iastore 73, oo (.aload_n 0) 74, of (.getfield 85) 77 12 35, nn, nn, oo (.iconst 3) 78, oo (.iload_n 1) 79, oo .imul 80],
  [oo (.iload_n 2) 81, oo .iadd 82, oo (.iconst 0) 83, oo .iastore 84, oo (.iinc 2 1) 87, nn, nn, oj (.goto (-30)) 90 57, nn, nn, oo .return_ 91, nn, nn, nn, nn, nn]])
def P_X12_plain : List (List (List Nat)) := [[[],[1171],[],[],[],[],[],[],[1175],[],[],[],[],[],[],[1177]], [[],[],[],[],[],[],[1182],[],[],[],[],[],[],[],[],[1182]], [[],[],[],[],[],[],[],[],[],[],[1183],[],[],[],[],[]], [[],[1184],[],[],[],[],[],[],[],[],[],[],[],[],[],[1185]], [[],[],[],[],[],[],[],[],[],[],[1186],[],[],[],[],[]], [[],[],[],[],[],[],[],[],[],[],[],[],[],[],[],[]]]
set_option maxRecDepth 100000 in
theorem kT_X12_plain : ab_okT M_X12_plain := ab_okT_of (P := P_X12_plain) 96 (Nat.le_of_ble_eq_true rfl) (fun pc h => ab_chkR_of (lo := 0) (len := 96) (by decide +kernel) pc (Nat.zero_le _) (by omega))
theorem kY_X12_plain : ab_okY M_X12_plain := ab_okY_of 1130 124 (by decide +kernel)
def M_X12_read : ab_M := (yX12_read, cX12_read, 2, (some .int), 12, 0, [
  [oo (.aload_n 0) 1, oo (.aload_n 0) 2, of (.getfield 172) 5 12 2, nn, nn, of (.putfield 178) 8 12 4, nn, nn, oo (.iconst 0) 9, oo (.istore_n 1) 10, oo (.iload_n 1) 11, oo (.aload_n 0) 12, of (.getfield 178) 15 12 4, nn, nn, oj (.if_icmp .ge 21) 18 36],
  [nn, nn, oo (.aload_n 0) 19, of (.getfield 17) 22 12 3, nn, nn, oo (.iload_n 1) 23, oo (.aload_n 0) 24, of (.getfield 13) 27 12 1, nn, nn, oo (.iload_n 1) 28, oo .baload 29, oo .bastore 30, oo (.iinc 1 1) 33, nn],
  [nn, oj (.goto (-23)) 36 10, nn, nn, oo (.aload_n 0) 37, oo (.iconst 0) 38, of (.putfield 172) 41 12 2, nn, nn, oo (.aload_n 0) 42, om (.invokevirtual 233) 45 0 yX12_cut, nn, nn, oo (.aload_n 0) 46, oo (.iconst 0) 47, of (.putfield 212) 50 12 11],
  [nn, nn, oo (.aload_n 0) 51, oo (.iconst 0) 52, of (.putfield 236) 55 12 12, nn, nn, oo (.aload_n 0) 56, oo (.iconst 0) 57, of (.putfield 209) 60 12 13, nn, nn, oo (.aload_n 0) 61, oo (.iconst 0) 62, of (.putfield 218) 65 12 15, nn],
  [nn, oo (.aload_n 0) 66, oo (.iconst 1) 67, oo (.aload_n 0) 68, of (.getfield 239) 71 12 18, nn, nn, oo .isub 72, of (.putfield 242) 75 12 19, nn, nn, oo (.aload_n 0) 76, oo (.aload_n 0) 77, of (.getfield 242) 80 12 19, nn, nn],
  [om (.invokevirtual 158) 83 0 yX12_plain, nn, nn, oo (.aload_n 0) 84, oo (.sipush 130) 87, nn, nn, oo (.aload_n 0) 88, of (.getfield 242) 91 12 19, nn, nn, oo .imul 92, of (.putfield 245) 95 12 36, nn, nn, oo (.aload_n 0) 96],
  [oo (.sipush 420) 99, nn, nn, oo (.aload_n 0) 100, of (.getfield 242) 103 12 19, nn, nn, oo .imul 104, of (.putfield 248) 107 12 42, nn, nn, oo (.aload_n 0) 108, of (.getfield 209) 111 12 13, nn, nn, oj (.ifCond .ne 18) 114 129],
  [nn, nn, oo (.aload_n 0) 115, oo (.iconst 0) 116, om (.invokevirtual 227) 119 0 yX12_is, nn, nn, oj (.ifCond .ne 10) 122 129, nn, nn, oo (.aload_n 0) 123, om (.invokevirtual 251) 126 0 yX12_tellOne, nn, nn, oj (.goto (-19)) 129 107, nn],
  [nn, oo (.aload_n 0) 130, oo (.aload_n 0) 131, of (.getfield 209) 134 12 13, nn, nn, oj (.ifCond .le 10) 137 144, nn, nn, oo (.aload_n 0) 138, of (.getfield 215) 141 12 14, nn, nn, oj (.goto 18) 144 159, nn, nn],
  [oo (.aload_n 0) 145, of (.getfield 218) 148 12 15, nn, nn, oj (.ifCond .le 10) 151 158, nn, nn, oo (.aload_n 0) 152, of (.getfield 221) 155 12 16, nn, nn, oj (.goto 4) 158 159, nn, nn, oo (.iconst (-1)) 159, of (.putfield 37) 162 12 17],
  [nn, nn, oo (.aload_n 0) 163, of (.getfield 209) 166 12 13, nn, nn, oj (.ifCond .le 8) 169 174, nn, nn, oo (.aload_n 0) 170, of (.getfield 209) 173 12 13, nn, nn, oo .ireturn 174, oo (.aload_n 0) 175, of (.getfield 218) 178 12 15],
  [nn, nn, oj (.ifCond .le 8) 181 186, nn, nn, oo (.aload_n 0) 182, of (.getfield 218) 185 12 15, nn, nn, oo .ireturn 186, oo (.aload_n 0) 187, oo (.aload_n 0) 188, of (.getfield 242) 191 12 19, nn, nn, of (.putfield 239) 194 12 18],
  [nn, nn, oo (.aload_n 0) 195, om (.invokevirtual 166) 198 0 yX12_begins, nn, nn, oo (.aload_n 0) 199, om (.invokevirtual 169) 202 0 yX12_keepsRow, nn, nn, oo (.aload_n 0) 203, oo (.iconst 0) 204, of (.putfield 254) 207 12 58, nn, nn, oo (.aload_n 0) 208],
  [oo (.iconst 0) 209, of (.putfield 257) 212 12 65, nn, nn, oo (.iconst 0) 213, oo (.istore_n 1) 214, oo (.iload_n 1) 215, oo (.iconst 3) 216, oj (.if_icmp .ge 16) 219 232, nn, nn, oo (.aload_n 0) 220, of (.getfield 152) 223 12 68, nn, nn, oo (.iload_n 1) 224],
  [oo (.iconst 0) 225, oo .bastore 226, oo (.iinc 1 1) 229, nn, nn, oj (.goto (-15)) 232 214, nn, nn, oo (.iconst 0) 233, oo .ireturn 234, nn, nn, nn, nn, nn, nn]])
def P_X12_read : List (List (List Nat)) := [[[],[],[1153],[],[],[1155],[],[],[],[],[],[],[1155],[],[],[]], [[],[],[],[1154],[],[],[],[],[1152],[],[],[],[],[],[],[]], [[],[],[],[],[],[],[1153],[],[],[],[1379,1381,41],[],[],[],[],[1162]], [[],[],[],[],[1163],[],[],[],[],[1164],[],[],[],[],[1166],[]], [[],[],[],[],[1169],[],[],[],[1170],[],[],[],[],[1170],[],[]], [[1127,1129,37],[],[],[],[],[],[],[],[1170],[],[],[],[1187],[],[],[]], [[],[],[],[],[1170],[],[],[],[1193],[],[],[],[1164],[],[],[]], [[],[],[],[],[1401,1403,45],[],[],[],[],[],[],[1405,1407,46],[],[],[],[]], [[],[],[],[1164],[],[],[],[],[],[],[1165],[],[],[],[],[]], [[],[1166],[],[],[],[],[],[],[1167],[],[],[],[],[],[],[1168]], [[],[],[],[1164],[],[],[],[],[],[],[1164],[],[],[],[],[1166]], [[],[],[],[],[],[],[1166],[],[],[],[],[],[1170],[],[],[1169]], [[],[],[],[1138,1140,38],[],[],[],[1148,1150,39],[],[],[],[],[1209],[],[],[]], [[],[1216],[],[],[],[],[],[],[],[],[],[],[1219],[],[],[]], [[],[],[],[],[],[],[],[],[],[],[],[],[],[],[],[]]]
set_option maxRecDepth 100000 in
theorem kT_X12_read : ab_okT M_X12_read := ab_okT_of (P := P_X12_read) 240 (Nat.le_of_ble_eq_true rfl) (fun pc h => ab_chkR_of (lo := 0) (len := 240) (by decide +kernel) pc (Nat.zero_le _) (by omega))
theorem kY_X12_read : ab_okY M_X12_read := ab_okY_of 1378 124 (by decide +kernel)
def M_X12_place : ab_M := (yX12_place, cX12_place, 1, (some .int), 12, 0, [
  [oo (.aload_n 0) 1, of (.getfield 37) 4 12 17, nn, nn, oo .ireturn 5, nn, nn, nn, nn, nn, nn, nn, nn, nn, nn, nn]])
def P_X12_place : List (List (List Nat)) := [[[],[1168],[],[],[],[],[],[],[],[],[],[],[],[],[],[]]]
set_option maxRecDepth 100000 in
theorem kT_X12_place : ab_okT M_X12_place := ab_okT_of (P := P_X12_place) 16 (Nat.le_of_ble_eq_true rfl) (fun pc h => ab_chkR_of (lo := 0) (len := 16) (by decide +kernel) pc (Nat.zero_le _) (by omega))
theorem kY_X12_place : ab_okY M_X12_place := ab_okY_of 1480 124 (by decide +kernel)
def M_X12_roomFor : ab_M := (yX12_roomFor, cX12_roomFor, 3, none, 12, 2, [
  [oo (.iload_n 1) 1, oo (.iload_n 2) 2, oj (.if_icmp .ne 8) 5 10, nn, nn, oo (.aload_n 0) 6, oo (.iconst 2) 7, om (.invokevirtual 224) 10 0 yX12_fail, nn, nn, oo (.aload_n 0) 11, of (.getfield 209) 14 12 13, nn, nn, oj (.ifCond .ne 7) 17 21, nn],
  [nn, oo (.aload_n 0) 18, om (.invokevirtual 230) 21 0 yX12_goesOn, nn, nn, oo .return_ 22, nn, nn, nn, nn, nn, nn, nn, nn, nn, nn]])
def P_X12_roomFor : List (List (List Nat)) := [[[],[],[],[],[],[],[],[1413,1415,48],[],[],[],[1164],[],[],[],[]], [[],[],[1417,1419,49],[],[],[],[],[],[],[],[],[],[],[],[],[]]]
set_option maxRecDepth 100000 in
theorem kT_X12_roomFor : ab_okT M_X12_roomFor := ab_okT_of (P := P_X12_roomFor) 32 (Nat.le_of_ble_eq_true rfl) (fun pc h => ab_chkR_of (lo := 0) (len := 32) (by decide +kernel) pc (Nat.zero_le _) (by omega))
theorem kY_X12_roomFor : ab_okY M_X12_roomFor := ab_okY_of 1412 124 (by decide +kernel)
def M_X12_toldInt : ab_M := (yX12_toldInt, cX12_toldInt, 4, (some .int), 12, 2, [
  [oo (.aload_n 0) 1, om (.invokevirtual 230) 4 0 yX12_goesOn, nn, nn, oo (.aload_n 0) 5, oo (.iload_n 1) 6, oo (.iload_n 2) 7, om (.invokevirtual 260) 10 0 yX12_bounded, nn, nn, oo (.istore_n 3) 11, oo (.aload_n 0) 12, oo (.iconst 4) 13, om (.invokevirtual 264) 16 0 yX12_must, nn, nn],
  [oo (.iload_n 3) 17, oo .ireturn 18, nn, nn, nn, nn, nn, nn, nn, nn, nn, nn, nn, nn, nn, nn]])
def P_X12_toldInt : List (List (List Nat)) := [[[],[1417,1419,49],[],[],[],[],[],[1437,1439,54],[],[],[],[],[],[1429,1431,52],[],[]], [[],[],[],[],[],[],[],[],[],[],[],[],[],[],[],[]]]
set_option maxRecDepth 100000 in
theorem kT_X12_toldInt : ab_okT M_X12_toldInt := ab_okT_of (P := P_X12_toldInt) 32 (Nat.le_of_ble_eq_true rfl) (fun pc h => ab_chkR_of (lo := 0) (len := 32) (by decide +kernel) pc (Nat.zero_le _) (by omega))
theorem kY_X12_toldInt : ab_okY M_X12_toldInt := ab_okY_of 1452 124 (by decide +kernel)
def M_X12_tellOne : ab_M := (yX12_tellOne, cX12_tellOne, 2, none, 12, 0, [
  [oo (.aload_n 0) 1, of (.getfield 20) 4 12 5, nn, nn, oo (.aload_n 0) 5, of (.getfield 212) 8 12 11, nn, nn, oo .iaload 9, oo (.tableswitch 287 20 28 #[51, 79, 176, 287, 287, 287, 204, 248, 267]) 60, nn, nn, nn, nn, nn, nn],
  [nn, nn, nn, nn, nn, nn, nn, nn, nn, nn, nn, nn, nn, nn, nn, nn],
  [nn, nn, nn, nn, nn, nn, nn, nn, nn, nn, nn, nn, nn, nn, nn, nn],
  [nn, nn, nn, nn, nn, nn, nn, nn, nn, nn, nn, nn, oo (.aload_n 0) 61, oo (.aload_n 0) 62, of (.getfield 40) 65 12 20, nn],
  [nn, oo (.aload_n 0) 66, of (.getfield 242) 69 12 19, nn, nn, oo .iaload 70, oo (.iconst 4) 71, om (.invokevirtual 267) 74 0 yX12_roomFor, nn, nn, oo (.aload_n 0) 75, of (.getfield 209) 78 12 13, nn, nn, oj (.ifCond .ne 271) 81 349, nn],
  [nn, oo (.aload_n 0) 82, om (.invokevirtual 271) 85 0 yX12_tellLetter, nn, nn, oj (.goto 264) 88 349, nn, nn, oo (.aload_n 0) 89, oo (.aload_n 0) 90, of (.getfield 52) 93 12 24, nn, nn, oo (.aload_n 0) 94, of (.getfield 242) 97 12 19, nn],
  [nn, oo .iaload 98, oo (.bipush 8) 100, nn, om (.invokevirtual 267) 103 0 yX12_roomFor, nn, nn, oo (.aload_n 0) 104, of (.getfield 209) 107 12 13, nn, nn, oj (.ifCond .le 4) 110 111, nn, nn, oo .return_ 111, oo (.aload_n 0) 112],
  [of (.getfield 55) 115 12 25, nn, nn, oo (.bipush 8) 117, nn, oo (.aload_n 0) 118, of (.getfield 242) 121 12 19, nn, nn, oo .imul 122, oo (.aload_n 0) 123, of (.getfield 52) 126 12 24, nn, nn, oo (.aload_n 0) 127, of (.getfield 242) 130 12 19],
  [nn, nn, oo .iaload 131, oo .iadd 132, oo (.aload_n 0) 133, oo (.aload_n 0) 134, of (.getfield 55) 137 12 25, nn, nn, oo (.bipush 8) 139, nn, oo (.aload_n 0) 140, of (.getfield 242) 143 12 19, nn, nn, oo .imul 144],
  [oo (.aload_n 0) 145, of (.getfield 52) 148 12 24, nn, nn, oo (.aload_n 0) 149, of (.getfield 242) 152 12 19, nn, nn, oo .iaload 153, om (.invokevirtual 274) 156 0 yX12_named, nn, nn, oo .lastore 157, oo (.aload_n 0) 158, oo (.iconst 4) 159, om (.invokevirtual 264) 162 0 yX12_must],
  [nn, nn, oo (.aload_n 0) 163, of (.getfield 209) 166 12 13, nn, nn, oj (.ifCond .ne 183) 169 349, nn, nn, oo (.aload_n 0) 170, of (.getfield 52) 173 12 24, nn, nn, oo (.aload_n 0) 174, of (.getfield 242) 177 12 19, nn],
  [nn, oo .dup2 178, oo .iaload 179, oo (.iconst 1) 180, oo .iadd 181, oo .iastore 182, oj (.goto 167) 185 349, nn, nn, oo (.aload_n 0) 186, oo (.aload_n 0) 187, of (.getfield 58) 190 12 26, nn, nn, oo (.aload_n 0) 191, of (.getfield 242) 194 12 19],
  [nn, nn, oo .iaload 195, oo (.iconst 4) 196, om (.invokevirtual 267) 199 0 yX12_roomFor, nn, nn, oo (.aload_n 0) 200, of (.getfield 209) 203 12 13, nn, nn, oj (.ifCond .ne 146) 206 349, nn, nn, oo (.aload_n 0) 207, om (.invokevirtual 278) 210 0 yX12_tellPicker],
  [nn, nn, oj (.goto 139) 213 349, nn, nn, oo (.aload_n 0) 214, om (.invokevirtual 230) 217 0 yX12_goesOn, nn, nn, oo (.aload_n 0) 218, of (.getfield 73) 221 12 31, nn, nn, oo (.iconst 2) 222, oo (.aload_n 0) 223, of (.getfield 242) 226 12 19],
  [nn, nn, oo .imul 227, oo (.aload_n 0) 228, om (.invokevirtual 281) 231 0 yX12_toldStep, nn, nn, oo .iastore 232, oo (.aload_n 0) 233, of (.getfield 73) 236 12 31, nn, nn, oo (.iconst 2) 237, oo (.aload_n 0) 238, of (.getfield 242) 241 12 19, nn],
  [nn, oo .imul 242, oo (.iconst 1) 243, oo .iadd 244, oo (.aload_n 0) 245, om (.invokevirtual 281) 248 0 yX12_toldStep, nn, nn, oo .iastore 249, oo (.aload_n 0) 250, oo (.iconst 4) 251, om (.invokevirtual 264) 254 0 yX12_must, nn, nn, oj (.goto 95) 257 349, nn],
  [nn, oo (.aload_n 0) 258, of (.getfield 76) 261 12 32, nn, nn, oo (.aload_n 0) 262, of (.getfield 242) 265 12 19, nn, nn, oo (.aload_n 0) 266, oo (.iconst 0) 267, oo (.bipush 100) 269, nn, om (.invokevirtual 285) 272 0 yX12_toldInt, nn, nn],
  [oo .iastore 273, oj (.goto 76) 276 349, nn, nn, oo (.aload_n 0) 277, of (.getfield 79) 280 12 33, nn, nn, oo (.aload_n 0) 281, of (.getfield 242) 284 12 19, nn, nn, oo (.aload_n 0) 285, oo (.iconst 0) 286, oo (.sipush 9999) 289, nn],
  [nn, om (.invokevirtual 285) 292 0 yX12_toldInt, nn, nn, oo .iastore 293, oj (.goto 56) 296 349, nn, nn, oo (.aload_n 0) 297, of (.getfield 20) 300 12 5, nn, nn, oo (.aload_n 0) 301, of (.getfield 212) 304 12 11, nn, nn],
  [oo .iaload 305, oo (.bipush 23) 307, nn, oo .isub 308, oo (.istore_n 1) 309, oo (.iload_n 1) 310, oj (.ifCond .lt 17) 313 327, nn, nn, oo (.aload_n 0) 314, of (.getfield 20) 317 12 5, nn, nn, oo (.aload_n 0) 318, of (.getfield 212) 321 12 11, nn],
  [nn, oo .iaload 322, oo (.bipush 25) 324, nn, oj (.if_icmp .le 8) 327 332, nn, nn, oo (.aload_n 0) 328, oo (.iconst 1) 329, om (.invokevirtual 224) 332 0 yX12_fail, nn, nn, oo (.aload_n 0) 333, of (.getfield 209) 336 12 13, nn, nn],
  [oj (.ifCond .le 4) 339 340, nn, nn, oo .return_ 340, oo (.aload_n 0) 341, om (.invokevirtual 230) 344 0 yX12_goesOn, nn, nn, oo (.aload_n 0) 345, oo (.iload_n 1) 346, om (.invokevirtual 288) 349 0 yX12_tellLaw, nn, nn, oo .return_ 350, nn, nn]])
def P_X12_tellOne : List (List (List Nat)) := [[[],[1156],[],[],[],[1162],[],[],[],[],[],[],[],[],[],[]], [[],[],[],[],[],[],[],[],[],[],[],[],[],[],[],[]], [[],[],[],[],[],[],[],[],[],[],[],[],[],[],[],[]], [[],[],[],[],[],[],[],[],[],[],[],[],[],[],[1171],[]], [[],[],[1170],[],[],[],[],[1409,1411,47],[],[],[],[1164],[],[],[],[]], [[],[],[1421,1423,50],[],[],[],[],[],[],[],[1175],[],[],[],[1170],[]], [[],[],[],[],[1409,1411,47],[],[],[],[1164],[],[],[],[],[],[],[]], [[1176],[],[],[],[],[],[1170],[],[],[],[],[1175],[],[],[],[1170]], [[],[],[],[],[],[],[1176],[],[],[],[],[],[1170],[],[],[]], [[],[1175],[],[],[],[1170],[],[],[],[1425,1427,51],[],[],[],[],[],[1429,1431,52]], [[],[],[],[1164],[],[],[],[],[],[],[1175],[],[],[],[1170],[]], [[],[],[],[],[],[],[],[],[],[],[],[1177],[],[],[],[1170]], [[],[],[],[],[1409,1411,47],[],[],[],[1164],[],[],[],[],[],[],[1441,1443,55]], [[],[],[],[],[],[],[1417,1419,49],[],[],[],[1182],[],[],[],[],[1170]], [[],[],[],[],[1445,1447,56],[],[],[],[],[1182],[],[],[],[],[1170],[]], [[],[],[],[],[],[1445,1447,56],[],[],[],[],[],[1429,1431,52],[],[],[],[]], [[],[],[1183],[],[],[],[1170],[],[],[],[],[],[],[1449,1451,57],[],[]], [[],[],[],[],[],[1184],[],[],[],[1170],[],[],[],[],[],[]], [[],[1449,1451,57],[],[],[],[],[],[],[],[1156],[],[],[],[1162],[],[]], [[],[],[],[],[],[],[],[],[],[],[1156],[],[],[],[1162],[]], [[],[],[],[],[],[],[],[],[],[1413,1415,48],[],[],[],[1164],[],[]], [[],[],[],[],[],[1417,1419,49],[],[],[],[],[1453,1455,58],[],[],[],[],[]]]
set_option maxRecDepth 100000 in
theorem kT_X12_tellOne : ab_okT M_X12_tellOne := ab_okT_of (P := P_X12_tellOne) 352 (Nat.le_of_ble_eq_true rfl) (fun pc h => ab_chkR_of (lo := 0) (len := 352) (by decide +kernel) pc (Nat.zero_le _) (by omega))
theorem kY_X12_tellOne : ab_okY M_X12_tellOne := ab_okY_of 1408 124 (by decide +kernel)
