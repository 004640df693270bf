def M_X12_year : ab_M := (yX12_year, cX12_year, 5, (some .int), 12, 2, [
  [oo (.iload_n 1) 1, om (.invokestatic 428) 4 0 yX12_isLong, nn, nn, oj (.ifCond .eq 13) 7 17, nn, nn, oo (.iload_n 2) 8, oo (.iconst 1) 9, oo (.bipush 20) 11, nn, om (.invokestatic 327) 14 0 yX12_in, nn, nn, oj (.ifCond .ne 5) 17 19, nn],
  [nn, oo (.iconst (-1)) 18, oo .ireturn 19, oo (.iconst 0) 20, oo (.istore_n 3) 21, oo (.iconst 0) 22, oo (.istore 4) 24, nn, oo (.iload 4) 26, nn, oo (.iload_n 2) 27, oj (.if_icmp .ge 39) 30 66, nn, nn, oo (.aload_n 0) 31, om (.invokevirtual 341) 34 0 yX12_copies],
  [nn, nn, oo (.aload_n 0) 35, oo .dup 36, of (.getfield 335) 39 12 52, nn, nn, oo (.iload 4) 41, nn, oo .iadd 42, of (.putfield 335) 45 12 52, nn, nn, oo (.aload_n 0) 46, oo (.iload_n 1) 47, om (.invokevirtual 431) 50 0 yX12_goes],
  [nn, nn, oo (.aload_n 0) 51, om (.invokevirtual 483) 54 0 yX12_lieMany, nn, nn, oj (.ifCond .ne 6) 57 60, nn, nn, oo (.iinc 3 1) 60, nn, nn, oo (.iinc 4 1) 63, nn, nn, oj (.goto (-39)) 66 24],
  [nn, nn, oo (.iload_n 3) 67, oo .ireturn 68, nn, nn, nn, nn, nn, nn, nn, nn, nn, nn, nn, nn]])
def P_X12_year : List (List (List Nat)) := [[[],[1594,1595],[],[],[],[],[],[],[],[],[],[1489,1490],[],[],[],[]], [[],[],[],[],[],[],[],[],[],[],[],[],[],[],[],[1492,1494,65]], [[],[],[],[],[1203],[],[],[],[],[],[1203],[],[],[],[],[1597,1599,83]], [[],[],[],[1741,1743,101],[],[],[],[],[],[],[],[],[],[],[],[]], [[],[],[],[],[],[],[],[],[],[],[],[],[],[],[],[]]]
set_option maxRecDepth 100000 in
theorem kT_X12_year : ab_okT M_X12_year := ab_okT_of (P := P_X12_year) 80 (Nat.le_of_ble_eq_true rfl) (fun pc h => ab_chkR_of (lo := 0) (len := 80) (by decide +kernel) pc (Nat.zero_le _) (by omega))
theorem kY_X12_year : ab_okY M_X12_year := ab_okY_of 1756 124 (by decide +kernel)
def M_X12_tell : ab_M := (yX12_tell, cX12_tell, 3, (some .int), 12, 2, [
  [oo (.aload_n 0) 1, of (.getfield 257) 4 12 65, nn, nn, oo (.bipush 20) 6, nn, oj (.if_icmp .eq 13) 9 19, nn, nn, oo (.iload_n 1) 10, oo (.iconst 1) 11, oo (.bipush 26) 13, nn, om (.invokestatic 327) 16 0 yX12_in, nn, nn],
  [oj (.ifCond .ne 5) 19 21, nn, nn, oo (.iconst (-1)) 20, oo .ireturn 21, oo (.aload_n 0) 22, of (.getfield 146) 25 12 66, nn, nn, oo (.aload_n 0) 26, of (.getfield 257) 29 12 65, nn, nn, oo (.iload_n 1) 30, oo .iastore 31, oo (.aload_n 0) 32],
  [of (.getfield 149) 35 12 67, nn, nn, oo (.aload_n 0) 36, of (.getfield 257) 39 12 65, nn, nn, oo (.iload_n 2) 40, oo .bastore 41, oo (.aload_n 0) 42, oo .dup 43, of (.getfield 257) 46 12 65, nn, nn, oo (.iconst 1) 47, oo .iadd 48],
  [of (.putfield 257) 51 12 65, nn, nn, oo (.aload_n 0) 52, of (.getfield 257) 55 12 65, nn, nn, oo (.iconst 1) 56, oo .isub 57, oo .ireturn 58, nn, nn, nn, nn, nn, nn]])
def P_X12_tell : List (List (List Nat)) := [[[],[1216],[],[],[],[],[],[],[],[],[],[],[],[1489,1490],[],[]], [[],[],[],[],[],[],[1217],[],[],[],[1216],[],[],[],[],[]], [[1218],[],[],[],[1216],[],[],[],[],[],[],[1216],[],[],[],[]], [[1216],[],[],[],[1216],[],[],[],[],[],[],[],[],[],[],[]]]
set_option maxRecDepth 100000 in
theorem kT_X12_tell : ab_okT M_X12_tell := ab_okT_of (P := P_X12_tell) 64 (Nat.le_of_ble_eq_true rfl) (fun pc h => ab_chkR_of (lo := 0) (len := 64) (by decide +kernel) pc (Nat.zero_le _) (by omega))
theorem kY_X12_tell : ab_okY M_X12_tell := ab_okY_of 1760 124 (by decide +kernel)
def M_X12_forget : ab_M := (yX12_forget, cX12_forget, 2, (some .int), 12, 0, [
  [oo (.aload_n 0) 1, of (.getfield 257) 4 12 65, nn, nn, oo (.istore_n 1) 5, oo (.aload_n 0) 6, oo (.iconst 0) 7, of (.putfield 257) 10 12 65, nn, nn, oo (.iload_n 1) 11, oo .ireturn 12, nn, nn, nn, nn]])
def P_X12_forget : List (List (List Nat)) := [[[],[1216],[],[],[],[],[],[1216],[],[],[],[],[],[],[],[]]]
set_option maxRecDepth 100000 in
theorem kT_X12_forget : ab_okT M_X12_forget := ab_okT_of (P := P_X12_forget) 16 (Nat.le_of_ble_eq_true rfl) (fun pc h => ab_chkR_of (lo := 0) (len := 16) (by decide +kernel) pc (Nat.zero_le _) (by omega))
theorem kY_X12_forget : ab_okY M_X12_forget := ab_okY_of 1764 124 (by decide +kernel)
def M_X12_isThere : ab_M := (yX12_isThere, cX12_isThere, 3, (some .boolean), 12, 2, [
  [oo (.aload_n 0) 1, oo (.iload_n 1) 2, om (.invokevirtual 452) 5 0 yX12_wordAt, nn, nn, oo (.iload_n 2) 6, om (.invokestatic 456) 9 0 yX12_timesIn, nn, nn, oj (.ifCond .le 7) 12 16, nn, nn, oo (.iconst 1) 13, oj (.goto 4) 16 17, nn, nn],
  [oo (.iconst 0) 17, oo .ireturn 18, nn, nn, nn, nn, nn, nn, nn, nn, nn, nn, nn, nn, nn, nn]])
def P_X12_isThere : List (List (List Nat)) := [[[],[],[1687,1689,96],[],[],[],[1691,1692],[],[],[],[],[],[],[],[],[]], [[],[],[],[],[],[],[],[],[],[],[],[],[],[],[],[]]]
set_option maxRecDepth 100000 in
theorem kT_X12_isThere : ab_okT M_X12_isThere := ab_okT_of (P := P_X12_isThere) 32 (Nat.le_of_ble_eq_true rfl) (fun pc h => ab_chkR_of (lo := 0) (len := 32) (by decide +kernel) pc (Nat.zero_le _) (by omega))
theorem kY_X12_isThere : ab_okY M_X12_isThere := ab_okY_of 1776 124 (by decide +kernel)
def M_X12_writtenBits : ab_M := (yX12_writtenBits, cX12_writtenBits, 6, (some .int), 12, 1, [
  [oo (.iconst 0) 1, oo (.istore_n 2) 2, oo (.iconst 0) 3, oo (.istore_n 3) 4, oo (.iload_n 3) 5, oo (.aload_n 0) 6, of (.getfield 52) 9 12 24, nn, nn, oo (.aload_n 0) 10, of (.getfield 239) 13 12 18, nn, nn, oo .iaload 14, oj (.if_icmp .ge 63) 17 77, nn],
  [nn, oo (.iconst 1) 18, oo (.istore 4) 20, nn, oo (.iconst 0) 21, oo (.istore 5) 23, nn, oo (.iload 5) 25, nn, oo (.iload_n 1) 26, oj (.if_icmp .ge 34) 29 60, nn, nn, oo (.aload_n 0) 30, oo (.iload_n 3) 31, oo (.aload_n 0) 32],
  [of (.getfield 146) 35 12 66, nn, nn, oo (.iload 5) 37, nn, oo .iaload 38, om (.invokevirtual 486) 41 0 yX12_isThere, nn, nn, oo (.aload_n 0) 42, of (.getfield 149) 45 12 67, nn, nn, oo (.iload 5) 47, nn, oo .baload 48],
  [oj (.if_icmp .eq 6) 51 54, nn, nn, oo (.iconst 0) 52, oo (.istore 4) 54, nn, oo (.iinc 5 1) 57, nn, nn, oj (.goto (-34)) 60 23, nn, nn, oo (.iload 4) 62, nn, oj (.ifCond .eq 9) 65 71, nn],
  [nn, oo (.iload_n 2) 66, oo (.iconst 1) 67, oo (.iload_n 3) 68, oo .ishl 69, oo .ior 70, oo (.istore_n 2) 71, oo (.iinc 3 1) 74, nn, nn, oj (.goto (-70)) 77 4, nn, nn, oo (.iload_n 2) 78, oo .ireturn 79, nn]])
def P_X12_writtenBits : List (List (List Nat)) := [[[],[],[],[],[],[],[1175],[],[],[],[1169],[],[],[],[],[]], [[],[],[],[],[],[],[],[],[],[],[],[],[],[],[],[]], [[1217],[],[],[],[],[],[1773,1775,103],[],[],[],[1218],[],[],[],[],[]], [[],[],[],[],[],[],[],[],[],[],[],[],[],[],[],[]], [[],[],[],[],[],[],[],[],[],[],[],[],[],[],[],[]]]
set_option maxRecDepth 100000 in
theorem kT_X12_writtenBits : ab_okT M_X12_writtenBits := ab_okT_of (P := P_X12_writtenBits) 80 (Nat.le_of_ble_eq_true rfl) (fun pc h => ab_chkR_of (lo := 0) (len := 80) (by decide +kernel) pc (Nat.zero_le _) (by omega))
theorem kY_X12_writtenBits : ab_okY M_X12_writtenBits := ab_okY_of 1772 124 (by decide +kernel)
def M_X12_written : ab_M := (yX12_written, cX12_written, 4, (some .int), 12, 2, [
  [oo (.iload_n 1) 1, oo (.iconst 0) 2, oo (.aload_n 0) 3, of (.getfield 257) 6 12 65, nn, nn, om (.invokestatic 327) 9 0 yX12_in, nn, nn, oj (.ifCond .eq 12) 12 21, nn, nn, oo (.iload_n 2) 13, oo (.iconst 0) 14, oo (.iconst 1) 15, om (.invokestatic 327) 18 0 yX12_in],
  [nn, nn, oj (.ifCond .ne 5) 21 23, nn, nn, oo (.iconst (-1)) 22, oo .ireturn 23, oo (.aload_n 0) 24, oo (.iload_n 1) 25, om (.invokevirtual 489) 28 0 yX12_writtenBits, nn, nn, oo (.istore_n 3) 29, oo (.iload_n 2) 30, oj (.ifCond .ne 10) 33 40, nn],
  [nn, oo (.iload_n 3) 34, om (.invokestatic 468) 37 0 yX12_bits, nn, nn, oj (.goto 4) 40 41, nn, nn, oo (.iload_n 3) 41, oo .ireturn 42, nn, nn, nn, nn, nn, nn]])
def P_X12_written : List (List (List Nat)) := [[[],[],[],[1216],[],[],[1489,1490],[],[],[],[],[],[],[],[],[1489,1490]], [[],[],[],[],[],[],[],[],[],[1769,1771,102],[],[],[],[],[],[]], [[],[],[1698,1699],[],[],[],[],[],[],[],[],[],[],[],[],[]]]
set_option maxRecDepth 100000 in
theorem kT_X12_written : ab_okT M_X12_written := ab_okT_of (P := P_X12_written) 48 (Nat.le_of_ble_eq_true rfl) (fun pc h => ab_chkR_of (lo := 0) (len := 48) (by decide +kernel) pc (Nat.zero_le _) (by omega))
theorem kY_X12_written : ab_okY M_X12_written := ab_okY_of 1768 124 (by decide +kernel)
def M_X12_ask : ab_M := (yX12_ask, cX12_ask, 8, (some .int), 12, 1, [
  [oo (.iload_n 1) 1, oo (.iconst 0) 2, oo (.aload_n 0) 3, of (.getfield 257) 6 12 65, nn, nn, om (.invokestatic 327) 9 0 yX12_in, nn, nn, oj (.ifCond .ne 5) 12 14, nn, nn, oo (.iconst (-1)) 13, oo .ireturn 14, oo (.aload_n 0) 15, oo (.iload_n 1) 16],
  [om (.invokevirtual 489) 19 0 yX12_writtenBits, nn, nn, oo (.istore_n 2) 20, oo (.bipush (-2)) 22, nn, oo (.istore_n 3) 23, oo (.iconst 0) 24, oo (.istore 4) 26, nn, oo (.iconst 1) 27, oo (.istore 5) 29, nn, oo (.iload 5) 31, nn, oo (.bipush 27) 33],
  [nn, oj (.if_icmp .ge 110) 36 143, nn, nn, oo (.iload_n 2) 37, oj (.ifCond .eq 106) 40 143, nn, nn, oo (.iconst 0) 41, oo (.istore 6) 43, nn, oo (.iconst 0) 44, oo (.istore 7) 46, nn, oo (.iload 7) 48, nn],
  [oo (.aload_n 0) 49, of (.getfield 52) 52 12 24, nn, nn, oo (.aload_n 0) 53, of (.getfield 239) 56 12 18, nn, nn, oo .iaload 57, oj (.if_icmp .ge 33) 60 90, nn, nn, oo (.iload_n 2) 61, oo (.iload 7) 63, nn, oo .ishr 64],
  [oo (.iconst 1) 65, oo .iand 66, oo (.iconst 1) 67, oj (.if_icmp .ne 17) 70 84, nn, nn, oo (.aload_n 0) 71, oo (.iload 7) 73, nn, oo (.iload 5) 75, nn, om (.invokevirtual 486) 78 0 yX12_isThere, nn, nn, oj (.ifCond .eq 6) 81 84, nn],
  [nn, oo (.iinc 6 1) 84, nn, nn, oo (.iinc 7 1) 87, nn, nn, oj (.goto (-41)) 90 46, nn, nn, oo (.iload 6) 92, nn, oo (.iload_n 2) 93, om (.invokestatic 468) 96 0 yX12_bits, nn, nn],
  [oo (.iload 6) 98, nn, oo .isub 99, oj (.if_icmp .le 8) 102 107, nn, nn, oo (.iload 6) 104, nn, oj (.goto 10) 107 114, nn, nn, oo (.iload_n 2) 108, om (.invokestatic 468) 111 0 yX12_bits, nn, nn, oo (.iload 6) 113],
  [nn, oo .isub 114, oo (.istore 7) 116, nn, oo (.iload_n 3) 117, oj (.ifCond .lt 13) 120 130, nn, nn, oo (.iload 7) 122, nn, oo (.iload 4) 124, nn, oj (.if_icmp .lt 6) 127 130, nn, nn, oj (.goto 10) 130 137],
  [nn, nn, oo (.iload 5) 132, nn, oo (.istore_n 3) 133, oo (.iload 7) 135, nn, oo (.istore 4) 137, nn, oo (.iinc 5 1) 140, nn, nn, oj (.goto (-111)) 143 29, nn, nn, oo (.iload_n 3) 144],
  [oo .ireturn 145, nn, nn, nn, nn, nn, nn, nn, nn, nn, nn, nn, nn, nn, nn, nn]])
def P_X12_ask : List (List (List Nat)) := [[[],[],[],[1216],[],[],[1489,1490],[],[],[],[],[],[],[],[],[]], [[1769,1771,102],[],[],[],[],[],[],[],[],[],[],[],[],[],[],[]], [[],[],[],[],[],[],[],[],[],[],[],[],[],[],[],[]], [[],[1175],[],[],[],[1169],[],[],[],[],[],[],[],[],[],[]], [[],[],[],[],[],[],[],[],[],[],[],[1773,1775,103],[],[],[],[]], [[],[],[],[],[],[],[],[],[],[],[],[],[],[1698,1699],[],[]], [[],[],[],[],[],[],[],[],[],[],[],[],[1698,1699],[],[],[]], [[],[],[],[],[],[],[],[],[],[],[],[],[],[],[],[]], [[],[],[],[],[],[],[],[],[],[],[],[],[],[],[],[]], [[],[],[],[],[],[],[],[],[],[],[],[],[],[],[],[]]]
set_option maxRecDepth 100000 in
theorem kT_X12_ask : ab_okT M_X12_ask := ab_okT_of (P := P_X12_ask) 160 (Nat.le_of_ble_eq_true rfl) (fun pc h => ab_chkR_of (lo := 0) (len := 160) (by decide +kernel) pc (Nat.zero_le _) (by omega))
theorem kY_X12_ask : ab_okY M_X12_ask := ab_okY_of 1780 124 (by decide +kernel)
def M_X12_hold : ab_M := (yX12_hold, cX12_hold, 3, (some .boolean), 12, 1, [
  [oo (.iload_n 1) 1, oo (.iconst 0) 2, oo (.iconst 2) 3, om (.invokestatic 327) 6 0 yX12_in, nn, nn, oj (.ifCond .ne 5) 9 11, nn, nn, oo (.iconst 0) 10, oo .ireturn 11, oo (.aload_n 0) 12, of (.getfield 152) 15 12 68, nn, nn, oo (.iload_n 1) 16],
  [oo (.iconst 1) 17, oo .bastore 18, oo (.iconst 0) 19, oo (.istore_n 2) 20, oo (.iload_n 2) 21, oo (.sipush 141) 24, nn, nn, oj (.if_icmp .ge 27) 27 51, nn, nn, oo (.aload_n 0) 28, of (.getfield 155) 31 12 69, nn, nn, oo (.sipush 141) 34],
  [nn, nn, oo (.iload_n 1) 35, oo .imul 36, oo (.iload_n 2) 37, oo .iadd 38, oo (.aload_n 0) 39, of (.getfield 119) 42 12 50, nn, nn, oo (.iload_n 2) 43, oo .iaload 44, oo .iastore 45, oo (.iinc 2 1) 48, nn, nn],
  [oj (.goto (-28)) 51 20, nn, nn, oo (.iconst 1) 52, oo .ireturn 53, nn, nn, nn, nn, nn, nn, nn, nn, nn, nn, nn]])
def P_X12_hold : List (List (List Nat)) := [[[],[],[],[1489,1490],[],[],[],[],[],[],[],[],[1219],[],[],[]], [[],[],[],[],[],[],[],[],[],[],[],[],[1220],[],[],[]], [[],[],[],[],[],[],[],[1201],[],[],[],[],[],[],[],[]], [[],[],[],[],[],[],[],[],[],[],[],[],[],[],[],[]]]
set_option maxRecDepth 100000 in
theorem kT_X12_hold : ab_okT M_X12_hold := ab_okT_of (P := P_X12_hold) 64 (Nat.le_of_ble_eq_true rfl) (fun pc h => ab_chkR_of (lo := 0) (len := 64) (by decide +kernel) pc (Nat.zero_le _) (by omega))
theorem kY_X12_hold : ab_okY M_X12_hold := ab_okY_of 1784 124 (by decide +kernel)
def M_X12_restore : ab_M := (yX12_restore, cX12_restore, 3, (some .boolean), 12, 1, [
  [oo (.iload_n 1) 1, oo (.iconst 0) 2, oo (.iconst 2) 3, om (.invokestatic 327) 6 0 yX12_in, nn, nn, oj (.ifCond .eq 12) 9 18, nn, nn, oo (.aload_n 0) 10, of (.getfield 152) 13 12 68, nn, nn, oo (.iload_n 1) 14, oo .baload 15, oj (.ifCond .ne 5) 18 20],
  [nn, nn, oo (.iconst 0) 19, oo .ireturn 20, oo (.iconst 0) 21, oo (.istore_n 2) 22, oo (.iload_n 2) 23, oo (.sipush 141) 26, nn, nn, oj (.if_icmp .ge 27) 29 53, nn, nn, oo (.aload_n 0) 30, of (.getfield 119) 33 12 50, nn],
  [nn, oo (.iload_n 2) 34, oo (.aload_n 0) 35, of (.getfield 155) 38 12 69, nn, nn, oo (.sipush 141) 41, nn, nn, oo (.iload_n 1) 42, oo .imul 43, oo (.iload_n 2) 44, oo .iadd 45, oo .iaload 46, oo .iastore 47, oo (.iinc 2 1) 50],
  [nn, nn, oj (.goto (-28)) 53 22, nn, nn, oo (.aload_n 0) 54, oo (.iconst 0) 55, of (.putfield 254) 58 12 58, nn, nn, oo (.iconst 1) 59, oo .ireturn 60, nn, nn, nn, nn]])
def P_X12_restore : List (List (List Nat)) := [[[],[],[],[1489,1490],[],[],[],[],[],[],[1219],[],[],[],[],[]], [[],[],[],[],[],[],[],[],[],[],[],[],[],[],[1201],[]], [[],[],[],[1220],[],[],[],[],[],[],[],[],[],[],[],[]], [[],[],[],[],[],[],[],[1209],[],[],[],[],[],[],[],[]]]
set_option maxRecDepth 100000 in
theorem kT_X12_restore : ab_okT M_X12_restore := ab_okT_of (P := P_X12_restore) 64 (Nat.le_of_ble_eq_true rfl) (fun pc h => ab_chkR_of (lo := 0) (len := 64) (by decide +kernel) pc (Nat.zero_le _) (by omega))
theorem kY_X12_restore : ab_okY M_X12_restore := ab_okY_of 1788 124 (by decide +kernel)
def M_X12_count : ab_M := (yX12_count, cX12_count, 4, (some .int), 12, 1, [
  [oo (.aload_n 0) 1, om (.invokevirtual 341) 4 0 yX12_copies, nn, nn, oo (.iconst 0) 5, oo (.istore_n 2) 6, oo (.iload_n 1) 7, oo (.tableswitch 329 0 14 #[73, 83, 88, 98, 108, 117, 122, 133, 164, 169, 174, 179, 224, 237, 279]) 80, nn, nn, nn, nn, nn, nn, nn, nn],
  [nn, nn, nn, nn, nn, nn, nn, nn, nn, nn, nn, nn, nn, nn, nn, nn],
  [nn, nn, nn, nn, nn, nn, nn, nn, nn, nn, nn, nn, nn, nn, nn, nn],
  [nn, nn, nn, nn, nn, nn, nn, nn, nn, nn, nn, nn, nn, nn, nn, nn],
  [nn, nn, nn, nn, nn, nn, nn, nn, nn, nn, nn, nn, nn, nn, nn, nn],
  [oo (.aload_n 0) 81, of (.getfield 40) 84 12 20, nn, nn, oo (.aload_n 0) 85, of (.getfield 239) 88 12 18, nn, nn, oo .iaload 89, oo .ireturn 90, oo (.aload_n 0) 91, of (.getfield 324) 94 12 54, nn, nn, oo .ireturn 95, oo (.aload_n 0) 96],
  [of (.getfield 52) 99 12 24, nn, nn, oo (.aload_n 0) 100, of (.getfield 239) 103 12 18, nn, nn, oo .iaload 104, oo .ireturn 105, oo (.aload_n 0) 106, of (.getfield 58) 109 12 26, nn, nn, oo (.aload_n 0) 110, of (.getfield 239) 113 12 18, nn],
  [nn, oo .iaload 114, oo .ireturn 115, oo (.aload_n 0) 116, of (.getfield 122) 119 12 51, nn, nn, oo (.sipush 140) 122, nn, nn, oo .iaload 123, oo .ireturn 124, oo (.aload_n 0) 125, om (.invokevirtual 483) 128 0 yX12_lieMany, nn, nn],
  [oo .ireturn 129, oo (.aload_n 0) 130, oo (.iconst (-1)) 131, oo (.iconst (-1)) 132, om (.invokevirtual 443) 135 0 yX12_fillsCells, nn, nn, oo (.aload_n 0) 136, of (.getfield 437) 139 12 60, nn, nn, oo .ireturn 140, oo (.iconst 0) 141, oo (.istore_n 3) 142, oo (.iload_n 3) 143, oo (.aload_n 0) 144],
  [of (.getfield 58) 147 12 26, nn, nn, oo (.aload_n 0) 148, of (.getfield 239) 151 12 18, nn, nn, oo .iaload 152, oj (.if_icmp .ge 17) 155 169, nn, nn, oo (.iload_n 2) 156, oo (.aload_n 0) 157, oo (.iload_n 3) 158, om (.invokevirtual 415) 161 0 yX12_owedTo, nn],
  [nn, oo .iadd 162, oo (.istore_n 2) 163, oo (.iinc 3 1) 166, nn, nn, oj (.goto (-24)) 169 142, nn, nn, oo (.iload_n 2) 170, oo .ireturn 171, oo (.aload_n 0) 172, of (.getfield 172) 175 12 2, nn, nn, oo .ireturn 176],
  [oo (.aload_n 0) 177, of (.getfield 254) 180 12 58, nn, nn, oo .ireturn 181, oo (.aload_n 0) 182, of (.getfield 257) 185 12 65, nn, nn, oo .ireturn 186, oo (.aload_n 0) 187, of (.getfield 152) 190 12 68, nn, nn, oo (.iconst 0) 191, oo .baload 192],
  [oj (.ifCond .eq 7) 195 199, nn, nn, oo (.iconst 1) 196, oj (.goto 4) 199 200, nn, nn, oo (.iconst 0) 200, oo (.aload_n 0) 201, of (.getfield 152) 204 12 68, nn, nn, oo (.iconst 1) 205, oo .baload 206, oj (.ifCond .eq 7) 209 213, nn],
  [nn, oo (.iconst 1) 210, oj (.goto 4) 213 214, nn, nn, oo (.iconst 0) 214, oo .iadd 215, oo (.aload_n 0) 216, of (.getfield 152) 219 12 68, nn, nn, oo (.iconst 2) 220, oo .baload 221, oj (.ifCond .eq 7) 224 228, nn, nn],
  [oo (.iconst 1) 225, oj (.goto 4) 228 229, nn, nn, oo (.iconst 0) 229, oo .iadd 230, oo .ireturn 231, oo (.aload_n 0) 232, om (.invokevirtual 381) 235 0 yX12_isRain, nn, nn, oj (.ifCond .eq 7) 238 242, nn, nn, oo (.iconst 1) 239, oj (.goto 4) 242 243],
  [nn, nn, oo (.iconst 0) 243, oo .ireturn 244, oo (.iconst 0) 245, oo (.istore_n 3) 246, oo (.iload_n 3) 247, oo (.aload_n 0) 248, of (.getfield 58) 251 12 26, nn, nn, oo (.aload_n 0) 252, of (.getfield 239) 255 12 18, nn, nn, oo .iaload 256],
  [oj (.if_icmp .ge 28) 259 284, nn, nn, oo (.aload_n 0) 260, of (.getfield 122) 263 12 51, nn, nn, oo (.sipush 136) 266, nn, nn, oo (.iload_n 3) 267, oo .iadd 268, oo .iaload 269, oj (.ifCond .lt 9) 272 278, nn, nn],
  [oo (.iload_n 2) 273, oo (.iconst 1) 274, oo (.iload_n 3) 275, oo .ishl 276, oo .ior 277, oo (.istore_n 2) 278, oo (.iinc 3 1) 281, nn, nn, oj (.goto (-35)) 284 246, nn, nn, oo (.iload_n 2) 285, oo .ireturn 286, oo (.iconst 0) 287, oo (.istore_n 3) 288],
  [oo (.iload_n 3) 289, oo (.aload_n 0) 290, of (.getfield 58) 293 12 26, nn, nn, oo (.aload_n 0) 294, of (.getfield 239) 297 12 18, nn, nn, oo .iaload 298, oj (.if_icmp .ge 36) 301 334, nn, nn, oo (.aload_n 0) 302, oo (.iload_n 3) 303, om (.invokevirtual 372) 306 0 yX12_inHat],
  [nn, nn, oo (.aload_n 0) 307, of (.getfield 70) 310 12 30, nn, nn, oo (.iconst 4) 311, oo (.aload_n 0) 312, of (.getfield 239) 315 12 18, nn, nn, oo .imul 316, oo (.iload_n 3) 317, oo .iadd 318, oo .iaload 319, oj (.if_icmp .ne 9) 322 328],
  [nn, nn, oo (.iload_n 2) 323, oo (.iconst 1) 324, oo (.iload_n 3) 325, oo .ishl 326, oo .ior 327, oo (.istore_n 2) 328, oo (.iinc 3 1) 331, nn, nn, oj (.goto (-43)) 334 288, nn, nn, oo (.iload_n 2) 335, oo .ireturn 336],
  [oo (.iconst (-1)) 337, oo .ireturn 338, nn, nn, nn, nn, nn, nn, nn, nn, nn, nn, nn, nn, nn, nn]])
def P_X12_count : List (List (List Nat)) := [[[],[1492,1494,65],[],[],[],[],[],[],[],[],[],[],[],[],[],[]], [[],[],[],[],[],[],[],[],[],[],[],[],[],[],[],[]], [[],[],[],[],[],[],[],[],[],[],[],[],[],[],[],[]], [[],[],[],[],[],[],[],[],[],[],[],[],[],[],[],[]], [[],[],[],[],[],[],[],[],[],[],[],[],[],[],[],[]], [[],[1171],[],[],[],[1169],[],[],[],[],[],[1205],[],[],[],[]], [[1175],[],[],[],[1169],[],[],[],[],[],[1177],[],[],[],[1169],[]], [[],[],[],[],[1202],[],[],[],[],[],[],[],[],[1741,1743,101],[],[]], [[],[],[],[],[1647,1649,90],[],[],[],[1211],[],[],[],[],[],[],[]], [[1177],[],[],[],[1169],[],[],[],[],[],[],[],[],[],[1555,1557,79],[]], [[],[],[],[],[],[],[],[],[],[],[],[],[1153],[],[],[]], [[],[1209],[],[],[],[],[1216],[],[],[],[],[1219],[],[],[],[]], [[],[],[],[],[],[],[],[],[],[1219],[],[],[],[],[],[]], [[],[],[],[],[],[],[],[],[1219],[],[],[],[],[],[],[]], [[],[],[],[],[],[],[],[],[1621,1623,89],[],[],[],[],[],[],[]], [[],[],[],[],[],[],[],[],[1177],[],[],[],[1169],[],[],[]], [[],[],[],[],[1202],[],[],[],[],[],[],[],[],[],[],[]], [[],[],[],[],[],[],[],[],[],[],[],[],[],[],[],[]], [[],[],[1177],[],[],[],[1169],[],[],[],[],[],[],[],[],[1551,1553,78]], [[],[],[],[1181],[],[],[],[],[1169],[],[],[],[],[],[],[]], [[],[],[],[],[],[],[],[],[],[],[],[],[],[],[],[]], [[],[],[],[],[],[],[],[],[],[],[],[],[],[],[],[]]]
set_option maxRecDepth 100000 in
theorem kT_X12_count : ab_okT M_X12_count := ab_okT_of (P := P_X12_count) 352 (Nat.le_of_ble_eq_true rfl) (fun pc h => ab_chkR_of (lo := 0) (len := 352) (by decide +kernel) pc (Nat.zero_le _) (by omega))
theorem kY_X12_count : ab_okY M_X12_count := ab_okY_of 1792 124 (by decide +kernel)
