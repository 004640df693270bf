def M_X3_init : ab_M := (yX3_init, cX3_init, 1, none, 3, 0, [
  [oo (.aload_n 0) 1, om (.invokespecial 3) 4 0 Lib.objectInit, nn, nn, oo (.aload_n 0) 5, of (.new 9) 8 6 0, nn, nn, oo .dup 9, om (.invokespecial 11) 12 0 yX6_init, nn, nn, of (.putfield 12) 15 3 1, nn, nn, oo .return_ 16]])
def P_X3_init : List (List (List Nat)) := [[[],[155,132],[],[],[],[156,157,108],[],[],[],[158,159],[],[],[237],[],[],[]]]
set_option maxRecDepth 100000 in
theorem kT_X3_init : ab_okT M_X3_init := ab_okT_of (P := P_X3_init) 16 (Nat.le_of_ble_eq_true rfl) (fun pc h => ab_chkR_of (lo := 0) (len := 16) (by decide +kernel) pc (Nat.zero_le _) (by omega))
theorem kY_X3_init : ab_okY M_X3_init := ab_okY_of 154 107 (by decide +kernel)
def M_X3_fill : ab_M := (yX3_fill, cX3_fill, 6, (some .int), 3, 2, [
  [oo (.aload_n 1) 1, om (.invokevirtual 18) 4 0 yX5_clear, nn, nn, oo (.aload_n 0) 5, oo (.iconst 0) 6, of (.putfield 23) 9 3 2, nn, nn, oo (.aload_n 0) 10, oo (.iconst 0) 11, of (.putfield 27) 14 3 3, nn, nn, oo (.aload_n 0) 15, oo (.iconst 0) 16],
  [of (.putfield 30) 19 3 4, nn, nn, oo (.aload_n 0) 20, of (.getfield 12) 23 3 1, nn, nn, oo (.aload_n 2) 24, om (.invokevirtual 33) 27 0 yX6_split, nn, nn, oo (.iconst 1) 28, oo (.istore_n 3) 29, oo (.iconst 0) 30, oo (.istore 4) 32, nn],
  [oo (.iload 4) 34, nn, oo (.sipush 400) 37, nn, nn, oj (.if_icmp .gt 57) 40 94, nn, nn, oo (.iload_n 3) 41, oj (.ifCond .eq 53) 44 94, nn, nn, oo (.aload_n 0) 45, om (.invokevirtual 37) 48 0 yX3_kindNow, nn, nn],
  [oj (.ifCond .eq 46) 51 94, nn, nn, oo (.aload_n 0) 52, om (.invokevirtual 37) 55 0 yX3_kindNow, nn, nn, oo (.sipush 259) 58, nn, nn, oo .isub 59, oo (.istore 5) 61, nn, oo (.iload 5) 63, nn, oj (.ifCond .lt 19) 66 82],
  [nn, nn, oo (.iload 5) 68, nn, oo (.iconst 3) 69, oj (.if_icmp .ge 13) 72 82, nn, nn, oo (.aload_n 0) 73, oo (.aload_n 1) 74, oo (.iload 5) 76, nn, om (.invokevirtual 41) 79 0 yX3_lawTold, nn, nn, oj (.goto 8) 82 87],
  [nn, nn, oo (.aload_n 0) 83, oo (.aload_n 1) 84, om (.invokevirtual 45) 87 0 yX3_plainTold, nn, nn, oo (.istore_n 3) 88, oo (.iinc 4 1) 91, nn, nn, oj (.goto (-59)) 94 32, nn, nn, oo (.aload_n 0) 95, of (.getfield 27) 98 3 3],
  [nn, nn, oj (.ifCond .ne 26) 101 124, nn, nn, oo (.aload_n 0) 102, of (.getfield 30) 105 3 4, nn, nn, oj (.ifCond .eq 19) 108 124, nn, nn, oo (.aload_n 0) 109, oo (.aload_n 0) 110, of (.getfield 30) 113 3 4, nn],
  [nn, of (.putfield 27) 116 3 3, nn, nn, oo (.aload_n 0) 117, oo (.aload_n 0) 118, of (.getfield 49) 121 3 5, nn, nn, of (.putfield 52) 124 3 0, nn, nn, oo (.aload_n 0) 125, of (.getfield 27) 128 3 3, nn, nn],
  [oo .ireturn 129, nn, nn, nn, nn, nn, nn, nn, nn, nn, nn, nn, nn, nn, nn, nn]])
def P_X3_fill : List (List (List Nat)) := [[[],[589,268,269],[],[],[],[],[238],[],[],[],[],[239],[],[],[],[]], [[240],[],[],[],[237],[],[],[],[590,591,592],[],[],[],[],[],[],[]], [[],[],[],[],[],[],[],[],[],[],[],[],[],[622,624,3],[],[]], [[],[],[],[],[622,624,3],[],[],[],[],[],[],[],[],[],[],[]], [[],[],[],[],[],[],[],[],[],[],[],[],[626,628,4],[],[],[]], [[],[],[],[],[663,665,12],[],[],[],[],[],[],[],[],[],[],[239]], [[],[],[],[],[],[],[240],[],[],[],[],[],[],[],[240],[]], [[],[239],[],[],[],[],[241],[],[],[235],[],[],[],[239],[],[]], [[],[],[],[],[],[],[],[],[],[],[],[],[],[],[],[]]]
set_option maxRecDepth 100000 in
theorem kT_X3_fill : ab_okT M_X3_fill := ab_okT_of (P := P_X3_fill) 144 (Nat.le_of_ble_eq_true rfl) (fun pc h => ab_chkR_of (lo := 0) (len := 144) (by decide +kernel) pc (Nat.zero_le _) (by omega))
theorem kY_X3_fill : ab_okY M_X3_fill := ab_okY_of 588 107 (by decide +kernel)
def M_X3_plainTold : ab_M := (yX3_plainTold, cX3_plainTold, 2, (some .boolean), 3, 1, [
  [oo (.aload_n 0) 1, om (.invokevirtual 37) 4 0 yX3_kindNow, nn, nn, oo (.tableswitch 88 256 264 #[52, 58, 64, 88, 88, 88, 70, 76, 82]) 56, nn, nn, nn, nn, nn, nn, nn, nn, nn, nn, nn],
  [nn, nn, nn, nn, nn, nn, nn, nn, nn, nn, nn, nn, nn, nn, nn, nn],
  [nn, nn, nn, nn, nn, nn, nn, nn, nn, nn, nn, nn, nn, nn, nn, nn],
  [nn, nn, nn, nn, nn, nn, nn, nn, oo (.aload_n 0) 57, oo (.aload_n 1) 58, om (.invokevirtual 55) 61 0 yX3_letterTold, nn, nn, oo .ireturn 62, oo (.aload_n 0) 63, oo (.aload_n 1) 64],
  [om (.invokevirtual 58) 67 0 yX3_wordTold, nn, nn, oo .ireturn 68, oo (.aload_n 0) 69, oo (.aload_n 1) 70, om (.invokevirtual 61) 73 0 yX3_pickerTold, nn, nn, oo .ireturn 74, oo (.aload_n 0) 75, oo (.aload_n 1) 76, om (.invokevirtual 64) 79 0 yX3_windTold, nn, nn, oo .ireturn 80],
  [oo (.aload_n 0) 81, oo (.aload_n 1) 82, om (.invokevirtual 67) 85 0 yX3_rainTold, nn, nn, oo .ireturn 86, oo (.aload_n 0) 87, oo (.aload_n 1) 88, om (.invokevirtual 70) 91 0 yX3_seedTold, nn, nn, oo .ireturn 92, oo (.aload_n 0) 93, oo (.iconst 1) 94, om (.invokevirtual 73) 97 0 yX3_stop, nn],
  [nn, oo .ireturn 98, nn, nn, nn, nn, nn, nn, nn, nn, nn, nn, nn, nn, nn, nn]])
def P_X3_plainTold : List (List (List Nat)) := [[[],[622,624,3],[],[],[],[],[],[],[],[],[],[],[],[],[],[]], [[],[],[],[],[],[],[],[],[],[],[],[],[],[],[],[]], [[],[],[],[],[],[],[],[],[],[],[],[],[],[],[],[]], [[],[],[],[],[],[],[],[],[],[],[667,669,13],[],[],[],[],[]], [[694,696,17],[],[],[],[],[],[702,704,18],[],[],[],[],[],[710,712,19],[],[],[]], [[],[],[718,720,21],[],[],[],[],[],[722,724,22],[],[],[],[],[],[634,636,6],[]], [[],[],[],[],[],[],[],[],[],[],[],[],[],[],[],[]]]
set_option maxRecDepth 100000 in
theorem kT_X3_plainTold : ab_okT M_X3_plainTold := ab_okT_of (P := P_X3_plainTold) 112 (Nat.le_of_ble_eq_true rfl) (fun pc h => ab_chkR_of (lo := 0) (len := 112) (by decide +kernel) pc (Nat.zero_le _) (by omega))
theorem kY_X3_plainTold : ab_okY M_X3_plainTold := ab_okY_of 666 107 (by decide +kernel)
def M_X3_letterTold : ab_M := (yX3_letterTold, cX3_letterTold, 3, (some .boolean), 3, 1, [
  [oo (.aload_n 1) 1, of (.getfield 77) 4 5 0, nn, nn, oo (.iconst 4) 5, oj (.if_icmp .lt 9) 8 14, nn, nn, oo (.aload_n 0) 9, oo (.iconst 2) 10, om (.invokevirtual 73) 13 0 yX3_stop, nn, nn, oo .ireturn 14, oo (.aload_n 0) 15, oo (.sipush 256) 18],
  [nn, nn, om (.invokevirtual 80) 21 0 yX3_take, nn, nn, oj (.ifCond .eq 28) 24 49, nn, nn, oo (.aload_n 0) 25, oo (.aload_n 1) 26, of (.getfield 83) 29 5 4, nn, nn, oo (.aload_n 1) 30, of (.getfield 77) 33 5 0, nn],
  [nn, om (.invokevirtual 87) 36 0 yX3_takeName, nn, nn, oj (.ifCond .eq 13) 39 49, nn, nn, oo (.aload_n 0) 40, oo (.iconst 0) 41, oo (.bipush 9) 43, nn, om (.invokevirtual 91) 46 0 yX3_takeInt, nn, nn, oj (.ifCond .ne 5) 49 51, nn],
  [nn, oo (.iconst 0) 50, oo .ireturn 51, oo (.aload_n 0) 52, of (.getfield 95) 55 3 6, nn, nn, oo (.istore_n 2) 56, oo (.aload_n 0) 57, oo (.iconst 0) 58, oo (.bipush 7) 60, nn, om (.invokevirtual 91) 63 0 yX3_takeInt, nn, nn, oj (.ifCond .eq 12) 66 75],
  [nn, nn, oo (.aload_n 0) 67, oo (.bipush 59) 69, nn, om (.invokevirtual 80) 72 0 yX3_take, nn, nn, oj (.ifCond .ne 5) 75 77, nn, nn, oo (.iconst 0) 76, oo .ireturn 77, oo (.aload_n 1) 78, oo (.aload_n 0) 79, of (.getfield 98) 82 3 7],
  [nn, nn, oo (.iload_n 2) 83, oo (.aload_n 0) 84, of (.getfield 95) 87 3 6, nn, nn, om (.invokevirtual 102) 90 0 yX5_addLetter, nn, nn, oo (.iconst 1) 91, oo .ireturn 92, nn, nn, nn, nn]])
def P_X3_letterTold : List (List (List Nat)) := [[[],[276],[],[],[],[],[],[],[],[],[634,636,6],[],[],[],[],[]], [[],[],[630,632,5],[],[],[],[],[],[],[],[291],[],[],[],[276],[]], [[],[671,673,14],[],[],[],[],[],[],[],[],[],[679,681,16],[],[],[],[]], [[],[],[],[],[242],[],[],[],[],[],[],[],[679,681,16],[],[],[]], [[],[],[],[],[],[630,632,5],[],[],[],[],[],[],[],[],[],[243]], [[],[],[],[],[242],[],[],[683,684,685],[],[],[],[],[],[],[],[]]]
set_option maxRecDepth 100000 in
theorem kT_X3_letterTold : ab_okT M_X3_letterTold := ab_okT_of (P := P_X3_letterTold) 96 (Nat.le_of_ble_eq_true rfl) (fun pc h => ab_chkR_of (lo := 0) (len := 96) (by decide +kernel) pc (Nat.zero_le _) (by omega))
theorem kY_X3_letterTold : ab_okY M_X3_letterTold := ab_okY_of 670 107 (by decide +kernel)
def M_X3_wordTold : ab_M := (yX3_wordTold, cX3_wordTold, 2, (some .boolean), 3, 1, [
  [oo (.aload_n 1) 1, of (.getfield 106) 4 5 1, nn, nn, oo (.bipush 8) 6, nn, oj (.if_icmp .lt 9) 9 15, nn, nn, oo (.aload_n 0) 10, oo (.iconst 2) 11, om (.invokevirtual 73) 14 0 yX3_stop, nn, nn, oo .ireturn 15, oo (.aload_n 0) 16],
  [oo (.sipush 257) 19, nn, nn, om (.invokevirtual 80) 22 0 yX3_take, nn, nn, oj (.ifCond .eq 27) 25 49, nn, nn, oo (.aload_n 0) 26, oo (.aload_n 1) 27, of (.getfield 109) 30 5 5, nn, nn, oo (.aload_n 1) 31, of (.getfield 106) 34 5 1],
  [nn, nn, om (.invokevirtual 87) 37 0 yX3_takeName, nn, nn, oj (.ifCond .eq 12) 40 49, nn, nn, oo (.aload_n 0) 41, oo (.bipush 59) 43, nn, om (.invokevirtual 80) 46 0 yX3_take, nn, nn, oj (.ifCond .ne 5) 49 51, nn],
  [nn, oo (.iconst 0) 50, oo .ireturn 51, oo (.aload_n 1) 52, oo (.aload_n 0) 53, of (.getfield 98) 56 3 7, nn, nn, om (.invokevirtual 112) 59 0 yX5_addWord, nn, nn, oo (.iconst 1) 60, oo .ireturn 61, nn, nn, nn]])
def P_X3_wordTold : List (List (List Nat)) := [[[],[281],[],[],[],[],[],[],[],[],[],[634,636,6],[],[],[],[]], [[],[],[],[630,632,5],[],[],[],[],[],[],[],[295],[],[],[],[281]], [[],[],[671,673,14],[],[],[],[],[],[],[],[],[630,632,5],[],[],[],[]], [[],[],[],[],[],[243],[],[],[698,699,700],[],[],[],[],[],[],[]]]
set_option maxRecDepth 100000 in
theorem kT_X3_wordTold : ab_okT M_X3_wordTold := ab_okT_of (P := P_X3_wordTold) 64 (Nat.le_of_ble_eq_true rfl) (fun pc h => ab_chkR_of (lo := 0) (len := 64) (by decide +kernel) pc (Nat.zero_le _) (by omega))
theorem kY_X3_wordTold : ab_okY M_X3_wordTold := ab_okY_of 697 107 (by decide +kernel)
def M_X3_pickerTold : ab_M := (yX3_pickerTold, cX3_pickerTold, 4, (some .boolean), 3, 1, [
  [oo (.aload_n 1) 1, of (.getfield 116) 4 5 2, nn, nn, oo (.iconst 4) 5, oj (.if_icmp .lt 9) 8 14, nn, nn, oo (.aload_n 0) 9, oo (.iconst 2) 10, om (.invokevirtual 73) 13 0 yX3_stop, nn, nn, oo .ireturn 14, oo (.aload_n 0) 15, oo (.sipush 258) 18],
  [nn, nn, om (.invokevirtual 80) 21 0 yX3_take, nn, nn, oj (.ifCond .eq 28) 24 49, nn, nn, oo (.aload_n 0) 25, oo (.aload_n 1) 26, of (.getfield 119) 29 5 6, nn, nn, oo (.aload_n 1) 30, of (.getfield 116) 33 5 2, nn],
  [nn, om (.invokevirtual 87) 36 0 yX3_takeName, nn, nn, oj (.ifCond .eq 13) 39 49, nn, nn, oo (.aload_n 0) 40, oo (.iconst 0) 41, oo (.bipush 9) 43, nn, om (.invokevirtual 91) 46 0 yX3_takeInt, nn, nn, oj (.ifCond .ne 5) 49 51, nn],
  [nn, oo (.iconst 0) 50, oo .ireturn 51, oo (.aload_n 0) 52, of (.getfield 95) 55 3 6, nn, nn, oo (.istore_n 2) 56, oo (.aload_n 0) 57, oo (.iconst 0) 58, oo (.bipush 7) 60, nn, om (.invokevirtual 91) 63 0 yX3_takeInt, nn, nn, oj (.ifCond .ne 5) 66 68],
  [nn, nn, oo (.iconst 0) 67, oo .ireturn 68, oo (.aload_n 0) 69, of (.getfield 95) 72 3 6, nn, nn, oo (.istore_n 3) 73, oo (.aload_n 0) 74, oo (.iconst 1) 75, oo (.bipush 32) 77, nn, om (.invokevirtual 91) 80 0 yX3_takeInt, nn, nn],
  [oj (.ifCond .eq 12) 83 92, nn, nn, oo (.aload_n 0) 84, oo (.bipush 59) 86, nn, om (.invokevirtual 80) 89 0 yX3_take, nn, nn, oj (.ifCond .ne 5) 92 94, nn, nn, oo (.iconst 0) 93, oo .ireturn 94, oo (.aload_n 1) 95, oo (.aload_n 0) 96],
  [of (.getfield 98) 99 3 7, nn, nn, oo (.bipush 10) 101, nn, oo (.iload_n 3) 102, oo .imul 103, oo (.iload_n 2) 104, oo .iadd 105, oo (.aload_n 0) 106, of (.getfield 95) 109 3 6, nn, nn, om (.invokevirtual 122) 112 0 yX5_addPicker, nn, nn],
  [oo (.iconst 1) 113, oo .ireturn 114, nn, nn, nn, nn, nn, nn, nn, nn, nn, nn, nn, nn, nn, nn]])
def P_X3_pickerTold : List (List (List Nat)) := [[[],[285],[],[],[],[],[],[],[],[],[634,636,6],[],[],[],[],[]], [[],[],[630,632,5],[],[],[],[],[],[],[],[298],[],[],[],[285],[]], [[],[671,673,14],[],[],[],[],[],[],[],[],[],[679,681,16],[],[],[],[]], [[],[],[],[],[242],[],[],[],[],[],[],[],[679,681,16],[],[],[]], [[],[],[],[],[],[242],[],[],[],[],[],[],[],[679,681,16],[],[]], [[],[],[],[],[],[],[630,632,5],[],[],[],[],[],[],[],[],[]], [[243],[],[],[],[],[],[],[],[],[],[242],[],[],[706,707,708],[],[]], [[],[],[],[],[],[],[],[],[],[],[],[],[],[],[],[]]]
set_option maxRecDepth 100000 in
theorem kT_X3_pickerTold : ab_okT M_X3_pickerTold := ab_okT_of (P := P_X3_pickerTold) 128 (Nat.le_of_ble_eq_true rfl) (fun pc h => ab_chkR_of (lo := 0) (len := 128) (by decide +kernel) pc (Nat.zero_le _) (by omega))
theorem kY_X3_pickerTold : ab_okY M_X3_pickerTold := ab_okY_of 705 107 (by decide +kernel)
def M_X3_windTold : ab_M := (yX3_windTold, cX3_windTold, 3, (some .boolean), 3, 1, [
  [oo (.aload_n 0) 1, oo (.sipush 262) 4, nn, nn, om (.invokevirtual 80) 7 0 yX3_take, nn, nn, oj (.ifCond .eq 10) 10 17, nn, nn, oo (.aload_n 0) 11, om (.invokevirtual 125) 14 0 yX3_takeStep, nn, nn, oj (.ifCond .ne 5) 17 19, nn],
  [nn, oo (.iconst 0) 18, oo .ireturn 19, oo (.aload_n 0) 20, of (.getfield 95) 23 3 6, nn, nn, oo (.istore_n 2) 24, oo (.aload_n 0) 25, om (.invokevirtual 125) 28 0 yX3_takeStep, nn, nn, oj (.ifCond .eq 12) 31 40, nn, nn, oo (.aload_n 0) 32],
  [oo (.bipush 59) 34, nn, om (.invokevirtual 80) 37 0 yX3_take, nn, nn, oj (.ifCond .ne 5) 40 42, nn, nn, oo (.iconst 0) 41, oo .ireturn 42, oo (.aload_n 1) 43, oo (.iload_n 2) 44, of (.putfield 129) 47 5 15, nn, nn, oo (.aload_n 1) 48],
  [oo (.aload_n 0) 49, of (.getfield 95) 52 3 6, nn, nn, of (.putfield 132) 55 5 16, nn, nn, oo (.iconst 1) 56, oo .ireturn 57, nn, nn, nn, nn, nn, nn, nn]])
def P_X3_windTold : List (List (List Nat)) := [[[],[],[],[],[630,632,5],[],[],[],[],[],[],[714,716,20],[],[],[],[]], [[],[],[],[],[242],[],[],[],[],[714,716,20],[],[],[],[],[],[]], [[],[],[630,632,5],[],[],[],[],[],[],[],[],[],[321],[],[],[]], [[],[242],[],[],[324],[],[],[],[],[],[],[],[],[],[],[]]]
set_option maxRecDepth 100000 in
theorem kT_X3_windTold : ab_okT M_X3_windTold := ab_okT_of (P := P_X3_windTold) 64 (Nat.le_of_ble_eq_true rfl) (fun pc h => ab_chkR_of (lo := 0) (len := 64) (by decide +kernel) pc (Nat.zero_le _) (by omega))
theorem kY_X3_windTold : ab_okY M_X3_windTold := ab_okY_of 713 107 (by decide +kernel)
def M_X3_rainTold : ab_M := (yX3_rainTold, cX3_rainTold, 2, (some .boolean), 3, 1, [
  [oo (.aload_n 0) 1, oo (.sipush 263) 4, nn, nn, om (.invokevirtual 80) 7 0 yX3_take, nn, nn, oj (.ifCond .eq 22) 10 29, nn, nn, oo (.aload_n 0) 11, oo (.iconst 0) 12, oo (.bipush 100) 14, nn, om (.invokevirtual 91) 17 0 yX3_takeInt, nn],
  [nn, oj (.ifCond .eq 12) 20 29, nn, nn, oo (.aload_n 0) 21, oo (.bipush 59) 23, nn, om (.invokevirtual 80) 26 0 yX3_take, nn, nn, oj (.ifCond .ne 5) 29 31, nn, nn, oo (.iconst 0) 30, oo .ireturn 31, oo (.aload_n 1) 32],
  [oo (.aload_n 0) 33, of (.getfield 95) 36 3 6, nn, nn, of (.putfield 135) 39 5 17, nn, nn, oo (.iconst 1) 40, oo .ireturn 41, nn, nn, nn, nn, nn, nn, nn]])
def P_X3_rainTold : List (List (List Nat)) := [[[],[],[],[],[630,632,5],[],[],[],[],[],[],[],[],[],[679,681,16],[]], [[],[],[],[],[],[],[],[630,632,5],[],[],[],[],[],[],[],[]], [[],[242],[],[],[327],[],[],[],[],[],[],[],[],[],[],[]]]
set_option maxRecDepth 100000 in
theorem kT_X3_rainTold : ab_okT M_X3_rainTold := ab_okT_of (P := P_X3_rainTold) 48 (Nat.le_of_ble_eq_true rfl) (fun pc h => ab_chkR_of (lo := 0) (len := 48) (by decide +kernel) pc (Nat.zero_le _) (by omega))
theorem kY_X3_rainTold : ab_okY M_X3_rainTold := ab_okY_of 721 107 (by decide +kernel)
def M_X3_seedTold : ab_M := (yX3_seedTold, cX3_seedTold, 2, (some .boolean), 3, 1, [
  [oo (.aload_n 0) 1, oo (.sipush 264) 4, nn, nn, om (.invokevirtual 80) 7 0 yX3_take, nn, nn, oj (.ifCond .eq 23) 10 30, nn, nn, oo (.aload_n 0) 11, oo (.iconst 0) 12, oo (.sipush 9999) 15, nn, nn, om (.invokevirtual 91) 18 0 yX3_takeInt],
  [nn, nn, oj (.ifCond .eq 12) 21 30, nn, nn, oo (.aload_n 0) 22, oo (.bipush 59) 24, nn, om (.invokevirtual 80) 27 0 yX3_take, nn, nn, oj (.ifCond .ne 5) 30 32, nn, nn, oo (.iconst 0) 31, oo .ireturn 32],
  [oo (.aload_n 1) 33, oo (.aload_n 0) 34, of (.getfield 95) 37 3 6, nn, nn, of (.putfield 138) 40 5 18, nn, nn, oo (.iconst 1) 41, oo .ireturn 42, nn, nn, nn, nn, nn, nn]])
def P_X3_seedTold : List (List (List Nat)) := [[[],[],[],[],[630,632,5],[],[],[],[],[],[],[],[],[],[],[679,681,16]], [[],[],[],[],[],[],[],[],[630,632,5],[],[],[],[],[],[],[]], [[],[],[242],[],[],[330],[],[],[],[],[],[],[],[],[],[]]]
set_option maxRecDepth 100000 in
theorem kT_X3_seedTold : ab_okT M_X3_seedTold := ab_okT_of (P := P_X3_seedTold) 48 (Nat.le_of_ble_eq_true rfl) (fun pc h => ab_chkR_of (lo := 0) (len := 48) (by decide +kernel) pc (Nat.zero_le _) (by omega))
theorem kY_X3_seedTold : ab_okY M_X3_seedTold := ab_okY_of 725 107 (by decide +kernel)
def M_X3_lawTold : ab_M := (yX3_lawTold, cX3_lawTold, 6, (some .boolean), 3, 2, [
  [oo (.aload_n 0) 1, oo (.sipush 259) 4, nn, nn, oo (.iload_n 2) 5, oo .iadd 6, om (.invokevirtual 80) 9 0 yX3_take, nn, nn, oj (.ifCond .eq 12) 12 21, nn, nn, oo (.aload_n 0) 13, oo (.bipush 61) 15, nn, om (.invokevirtual 80) 18 0 yX3_take],
  [nn, nn, oj (.ifCond .ne 5) 21 23, nn, nn, oo (.iconst 0) 22, oo .ireturn 23, oo (.aload_n 1) 24, of (.getfield 141) 27 5 14, nn, nn, oo (.istore_n 3) 28, oo (.iconst 1) 29, oo (.istore 4) 31, nn, oo (.iconst 0) 32],
  [oo (.istore 5) 34, nn, oo (.iload 5) 36, nn, oo (.iconst 4) 37, oj (.if_icmp .gt 45) 40 82, nn, nn, oo (.iload 4) 42, nn, oj (.ifCond .eq 40) 45 82, nn, nn, oo (.aload_n 0) 46, om (.invokevirtual 37) 49 0 yX3_kindNow, nn],
  [nn, oo (.sipush 265) 52, nn, nn, oj (.if_icmp .ne 30) 55 82, nn, nn, oo (.iload 5) 57, nn, oo (.iconst 4) 58, oj (.if_icmp .ne 11) 61 69, nn, nn, oo (.aload_n 0) 62, oo (.iconst 2) 63, om (.invokevirtual 73) 66 0 yX3_stop],
  [nn, nn, oj (.goto 8) 69 74, nn, nn, oo (.aload_n 0) 70, oo (.aload_n 1) 71, om (.invokevirtual 144) 74 0 yX3_ifTold, nn, nn, oo (.istore 4) 76, nn, oo (.iinc 5 1) 79, nn, nn, oj (.goto (-45)) 82 34],
  [nn, nn, oo (.iload 4) 84, nn, oj (.ifCond .eq 21) 87 105, nn, nn, oo (.aload_n 0) 88, oo (.aload_n 1) 89, oo (.iconst 0) 90, om (.invokevirtual 147) 93 0 yX3_sum, nn, nn, oj (.ifCond .eq 12) 96 105, nn, nn],
  [oo (.aload_n 0) 97, oo (.bipush 59) 99, nn, om (.invokevirtual 80) 102 0 yX3_take, nn, nn, oj (.ifCond .ne 5) 105 107, nn, nn, oo (.iconst 0) 106, oo .ireturn 107, oo (.aload_n 1) 108, oo (.bipush (-6)) 110, nn, om (.invokevirtual 150) 113 0 yX5_addCode, nn],
  [nn, oo (.aload_n 1) 114, of (.getfield 154) 117 5 13, nn, nn, oo (.iload_n 2) 118, oo (.iload_n 3) 119, oo .iastore 120, oo (.iconst 1) 121, oo .ireturn 122, nn, nn, nn, nn, nn, nn]])
def P_X3_lawTold : List (List (List Nat)) := [[[],[],[],[],[],[],[630,632,5],[],[],[],[],[],[],[],[],[630,632,5]], [[],[],[],[],[],[],[],[],[319],[],[],[],[],[],[],[]], [[],[],[],[],[],[],[],[],[],[],[],[],[],[],[622,624,3],[]], [[],[],[],[],[],[],[],[],[],[],[],[],[],[],[],[634,636,6]], [[],[],[],[],[],[],[],[638,640,7],[],[],[],[],[],[],[],[]], [[],[],[],[],[],[],[],[],[],[],[642,644,8],[],[],[],[],[]], [[],[],[],[630,632,5],[],[],[],[],[],[],[],[],[],[],[654,272,273],[]], [[],[],[317],[],[],[],[],[],[],[],[],[],[],[],[],[]]]
set_option maxRecDepth 100000 in
theorem kT_X3_lawTold : ab_okT M_X3_lawTold := ab_okT_of (P := P_X3_lawTold) 128 (Nat.le_of_ble_eq_true rfl) (fun pc h => ab_chkR_of (lo := 0) (len := 128) (by decide +kernel) pc (Nat.zero_le _) (by omega))
theorem kY_X3_lawTold : ab_okY M_X3_lawTold := ab_okY_of 629 107 (by decide +kernel)
def M_X3_ifTold : ab_M := (yX3_ifTold, cX3_ifTold, 3, (some .boolean), 3, 1, [
  [oo (.aload_n 0) 1, oo (.sipush 265) 4, nn, nn, om (.invokevirtual 80) 7 0 yX3_take, nn, nn, oj (.ifCond .eq 40) 10 47, nn, nn, oo (.aload_n 0) 11, oo (.aload_n 1) 12, oo (.iconst 0) 13, om (.invokevirtual 147) 16 0 yX3_sum, nn, nn],
  [oj (.ifCond .eq 31) 19 47, nn, nn, oo (.aload_n 0) 20, oo (.bipush 60) 22, nn, om (.invokevirtual 80) 25 0 yX3_take, nn, nn, oj (.ifCond .eq 22) 28 47, nn, nn, oo (.aload_n 0) 29, oo (.aload_n 1) 30, oo (.iconst 0) 31, om (.invokevirtual 147) 34 0 yX3_sum],
  [nn, nn, oj (.ifCond .eq 13) 37 47, nn, nn, oo (.aload_n 0) 38, oo (.sipush 266) 41, nn, nn, om (.invokevirtual 80) 44 0 yX3_take, nn, nn, oj (.ifCond .ne 5) 47 49, nn, nn, oo (.iconst 0) 48],
  [oo .ireturn 49, oo (.aload_n 1) 50, oo (.bipush (-5)) 52, nn, om (.invokevirtual 150) 55 0 yX5_addCode, nn, nn, oo (.aload_n 1) 56, of (.getfield 141) 59 5 14, nn, nn, oo (.istore_n 2) 60, oo (.aload_n 1) 61, oo (.iconst 0) 62, om (.invokevirtual 150) 65 0 yX5_addCode, nn],
  [nn, oo (.aload_n 0) 66, oo (.aload_n 1) 67, oo (.iconst 0) 68, om (.invokevirtual 147) 71 0 yX3_sum, nn, nn, oj (.ifCond .eq 13) 74 84, nn, nn, oo (.aload_n 0) 75, oo (.sipush 267) 78, nn, nn, om (.invokevirtual 80) 81 0 yX3_take, nn],
  [nn, oj (.ifCond .ne 5) 84 86, nn, nn, oo (.iconst 0) 85, oo .ireturn 86, oo (.aload_n 1) 87, oo (.bipush (-6)) 89, nn, om (.invokevirtual 150) 92 0 yX5_addCode, nn, nn, oo (.aload_n 1) 93, oo (.iload_n 2) 94, oo (.aload_n 1) 95, of (.getfield 141) 98 5 14],
  [nn, nn, om (.invokevirtual 158) 101 0 yX5_setCode, nn, nn, oo (.iconst 1) 102, oo .ireturn 103, nn, nn, nn, nn, nn, nn, nn, nn, nn]])
def P_X3_ifTold : List (List (List Nat)) := [[[],[],[],[],[630,632,5],[],[],[],[],[],[],[],[],[642,644,8],[],[]], [[],[],[],[],[],[],[630,632,5],[],[],[],[],[],[],[],[],[642,644,8]], [[],[],[],[],[],[],[],[],[],[630,632,5],[],[],[],[],[],[]], [[],[],[],[],[654,272,273],[],[],[],[319],[],[],[],[],[],[654,272,273],[]], [[],[],[],[],[642,644,8],[],[],[],[],[],[],[],[],[],[630,632,5],[]], [[],[],[],[],[],[],[],[],[],[654,272,273],[],[],[],[],[],[319]], [[],[],[659,660,661],[],[],[],[],[],[],[],[],[],[],[],[],[]]]
set_option maxRecDepth 100000 in
theorem kT_X3_ifTold : ab_okT M_X3_ifTold := ab_okT_of (P := P_X3_ifTold) 112 (Nat.le_of_ble_eq_true rfl) (fun pc h => ab_chkR_of (lo := 0) (len := 112) (by decide +kernel) pc (Nat.zero_le _) (by omega))
theorem kY_X3_ifTold : ab_okY M_X3_ifTold := ab_okY_of 641 107 (by decide +kernel)
def M_X3_sum : ab_M := (yX3_sum, cX3_sum, 6, (some .boolean), 3, 2, [
  [oo (.aload_n 0) 1, oo (.aload_n 1) 2, oo (.iload_n 2) 3, om (.invokevirtual 162) 6 0 yX3_product, nn, nn, oo (.istore_n 3) 7, oo (.iconst 0) 8, oo (.istore 4) 10, nn, oo (.iload 4) 12, nn, oo (.sipush 400) 15, nn, nn, oj (.if_icmp .gt 78) 18 93],
  [nn, nn, oo (.iload_n 3) 19, oj (.ifCond .eq 74) 22 93, nn, nn, oo (.aload_n 0) 23, om (.invokevirtual 37) 26 0 yX3_kindNow, nn, nn, oo (.bipush 43) 28, nn, oj (.if_icmp .eq 12) 31 40, nn, nn, oo (.aload_n 0) 32],
  [om (.invokevirtual 37) 35 0 yX3_kindNow, nn, nn, oo (.bipush 45) 37, nn, oj (.if_icmp .ne 56) 40 93, nn, nn, oo (.aload_n 0) 41, om (.invokevirtual 37) 44 0 yX3_kindNow, nn, nn, oo (.istore 5) 46, nn, oo (.aload_n 0) 47, oo (.iload 5) 49],
  [nn, om (.invokevirtual 80) 52 0 yX3_take, nn, nn, oj (.ifCond .eq 16) 55 68, nn, nn, oo (.aload_n 0) 56, oo (.aload_n 1) 57, oo (.iload_n 2) 58, om (.invokevirtual 162) 61 0 yX3_product, nn, nn, oj (.ifCond .eq 7) 64 68, nn, nn],
  [oo (.iconst 1) 65, oj (.goto 4) 68 69, nn, nn, oo (.iconst 0) 69, oo (.istore_n 3) 70, oo (.aload_n 1) 71, oo (.iload 5) 73, nn, oo (.bipush 43) 75, nn, oj (.if_icmp .ne 7) 78 82, nn, nn, oo (.iconst (-1)) 79, oj (.goto 5) 82 84],
  [nn, nn, oo (.bipush (-2)) 84, nn, om (.invokevirtual 150) 87 0 yX5_addCode, nn, nn, oo (.iinc 4 1) 90, nn, nn, oj (.goto (-80)) 93 10, nn, nn, oo (.iload_n 3) 94, oo .ireturn 95, nn]])
def P_X3_sum : List (List (List Nat)) := [[[],[],[],[646,648,9],[],[],[],[],[],[],[],[],[],[],[],[]], [[],[],[],[],[],[],[],[622,624,3],[],[],[],[],[],[],[],[]], [[622,624,3],[],[],[],[],[],[],[],[],[622,624,3],[],[],[],[],[],[]], [[],[630,632,5],[],[],[],[],[],[],[],[],[646,648,9],[],[],[],[],[]], [[],[],[],[],[],[],[],[],[],[],[],[],[],[],[],[]], [[],[],[],[],[654,272,273],[],[],[],[],[],[],[],[],[],[],[]]]
set_option maxRecDepth 100000 in
theorem kT_X3_sum : ab_okT M_X3_sum := ab_okT_of (P := P_X3_sum) 96 (Nat.le_of_ble_eq_true rfl) (fun pc h => ab_chkR_of (lo := 0) (len := 96) (by decide +kernel) pc (Nat.zero_le _) (by omega))
theorem kY_X3_sum : ab_okY M_X3_sum := ab_okY_of 645 107 (by decide +kernel)
def M_X3_product : ab_M := (yX3_product, cX3_product, 6, (some .boolean), 3, 2, [
  [oo (.aload_n 0) 1, oo (.aload_n 1) 2, oo (.iload_n 2) 3, om (.invokevirtual 165) 6 0 yX3_unit, nn, nn, oo (.istore_n 3) 7, oo (.iconst 0) 8, oo (.istore 4) 10, nn, oo (.iload 4) 12, nn, oo (.sipush 400) 15, nn, nn, oj (.if_icmp .gt 79) 18 94],
  [nn, nn, oo (.iload_n 3) 19, oj (.ifCond .eq 75) 22 94, nn, nn, oo (.aload_n 0) 23, om (.invokevirtual 37) 26 0 yX3_kindNow, nn, nn, oo (.bipush 42) 28, nn, oj (.if_icmp .eq 12) 31 40, nn, nn, oo (.aload_n 0) 32],
  [om (.invokevirtual 37) 35 0 yX3_kindNow, nn, nn, oo (.bipush 47) 37, nn, oj (.if_icmp .ne 57) 40 94, nn, nn, oo (.aload_n 0) 41, om (.invokevirtual 37) 44 0 yX3_kindNow, nn, nn, oo (.istore 5) 46, nn, oo (.aload_n 0) 47, oo (.iload 5) 49],
  [nn, om (.invokevirtual 80) 52 0 yX3_take, nn, nn, oj (.ifCond .eq 16) 55 68, nn, nn, oo (.aload_n 0) 56, oo (.aload_n 1) 57, oo (.iload_n 2) 58, om (.invokevirtual 165) 61 0 yX3_unit, nn, nn, oj (.ifCond .eq 7) 64 68, nn, nn],
  [oo (.iconst 1) 65, oj (.goto 4) 68 69, nn, nn, oo (.iconst 0) 69, oo (.istore_n 3) 70, oo (.aload_n 1) 71, oo (.iload 5) 73, nn, oo (.bipush 42) 75, nn, oj (.if_icmp .ne 8) 78 83, nn, nn, oo (.bipush (-3)) 80, nn],
  [oj (.goto 5) 83 85, nn, nn, oo (.bipush (-4)) 85, nn, om (.invokevirtual 150) 88 0 yX5_addCode, nn, nn, oo (.iinc 4 1) 91, nn, nn, oj (.goto (-81)) 94 10, nn, nn, oo (.iload_n 3) 95, oo .ireturn 96]])
def P_X3_product : List (List (List Nat)) := [[[],[],[],[650,652,10],[],[],[],[],[],[],[],[],[],[],[],[]], [[],[],[],[],[],[],[],[622,624,3],[],[],[],[],[],[],[],[]], [[622,624,3],[],[],[],[],[],[],[],[],[622,624,3],[],[],[],[],[],[]], [[],[630,632,5],[],[],[],[],[],[],[],[],[650,652,10],[],[],[],[],[]], [[],[],[],[],[],[],[],[],[],[],[],[],[],[],[],[]], [[],[],[],[],[],[654,272,273],[],[],[],[],[],[],[],[],[],[]]]
set_option maxRecDepth 100000 in
theorem kT_X3_product : ab_okT M_X3_product := ab_okT_of (P := P_X3_product) 96 (Nat.le_of_ble_eq_true rfl) (fun pc h => ab_chkR_of (lo := 0) (len := 96) (by decide +kernel) pc (Nat.zero_le _) (by omega))
theorem kY_X3_product : ab_okY M_X3_product := ab_okY_of 649 107 (by decide +kernel)
def M_X3_unit : ab_M := (yX3_unit, cX3_unit, 4, (some .boolean), 3, 2, [
  [oo (.aload_n 0) 1, om (.invokevirtual 37) 4 0 yX3_kindNow, nn, nn, oo (.istore_n 3) 5, oo (.iload_n 3) 6, oo (.bipush 40) 8, nn, oj (.if_icmp .ne 52) 11 60, nn, nn, oo (.iload_n 2) 12, oo (.bipush 6) 14, nn, oj (.if_icmp .lt 11) 17 25, nn],
  [nn, oo (.aload_n 0) 18, oo (.iconst 2) 19, om (.invokevirtual 73) 22 0 yX3_stop, nn, nn, oj (.goto 37) 25 59, nn, nn, oo (.aload_n 0) 26, oo (.bipush 40) 28, nn, om (.invokevirtual 80) 31 0 yX3_take, nn, nn, oj (.ifCond .eq 27) 34 58],
  [nn, nn, oo (.aload_n 0) 35, oo (.aload_n 1) 36, oo (.iload_n 2) 37, oo (.iconst 1) 38, oo .iadd 39, om (.invokevirtual 147) 42 0 yX3_sum, nn, nn, oj (.ifCond .eq 16) 45 58, nn, nn, oo (.aload_n 0) 46, oo (.bipush 41) 48, nn],
  [om (.invokevirtual 80) 51 0 yX3_take, nn, nn, oj (.ifCond .eq 7) 54 58, nn, nn, oo (.iconst 1) 55, oj (.goto 4) 58 59, nn, nn, oo (.iconst 0) 59, oo .ireturn 60, oo (.iload_n 3) 61, oo (.sipush 268) 64, nn, nn],
  [oj (.if_icmp .lt 28) 67 92, nn, nn, oo (.iload_n 3) 68, oo (.sipush 277) 71, nn, nn, oj (.if_icmp .ge 21) 74 92, nn, nn, oo (.aload_n 1) 75, oo (.bipush (-7)) 77, nn, oo (.iload_n 3) 78, oo (.sipush 268) 81, nn],
  [nn, oo .isub 82, oo .isub 83, om (.invokevirtual 150) 86 0 yX5_addCode, nn, nn, oo (.aload_n 0) 87, oo (.iload_n 3) 88, om (.invokevirtual 80) 91 0 yX3_take, nn, nn, oo .ireturn 92, oo (.aload_n 1) 93, oo (.aload_n 0) 94, om (.invokevirtual 168) 97 0 yX3_valueNow, nn],
  [nn, oo .l2i 98, om (.invokevirtual 150) 101 0 yX5_addCode, nn, nn, oo (.aload_n 0) 102, oo (.iconst 3) 103, om (.invokevirtual 80) 106 0 yX3_take, nn, nn, oo .ireturn 107, nn, nn, nn, nn, nn]])
def P_X3_unit : List (List (List Nat)) := [[[],[622,624,3],[],[],[],[],[],[],[],[],[],[],[],[],[],[]], [[],[],[],[634,636,6],[],[],[],[],[],[],[],[],[630,632,5],[],[],[]], [[],[],[],[],[],[],[],[642,644,8],[],[],[],[],[],[],[],[]], [[630,632,5],[],[],[],[],[],[],[],[],[],[],[],[],[],[],[]], [[],[],[],[],[],[],[],[],[],[],[],[],[],[],[],[]], [[],[],[],[654,272,273],[],[],[],[],[630,632,5],[],[],[],[],[],[655,657,11],[]], [[],[],[654,272,273],[],[],[],[],[630,632,5],[],[],[],[],[],[],[],[]]]
set_option maxRecDepth 100000 in
theorem kT_X3_unit : ab_okT M_X3_unit := ab_okT_of (P := P_X3_unit) 112 (Nat.le_of_ble_eq_true rfl) (fun pc h => ab_chkR_of (lo := 0) (len := 112) (by decide +kernel) pc (Nat.zero_le _) (by omega))
theorem kY_X3_unit : ab_okY M_X3_unit := ab_okY_of 653 107 (by decide +kernel)
def M_X3_takeName : ab_M := (yX3_takeName, cX3_takeName, 4, (some .boolean), 3, 2, [
  [oo (.aload_n 0) 1, oo (.aload_n 0) 2, om (.invokevirtual 168) 5 0 yX3_valueNow, nn, nn, of (.putfield 98) 8 3 7, nn, nn, oo (.iconst 0) 9, oo (.istore_n 3) 10, oo (.iload_n 3) 11, oo (.iload_n 2) 12, oj (.if_icmp .ge 31) 15 43, nn, nn, oo (.iload_n 3) 16],
  [oo (.aload_n 1) 17, oo .arraylength 18, oj (.if_icmp .ge 25) 21 43, nn, nn, oo (.aload_n 1) 22, oo (.iload_n 3) 23, oo .laload 24, oo (.aload_n 0) 25, of (.getfield 98) 28 3 7, nn, nn, oo .lcmp 29, oj (.ifCond .ne 8) 32 37, nn, nn],
  [oo (.aload_n 0) 33, oo (.iconst 3) 34, om (.invokevirtual 172) 37 0 yX3_noteLater, nn, nn, oo (.iinc 3 1) 40, nn, nn, oj (.goto (-30)) 43 10, nn, nn, oo (.aload_n 0) 44, oo (.iconst 2) 45, om (.invokevirtual 80) 48 0 yX3_take, nn, nn],
  [oo .ireturn 49, nn, nn, nn, nn, nn, nn, nn, nn, nn, nn, nn, nn, nn, nn, nn]])
def P_X3_takeName : List (List (List Nat)) := [[[],[],[655,657,11],[],[],[243],[],[],[],[],[],[],[],[],[],[]], [[],[],[],[],[],[],[],[],[],[243],[],[],[],[],[],[]], [[],[],[675,677,15],[],[],[],[],[],[],[],[],[],[],[630,632,5],[],[]], [[],[],[],[],[],[],[],[],[],[],[],[],[],[],[],[]]]
set_option maxRecDepth 100000 in
theorem kT_X3_takeName : ab_okT M_X3_takeName := ab_okT_of (P := P_X3_takeName) 64 (Nat.le_of_ble_eq_true rfl) (fun pc h => ab_chkR_of (lo := 0) (len := 64) (by decide +kernel) pc (Nat.zero_le _) (by omega))
theorem kY_X3_takeName : ab_okY M_X3_takeName := ab_okY_of 674 107 (by decide +kernel)
def M_X3_takeStep : ab_M := (yX3_takeStep, cX3_takeStep, 2, (some .boolean), 3, 0, [
  [oo (.aload_n 0) 1, om (.invokevirtual 37) 4 0 yX3_kindNow, nn, nn, oo (.bipush 45) 6, nn, oj (.if_icmp .ne 7) 9 13, nn, nn, oo (.iconst 1) 10, oj (.goto 4) 13 14, nn, nn, oo (.iconst 0) 14, oo (.istore_n 1) 15, oo (.iload_n 1) 16],
  [oj (.ifCond .eq 12) 19 28, nn, nn, oo (.aload_n 0) 20, oo (.bipush 45) 22, nn, om (.invokevirtual 80) 25 0 yX3_take, nn, nn, oj (.ifCond .eq 12) 28 37, nn, nn, oo (.aload_n 0) 29, oo (.iconst 0) 30, oo (.iconst 2) 31, om (.invokevirtual 91) 34 0 yX3_takeInt],
  [nn, nn, oj (.ifCond .ne 5) 37 39, nn, nn, oo (.iconst 0) 38, oo .ireturn 39, oo (.aload_n 0) 40, oo (.iload_n 1) 41, oj (.ifCond .eq 11) 44 52, nn, nn, oo (.aload_n 0) 45, of (.getfield 95) 48 3 6, nn, nn],
  [oo .ineg 49, oj (.goto 7) 52 56, nn, nn, oo (.aload_n 0) 53, of (.getfield 95) 56 3 6, nn, nn, of (.putfield 95) 59 3 6, nn, nn, oo (.iconst 1) 60, oo .ireturn 61, nn, nn, nn]])
def P_X3_takeStep : List (List (List Nat)) := [[[],[622,624,3],[],[],[],[],[],[],[],[],[],[],[],[],[],[]], [[],[],[],[],[],[],[630,632,5],[],[],[],[],[],[],[],[],[679,681,16]], [[],[],[],[],[],[],[],[],[],[],[],[],[],[242],[],[]], [[],[],[],[],[],[242],[],[],[242],[],[],[],[],[],[],[]]]
set_option maxRecDepth 100000 in
theorem kT_X3_takeStep : ab_okT M_X3_takeStep := ab_okT_of (P := P_X3_takeStep) 64 (Nat.le_of_ble_eq_true rfl) (fun pc h => ab_chkR_of (lo := 0) (len := 64) (by decide +kernel) pc (Nat.zero_le _) (by omega))
theorem kY_X3_takeStep : ab_okY M_X3_takeStep := ab_okY_of 717 107 (by decide +kernel)
def M_X3_takeInt : ab_M := (yX3_takeInt, cX3_takeInt, 3, (some .boolean), 3, 2, [
  [oo (.aload_n 0) 1, oo (.aload_n 0) 2, om (.invokevirtual 168) 5 0 yX3_valueNow, nn, nn, oo .l2i 6, of (.putfield 95) 9 3 6, nn, nn, oo (.aload_n 0) 10, of (.getfield 95) 13 3 6, nn, nn, oo (.iload_n 1) 14, oj (.if_icmp .lt 11) 17 25, nn],
  [nn, oo (.aload_n 0) 18, of (.getfield 95) 21 3 6, nn, nn, oo (.iload_n 2) 22, oj (.if_icmp .le 8) 25 30, nn, nn, oo (.aload_n 0) 26, oo (.iconst 5) 27, om (.invokevirtual 172) 30 0 yX3_noteLater, nn, nn, oo (.aload_n 0) 31, oo (.iconst 3) 32],
  [om (.invokevirtual 80) 35 0 yX3_take, nn, nn, oo .ireturn 36, nn, nn, nn, nn, nn, nn, nn, nn, nn, nn, nn, nn]])
def P_X3_takeInt : List (List (List Nat)) := [[[],[],[655,657,11],[],[],[],[242],[],[],[],[242],[],[],[],[],[]], [[],[],[242],[],[],[],[],[],[],[],[],[675,677,15],[],[],[],[]], [[630,632,5],[],[],[],[],[],[],[],[],[],[],[],[],[],[],[]]]
set_option maxRecDepth 100000 in
theorem kT_X3_takeInt : ab_okT M_X3_takeInt := ab_okT_of (P := P_X3_takeInt) 48 (Nat.le_of_ble_eq_true rfl) (fun pc h => ab_chkR_of (lo := 0) (len := 48) (by decide +kernel) pc (Nat.zero_le _) (by omega))
theorem kY_X3_takeInt : ab_okY M_X3_takeInt := ab_okY_of 682 107 (by decide +kernel)
def M_X3_take : ab_M := (yX3_take, cX3_take, 2, (some .boolean), 3, 1, [
  [oo (.aload_n 0) 1, om (.invokevirtual 37) 4 0 yX3_kindNow, nn, nn, oo (.iload_n 1) 5, oj (.if_icmp .eq 9) 8 14, nn, nn, oo (.aload_n 0) 9, oo (.iconst 1) 10, om (.invokevirtual 73) 13 0 yX3_stop, nn, nn, oo .ireturn 14, oo (.aload_n 0) 15, of (.getfield 23) 18 3 2],
  [nn, nn, oo (.sipush 400) 21, nn, nn, oj (.if_icmp .lt 9) 24 30, nn, nn, oo (.aload_n 0) 25, oo (.iconst 2) 26, om (.invokevirtual 73) 29 0 yX3_stop, nn, nn, oo .ireturn 30, oo (.aload_n 0) 31, oo .dup 32],
  [of (.getfield 23) 35 3 2, nn, nn, oo (.iconst 1) 36, oo .iadd 37, of (.putfield 23) 40 3 2, nn, nn, oo (.iconst 1) 41, oo .ireturn 42, nn, nn, nn, nn, nn, nn]])
def P_X3_take : List (List (List Nat)) := [[[],[622,624,3],[],[],[],[],[],[],[],[],[634,636,6],[],[],[],[],[238]], [[],[],[],[],[],[],[],[],[],[],[634,636,6],[],[],[],[],[]], [[238],[],[],[],[],[238],[],[],[],[],[],[],[],[],[],[]]]
set_option maxRecDepth 100000 in
theorem kT_X3_take : ab_okT M_X3_take := ab_okT_of (P := P_X3_take) 48 (Nat.le_of_ble_eq_true rfl) (fun pc h => ab_chkR_of (lo := 0) (len := 48) (by decide +kernel) pc (Nat.zero_le _) (by omega))
theorem kY_X3_take : ab_okY M_X3_take := ab_okY_of 633 107 (by decide +kernel)
def M_X3_kindNow : ab_M := (yX3_kindNow, cX3_kindNow, 1, (some .int), 3, 0, [
  [oo (.aload_n 0) 1, of (.getfield 23) 4 3 2, nn, nn, oj (.ifCond .lt 13) 7 17, nn, nn, oo (.aload_n 0) 8, of (.getfield 23) 11 3 2, nn, nn, oo (.sipush 400) 14, nn, nn, oj (.if_icmp .le 7) 17 21, nn],
  [nn, oo (.iconst 1) 18, oj (.goto 15) 21 33, nn, nn, oo (.aload_n 0) 22, of (.getfield 12) 25 3 1, nn, nn, of (.getfield 175) 28 6 0, nn, nn, oo (.aload_n 0) 29, of (.getfield 23) 32 3 2, nn, nn],
  [oo .iaload 33, oo .ireturn 34, nn, nn, nn, nn, nn, nn, nn, nn, nn, nn, nn, nn, nn, nn]])
def P_X3_kindNow : List (List (List Nat)) := [[[],[238],[],[],[],[],[],[],[238],[],[],[],[],[],[],[]], [[],[],[],[],[],[],[237],[],[],[215],[],[],[],[238],[],[]], [[],[],[],[],[],[],[],[],[],[],[],[],[],[],[],[]]]
set_option maxRecDepth 100000 in
theorem kT_X3_kindNow : ab_okT M_X3_kindNow := ab_okT_of (P := P_X3_kindNow) 48 (Nat.le_of_ble_eq_true rfl) (fun pc h => ab_chkR_of (lo := 0) (len := 48) (by decide +kernel) pc (Nat.zero_le _) (by omega))
theorem kY_X3_kindNow : ab_okY M_X3_kindNow := ab_okY_of 625 107 (by decide +kernel)
def M_X3_valueNow : ab_M := (yX3_valueNow, cX3_valueNow, 1, (some .long), 3, 0, [
  [oo (.aload_n 0) 1, of (.getfield 23) 4 3 2, nn, nn, oj (.ifCond .lt 13) 7 17, nn, nn, oo (.aload_n 0) 8, of (.getfield 23) 11 3 2, nn, nn, oo (.sipush 400) 14, nn, nn, oj (.if_icmp .le 7) 17 21, nn],
  [nn, oo (.lconst 0) 18, oj (.goto 15) 21 33, nn, nn, oo (.aload_n 0) 22, of (.getfield 12) 25 3 1, nn, nn, of (.getfield 178) 28 6 2, nn, nn, oo (.aload_n 0) 29, of (.getfield 23) 32 3 2, nn, nn],
  [oo .laload 33, oo .lreturn 34, nn, nn, nn, nn, nn, nn, nn, nn, nn, nn, nn, nn, nn, nn]])
def P_X3_valueNow : List (List (List Nat)) := [[[],[238],[],[],[],[],[],[],[238],[],[],[],[],[],[],[]], [[],[],[],[],[],[],[237],[],[],[219],[],[],[],[238],[],[]], [[],[],[],[],[],[],[],[],[],[],[],[],[],[],[],[]]]
set_option maxRecDepth 100000 in
theorem kT_X3_valueNow : ab_okT M_X3_valueNow := ab_okT_of (P := P_X3_valueNow) 48 (Nat.le_of_ble_eq_true rfl) (fun pc h => ab_chkR_of (lo := 0) (len := 48) (by decide +kernel) pc (Nat.zero_le _) (by omega))
theorem kY_X3_valueNow : ab_okY M_X3_valueNow := ab_okY_of 658 107 (by decide +kernel)
def M_X3_stop : ab_M := (yX3_stop, cX3_stop, 2, (some .boolean), 3, 1, [
  [oo (.aload_n 0) 1, of (.getfield 23) 4 3 2, nn, nn, oj (.ifCond .lt 34) 7 38, nn, nn, oo (.aload_n 0) 8, of (.getfield 23) 11 3 2, nn, nn, oo (.sipush 400) 14, nn, nn, oj (.if_icmp .gt 24) 17 38, nn],
  [nn, oo (.aload_n 0) 18, oo (.iload_n 1) 19, of (.putfield 27) 22 3 3, nn, nn, oo (.aload_n 0) 23, oo (.aload_n 0) 24, of (.getfield 12) 27 3 1, nn, nn, of (.getfield 181) 30 6 1, nn, nn, oo (.aload_n 0) 31, of (.getfield 23) 34 3 2],
  [nn, nn, oo .iaload 35, of (.putfield 52) 38 3 0, nn, nn, oo (.iconst 0) 39, oo .ireturn 40, nn, nn, nn, nn, nn, nn, nn, nn]])
def P_X3_stop : List (List (List Nat)) := [[[],[238],[],[],[],[],[],[],[238],[],[],[],[],[],[],[]], [[],[],[],[239],[],[],[],[],[237],[],[],[217],[],[],[],[238]], [[],[],[],[235],[],[],[],[],[],[],[],[],[],[],[],[]]]
set_option maxRecDepth 100000 in
theorem kT_X3_stop : ab_okT M_X3_stop := ab_okT_of (P := P_X3_stop) 48 (Nat.le_of_ble_eq_true rfl) (fun pc h => ab_chkR_of (lo := 0) (len := 48) (by decide +kernel) pc (Nat.zero_le _) (by omega))
theorem kY_X3_stop : ab_okY M_X3_stop := ab_okY_of 637 107 (by decide +kernel)
def M_X3_noteLater : ab_M := (yX3_noteLater, cX3_noteLater, 2, none, 3, 1, [
  [oo (.aload_n 0) 1, of (.getfield 30) 4 3 4, nn, nn, oj (.ifCond .ne 41) 7 45, nn, nn, oo (.aload_n 0) 8, of (.getfield 23) 11 3 2, nn, nn, oj (.ifCond .lt 34) 14 45, nn, nn, oo (.aload_n 0) 15, of (.getfield 23) 18 3 2],
  [nn, nn, oo (.sipush 400) 21, nn, nn, oj (.if_icmp .gt 24) 24 45, nn, nn, oo (.aload_n 0) 25, oo (.iload_n 1) 26, of (.putfield 30) 29 3 4, nn, nn, oo (.aload_n 0) 30, oo (.aload_n 0) 31, of (.getfield 12) 34 3 1],
  [nn, nn, of (.getfield 181) 37 6 1, nn, nn, oo (.aload_n 0) 38, of (.getfield 23) 41 3 2, nn, nn, oo .iaload 42, of (.putfield 49) 45 3 5, nn, nn, oo .return_ 46, nn, nn]])
def P_X3_noteLater : List (List (List Nat)) := [[[],[240],[],[],[],[],[],[],[238],[],[],[],[],[],[],[238]], [[],[],[],[],[],[],[],[],[],[],[240],[],[],[],[],[237]], [[],[],[217],[],[],[],[238],[],[],[],[241],[],[],[],[],[]]]
set_option maxRecDepth 100000 in
theorem kT_X3_noteLater : ab_okT M_X3_noteLater := ab_okT_of (P := P_X3_noteLater) 48 (Nat.le_of_ble_eq_true rfl) (fun pc h => ab_chkR_of (lo := 0) (len := 48) (by decide +kernel) pc (Nat.zero_le _) (by omega))
theorem kY_X3_noteLater : ab_okY M_X3_noteLater := ab_okY_of 678 107 (by decide +kernel)
