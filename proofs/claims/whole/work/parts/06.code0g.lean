def M_X6_init : ab_M := (yX6_init, cX6_init, 5, none, 6, 0, [
  [oo (.aload_n 0) 1, om (.invokespecial 3) 4 0 Lib.objectInit, nn, nn, oo (.aload_n 0) 5, oo (.sipush 401) 8, nn, nn, oo (.newarray .int) 10, nn, of (.putfield 9) 13 6 0, nn, nn, oo (.aload_n 0) 14, oo (.sipush 401) 17, nn],
  [nn, oo (.newarray .int) 19, nn, of (.putfield 15) 22 6 1, nn, nn, oo (.aload_n 0) 23, oo (.sipush 401) 26, nn, nn, oo (.newarray .long) 28, nn, of (.putfield 18) 31 6 2, nn, nn, oo (.aload_n 0) 32],
  [oo (.bipush 21) 34, nn, oo (.newarray .long) 36, nn, of (.putfield 22) 39 6 3, nn, nn, oo (.iconst 0) 40, oo (.istore_n 1) 41, oo (.iconst 0) 42, oo (.istore_n 2) 43, oo (.iconst 0) 44, oo (.istore_n 3) 45, oo (.iload_n 3) 46, oo (.ldc 25) 48, nn],
  [om (.invokevirtual 27) 51 0 yJ0_length_8abf5, nn, nn, oj (.if_icmp .ge 64) 54 115, nn, nn, oo (.iload_n 1) 55, oo (.bipush 21) 57, nn, oj (.if_icmp .ge 58) 60 115, nn, nn, oo (.ldc 25) 62, nn, oo (.iload_n 3) 63, om (.invokevirtual 33) 66 0 yJ0_charAt_5068e],
  [nn, nn, oo (.istore 4) 68, nn, oo (.iload 4) 70, nn, oo (.bipush 32) 72, nn, oj (.if_icmp .ne 11) 75 83, nn, nn, oo (.iinc 1 1) 78, nn, nn, oo (.iconst 0) 79, oo (.istore_n 2) 80],
  [oj (.goto 29) 83 109, nn, nn, oo (.aload_n 0) 84, of (.getfield 22) 87 6 3, nn, nn, oo (.iload_n 1) 88, oo (.aload_n 0) 89, of (.getfield 22) 92 6 3, nn, nn, oo (.iload_n 1) 93, oo .laload 94, oo (.iload_n 2) 95, oo (.iload 4) 97],
  [nn, oo (.bipush 97) 99, nn, oo .isub 100, oo (.iconst 1) 101, oo .iadd 102, om (.invokestatic 37) 105 1 yX11_withSign, nn, nn, oo .lastore 106, oo (.iinc 2 1) 109, nn, nn, oo (.iinc 3 1) 112, nn, nn],
  [oj (.goto (-67)) 115 45, nn, nn, oo .return_ 116, nn, nn, nn, nn, nn, nn, nn, nn, nn, nn, nn, nn]])
def P_X6_init : List (List (List Nat)) := [[[],[161,132],[],[],[],[],[],[],[233],[],[214],[],[],[],[],[]], [[],[233],[],[216],[],[],[],[],[],[],[234],[],[218],[],[],[]], [[],[],[234],[],[220],[],[],[],[],[],[],[],[],[],[],[]], [[163,164,165],[],[],[],[],[],[],[],[],[],[],[],[],[],[],[173,174,175]], [[],[],[],[],[],[],[],[],[],[],[],[],[],[],[],[]], [[],[],[],[],[220],[],[],[],[],[220],[],[],[],[],[],[]], [[],[],[],[],[],[],[212,211],[],[],[],[],[],[],[],[],[]], [[],[],[],[],[],[],[],[],[],[],[],[],[],[],[],[]]]
set_option maxRecDepth 100000 in
theorem kT_X6_init : ab_okT M_X6_init := ab_okT_of (P := P_X6_init) 128 (Nat.le_of_ble_eq_true rfl) (fun pc h => ab_chkR_of (lo := 0) (len := 128) (by decide +kernel) pc (Nat.zero_le _) (by omega))
theorem kY_X6_init : ab_okY M_X6_init := ab_okY_of 160 108 (by decide +kernel)
def M_X6_split : ab_M := (yX6_split, cX6_split, 4, none, 6, 1, [
  [oo (.aload_n 0) 1, oo (.iconst 0) 2, of (.putfield 41) 5 6 4, nn, nn, oo (.iconst 1) 6, oo (.istore_n 2) 7, oo (.iconst 0) 8, oo (.istore_n 3) 9, oo (.iload_n 3) 10, oo (.sipush 400) 13, nn, nn, oj (.if_icmp .gt 120) 16 133, nn, nn],
  [oo (.iload_n 2) 17, oj (.ifCond .eq 116) 20 133, nn, nn, oo (.aload_n 0) 21, of (.getfield 41) 24 6 4, nn, nn, oo (.aload_n 1) 25, of (.getfield 45) 28 4 1, nn, nn, oj (.if_icmp .ge 30) 31 58, nn, nn, oo (.aload_n 1) 32],
  [oo (.aload_n 0) 33, of (.getfield 41) 36 6 4, nn, nn, om (.invokevirtual 49) 39 0 yX4_byteAt, nn, nn, om (.invokestatic 53) 42 0 yX6_isBlank, nn, nn, oj (.ifCond .eq 16) 45 58, nn, nn, oo (.aload_n 0) 46, oo .dup 47, of (.getfield 41) 50 6 4],
  [nn, nn, oo (.iconst 1) 51, oo .iadd 52, of (.putfield 41) 55 6 4, nn, nn, oj (.goto (-35)) 58 20, nn, nn, oo (.aload_n 0) 59, of (.getfield 15) 62 6 1, nn, nn, oo (.iload_n 3) 63, oo (.aload_n 0) 64],
  [of (.getfield 41) 67 6 4, nn, nn, oo .iastore 68, oo (.aload_n 0) 69, of (.getfield 18) 72 6 2, nn, nn, oo (.iload_n 3) 73, oo (.lconst 0) 74, oo .lastore 75, oo (.aload_n 0) 76, of (.getfield 9) 79 6 0, nn, nn, oo (.iload_n 3) 80],
  [oo (.aload_n 0) 81, of (.getfield 41) 84 6 4, nn, nn, oo (.aload_n 1) 85, of (.getfield 45) 88 4 1, nn, nn, oj (.if_icmp .lt 7) 91 95, nn, nn, oo (.iconst 0) 92, oj (.goto 9) 95 101, nn, nn, oo (.aload_n 0) 96],
  [oo (.aload_n 1) 97, oo (.iload_n 3) 98, om (.invokevirtual 57) 101 0 yX6_kindFrom, nn, nn, oo .iastore 102, oo (.aload_n 0) 103, of (.getfield 9) 106 6 0, nn, nn, oo (.iload_n 3) 107, oo .iaload 108, oj (.ifCond .eq 17) 111 125, nn, nn, oo (.aload_n 0) 112],
  [of (.getfield 9) 115 6 0, nn, nn, oo (.iload_n 3) 116, oo .iaload 117, oo (.iconst 1) 118, oj (.if_icmp .eq 7) 121 125, nn, nn, oo (.iconst 1) 122, oj (.goto 4) 125 126, nn, nn, oo (.iconst 0) 126, oo (.istore_n 2) 127, oo (.iinc 3 1) 130],
  [nn, nn, oj (.goto (-121)) 133 9, nn, nn, oo .return_ 134, nn, nn, nn, nn, nn, nn, nn, nn, nn, nn]])
def P_X6_split : List (List (List Nat)) := [[[],[],[221],[],[],[],[],[],[],[],[],[],[],[],[],[]], [[],[],[],[],[],[221],[],[],[],[143],[],[],[],[],[],[]], [[],[221],[],[],[594,595,596],[],[],[598,599],[],[],[],[],[],[],[],[221]], [[],[],[],[],[221],[],[],[],[],[],[],[216],[],[],[],[]], [[221],[],[],[],[],[218],[],[],[],[],[],[],[214],[],[],[]], [[],[221],[],[],[],[143],[],[],[],[],[],[],[],[],[],[]], [[],[],[601,603,0],[],[],[],[],[214],[],[],[],[],[],[],[],[]], [[214],[],[],[],[],[],[],[],[],[],[],[],[],[],[],[]], [[],[],[],[],[],[],[],[],[],[],[],[],[],[],[],[]]]
set_option maxRecDepth 100000 in
theorem kT_X6_split : ab_okT M_X6_split := ab_okT_of (P := P_X6_split) 144 (Nat.le_of_ble_eq_true rfl) (fun pc h => ab_chkR_of (lo := 0) (len := 144) (by decide +kernel) pc (Nat.zero_le _) (by omega))
theorem kY_X6_split : ab_okY M_X6_split := ab_okY_of 593 108 (by decide +kernel)
def M_X6_kindFrom : ab_M := (yX6_kindFrom, cX6_kindFrom, 4, (some .int), 6, 2, [
  [oo (.aload_n 1) 1, oo (.aload_n 0) 2, of (.getfield 41) 5 6 4, nn, nn, om (.invokevirtual 49) 8 0 yX4_byteAt, nn, nn, oo (.istore_n 3) 9, oo (.iload_n 3) 10, om (.invokestatic 61) 13 0 yX6_isLetter, nn, nn, oj (.ifCond .eq 10) 16 23, nn, nn],
  [oo (.aload_n 0) 17, oo (.aload_n 1) 18, oo (.iload_n 2) 19, om (.invokevirtual 64) 22 0 yX6_nameKind, nn, nn, oo .ireturn 23, oo (.iload_n 3) 24, om (.invokestatic 67) 27 0 yX6_isDigit, nn, nn, oj (.ifCond .eq 10) 30 37, nn, nn, oo (.aload_n 0) 31, oo (.aload_n 1) 32],
  [oo (.iload_n 2) 33, om (.invokevirtual 70) 36 0 yX6_intKind, nn, nn, oo .ireturn 37, oo (.aload_n 0) 38, oo .dup 39, of (.getfield 41) 42 6 4, nn, nn, oo (.iconst 1) 43, oo .iadd 44, of (.putfield 41) 47 6 4, nn, nn, oo (.iload_n 3) 48],
  [om (.invokestatic 73) 51 0 yX6_isSign, nn, nn, oj (.ifCond .eq 7) 54 58, nn, nn, oo (.iload_n 3) 55, oj (.goto 4) 58 59, nn, nn, oo (.iconst 1) 59, oo .ireturn 60, nn, nn, nn, nn]])
def P_X6_kindFrom : List (List (List Nat)) := [[[],[],[221],[],[],[594,595,596],[],[],[],[],[605,606],[],[],[],[],[]], [[],[],[],[608,610,1],[],[],[],[],[612,613],[],[],[],[],[],[],[]], [[],[615,617,2],[],[],[],[],[],[221],[],[],[],[],[221],[],[],[]], [[619,620],[],[],[],[],[],[],[],[],[],[],[],[],[],[],[]]]
set_option maxRecDepth 100000 in
theorem kT_X6_kindFrom : ab_okT M_X6_kindFrom := ab_okT_of (P := P_X6_kindFrom) 64 (Nat.le_of_ble_eq_true rfl) (fun pc h => ab_chkR_of (lo := 0) (len := 64) (by decide +kernel) pc (Nat.zero_le _) (by omega))
theorem kY_X6_kindFrom : ab_okY M_X6_kindFrom := ab_okY_of 604 108 (by decide +kernel)
def M_X6_nameKind : ab_M := (yX6_nameKind, cX6_nameKind, 7, (some .int), 6, 2, [
  [oo (.iconst 0) 1, oo (.istore_n 3) 2, oo (.lconst 0) 3, oo (.lstore 4) 5, nn, oo (.aload_n 0) 6, of (.getfield 41) 9 6 4, nn, nn, oo (.aload_n 1) 10, of (.getfield 45) 13 4 1, nn, nn, oj (.if_icmp .ge 54) 16 67, nn, nn],
  [oo (.aload_n 1) 17, oo (.aload_n 0) 18, of (.getfield 41) 21 6 4, nn, nn, om (.invokevirtual 49) 24 0 yX4_byteAt, nn, nn, om (.invokestatic 61) 27 0 yX6_isLetter, nn, nn, oj (.ifCond .eq 40) 30 67, nn, nn, oo (.lload 4) 32, nn],
  [oo (.iload_n 3) 33, oo (.aload_n 1) 34, oo (.aload_n 0) 35, of (.getfield 41) 38 6 4, nn, nn, om (.invokevirtual 49) 41 0 yX4_byteAt, nn, nn, oo (.bipush 97) 43, nn, oo .isub 44, oo (.iconst 1) 45, oo .iadd 46, om (.invokestatic 37) 49 1 yX11_withSign, nn],
  [nn, oo (.lstore 4) 51, nn, oo (.iinc 3 1) 54, nn, nn, oo (.aload_n 0) 55, oo .dup 56, of (.getfield 41) 59 6 4, nn, nn, oo (.iconst 1) 60, oo .iadd 61, of (.putfield 41) 64 6 4, nn, nn],
  [oj (.goto (-59)) 67 5, nn, nn, oo (.iload_n 3) 68, oo (.bipush 8) 70, nn, oj (.if_icmp .le 5) 73 75, nn, nn, oo (.iconst 1) 74, oo .ireturn 75, oo (.aload_n 0) 76, of (.getfield 18) 79 6 2, nn, nn, oo (.iload_n 2) 80],
  [oo (.lload 4) 82, nn, oo .lastore 83, oo (.iconst 0) 84, oo (.istore 6) 86, nn, oo (.iload 6) 88, nn, oo (.bipush 21) 90, nn, oj (.if_icmp .ge 29) 93 119, nn, nn, oo (.aload_n 0) 94, of (.getfield 22) 97 6 3, nn],
  [nn, oo (.iload 6) 99, nn, oo .laload 100, oo (.lload 4) 102, nn, oo .lcmp 103, oj (.ifCond .ne 10) 106 113, nn, nn, oo (.sipush 256) 109, nn, nn, oo (.iload 6) 111, nn, oo .iadd 112],
  [oo .ireturn 113, oo (.iinc 6 1) 116, nn, nn, oj (.goto (-30)) 119 86, nn, nn, oo (.iconst 2) 120, oo .ireturn 121, nn, nn, nn, nn, nn, nn, nn]])
def P_X6_nameKind : List (List (List Nat)) := [[[],[],[],[],[],[],[221],[],[],[],[143],[],[],[],[],[]], [[],[],[221],[],[],[594,595,596],[],[],[605,606],[],[],[],[],[],[],[]], [[],[],[],[221],[],[],[594,595,596],[],[],[],[],[],[],[],[212,211],[]], [[],[],[],[],[],[],[],[],[221],[],[],[],[],[221],[],[]], [[],[],[],[],[],[],[],[],[],[],[],[],[218],[],[],[]], [[],[],[],[],[],[],[],[],[],[],[],[],[],[],[220],[]], [[],[],[],[],[],[],[],[],[],[],[],[],[],[],[],[]], [[],[],[],[],[],[],[],[],[],[],[],[],[],[],[],[]]]
set_option maxRecDepth 100000 in
theorem kT_X6_nameKind : ab_okT M_X6_nameKind := ab_okT_of (P := P_X6_nameKind) 128 (Nat.le_of_ble_eq_true rfl) (fun pc h => ab_chkR_of (lo := 0) (len := 128) (by decide +kernel) pc (Nat.zero_le _) (by omega))
theorem kY_X6_nameKind : ab_okY M_X6_nameKind := ab_okY_of 611 108 (by decide +kernel)
def M_X6_intKind : ab_M := (yX6_intKind, cX6_intKind, 5, (some .int), 6, 2, [
  [oo (.iconst 0) 1, oo (.istore_n 3) 2, oo (.iconst 0) 3, oo (.istore 4) 5, nn, oo (.aload_n 0) 6, of (.getfield 41) 9 6 4, nn, nn, oo (.aload_n 1) 10, of (.getfield 45) 13 4 1, nn, nn, oj (.if_icmp .ge 52) 16 65, nn, nn],
  [oo (.aload_n 1) 17, oo (.aload_n 0) 18, of (.getfield 41) 21 6 4, nn, nn, om (.invokevirtual 49) 24 0 yX4_byteAt, nn, nn, om (.invokestatic 67) 27 0 yX6_isDigit, nn, nn, oj (.ifCond .eq 38) 30 65, nn, nn, oo (.iload 4) 32, nn],
  [oo (.bipush 10) 34, nn, oo .imul 35, oo (.aload_n 1) 36, oo (.aload_n 0) 37, of (.getfield 41) 40 6 4, nn, nn, om (.invokevirtual 49) 43 0 yX4_byteAt, nn, nn, oo .iadd 44, oo (.bipush 48) 46, nn, oo .isub 47, oo (.istore 4) 49],
  [nn, oo (.iinc 3 1) 52, nn, nn, oo (.aload_n 0) 53, oo .dup 54, of (.getfield 41) 57 6 4, nn, nn, oo (.iconst 1) 58, oo .iadd 59, of (.putfield 41) 62 6 4, nn, nn, oj (.goto (-57)) 65 5, nn],
  [nn, oo (.aload_n 0) 66, of (.getfield 18) 69 6 2, nn, nn, oo (.iload_n 2) 70, oo (.iload 4) 72, nn, oo .i2l 73, oo .lastore 74, oo (.iload_n 3) 75, oo (.iconst 4) 76, oj (.if_icmp .le 7) 79 83, nn, nn, oo (.iconst 1) 80],
  [oj (.goto 4) 83 84, nn, nn, oo (.iconst 3) 84, oo .ireturn 85, nn, nn, nn, nn, nn, nn, nn, nn, nn, nn, nn]])
def P_X6_intKind : List (List (List Nat)) := [[[],[],[],[],[],[],[221],[],[],[],[143],[],[],[],[],[]], [[],[],[221],[],[],[594,595,596],[],[],[612,613],[],[],[],[],[],[],[]], [[],[],[],[],[],[221],[],[],[594,595,596],[],[],[],[],[],[],[]], [[],[],[],[],[],[],[221],[],[],[],[],[221],[],[],[],[]], [[],[],[218],[],[],[],[],[],[],[],[],[],[],[],[],[]], [[],[],[],[],[],[],[],[],[],[],[],[],[],[],[],[]]]
set_option maxRecDepth 100000 in
theorem kT_X6_intKind : ab_okT M_X6_intKind := ab_okT_of (P := P_X6_intKind) 96 (Nat.le_of_ble_eq_true rfl) (fun pc h => ab_chkR_of (lo := 0) (len := 96) (by decide +kernel) pc (Nat.zero_le _) (by omega))
theorem kY_X6_intKind : ab_okY M_X6_intKind := ab_okY_of 618 108 (by decide +kernel)
def M_X6_isBlank : ab_M := (yX6_isBlank, cX6_isBlank, 1, (some .boolean), 6, 1, [
  [oo (.iload_n 0) 1, oo (.bipush 9) 3, nn, oj (.if_icmp .eq 21) 6 24, nn, nn, oo (.iload_n 0) 7, oo (.bipush 10) 9, nn, oj (.if_icmp .eq 15) 12 24, nn, nn, oo (.iload_n 0) 13, oo (.bipush 13) 15, nn, oj (.if_icmp .eq 9) 18 24],
  [nn, nn, oo (.iload_n 0) 19, oo (.bipush 32) 21, nn, oj (.if_icmp .ne 7) 24 28, nn, nn, oo (.iconst 1) 25, oj (.goto 4) 28 29, nn, nn, oo (.iconst 0) 29, oo .ireturn 30, nn, nn]])
def P_X6_isBlank : List (List (List Nat)) := [[[],[],[],[],[],[],[],[],[],[],[],[],[],[],[],[]], [[],[],[],[],[],[],[],[],[],[],[],[],[],[],[],[]]]
set_option maxRecDepth 100000 in
theorem kT_X6_isBlank : ab_okT M_X6_isBlank := ab_okT_of (P := P_X6_isBlank) 32 (Nat.le_of_ble_eq_true rfl) (fun pc h => ab_chkR_of (lo := 0) (len := 32) (by decide +kernel) pc (Nat.zero_le _) (by omega))
theorem kY_X6_isBlank : ab_okY M_X6_isBlank := ab_okY_of 600 108 (by decide +kernel)
def M_X6_isLetter : ab_M := (yX6_isLetter, cX6_isLetter, 1, (some .boolean), 6, 1, [
  [oo (.iload_n 0) 1, oo (.bipush 97) 3, nn, oj (.if_icmp .lt 13) 6 16, nn, nn, oo (.iload_n 0) 7, oo (.bipush 122) 9, nn, oj (.if_icmp .gt 7) 12 16, nn, nn, oo (.iconst 1) 13, oj (.goto 4) 16 17, nn, nn],
  [oo (.iconst 0) 17, oo .ireturn 18, nn, nn, nn, nn, nn, nn, nn, nn, nn, nn, nn, nn, nn, nn]])
def P_X6_isLetter : List (List (List Nat)) := [[[],[],[],[],[],[],[],[],[],[],[],[],[],[],[],[]], [[],[],[],[],[],[],[],[],[],[],[],[],[],[],[],[]]]
set_option maxRecDepth 100000 in
theorem kT_X6_isLetter : ab_okT M_X6_isLetter := ab_okT_of (P := P_X6_isLetter) 32 (Nat.le_of_ble_eq_true rfl) (fun pc h => ab_chkR_of (lo := 0) (len := 32) (by decide +kernel) pc (Nat.zero_le _) (by omega))
theorem kY_X6_isLetter : ab_okY M_X6_isLetter := ab_okY_of 607 108 (by decide +kernel)
def M_X6_isDigit : ab_M := (yX6_isDigit, cX6_isDigit, 1, (some .boolean), 6, 1, [
  [oo (.iload_n 0) 1, oo (.bipush 48) 3, nn, oj (.if_icmp .lt 13) 6 16, nn, nn, oo (.iload_n 0) 7, oo (.bipush 57) 9, nn, oj (.if_icmp .gt 7) 12 16, nn, nn, oo (.iconst 1) 13, oj (.goto 4) 16 17, nn, nn],
  [oo (.iconst 0) 17, oo .ireturn 18, nn, nn, nn, nn, nn, nn, nn, nn, nn, nn, nn, nn, nn, nn]])
def P_X6_isDigit : List (List (List Nat)) := [[[],[],[],[],[],[],[],[],[],[],[],[],[],[],[],[]], [[],[],[],[],[],[],[],[],[],[],[],[],[],[],[],[]]]
set_option maxRecDepth 100000 in
theorem kT_X6_isDigit : ab_okT M_X6_isDigit := ab_okT_of (P := P_X6_isDigit) 32 (Nat.le_of_ble_eq_true rfl) (fun pc h => ab_chkR_of (lo := 0) (len := 32) (by decide +kernel) pc (Nat.zero_le _) (by omega))
theorem kY_X6_isDigit : ab_okY M_X6_isDigit := ab_okY_of 614 108 (by decide +kernel)
def M_X6_isSign : ab_M := (yX6_isSign, cX6_isSign, 1, (some .boolean), 6, 1, [
  [oo (.iload_n 0) 1, oo (.tableswitch 105 40 61 #[103, 103, 103, 103, 105, 103, 105, 103, 105, 105, 105, 105, 105, 105, 105, 105, 105, 105, 105, 103, 103, 103]) 104, nn, nn, nn, nn, nn, nn, nn, nn, nn, nn, nn, nn, nn, nn],
  [nn, nn, nn, nn, nn, nn, nn, nn, nn, nn, nn, nn, nn, nn, nn, nn],
  [nn, nn, nn, nn, nn, nn, nn, nn, nn, nn, nn, nn, nn, nn, nn, nn],
  [nn, nn, nn, nn, nn, nn, nn, nn, nn, nn, nn, nn, nn, nn, nn, nn],
  [nn, nn, nn, nn, nn, nn, nn, nn, nn, nn, nn, nn, nn, nn, nn, nn],
  [nn, nn, nn, nn, nn, nn, nn, nn, nn, nn, nn, nn, nn, nn, nn, nn],
  [nn, nn, nn, nn, nn, nn, nn, nn, oo (.iconst 1) 105, oo .ireturn 106, oo (.iconst 0) 107, oo .ireturn 108, nn, nn, nn, nn]])
def P_X6_isSign : List (List (List Nat)) := [[[],[],[],[],[],[],[],[],[],[],[],[],[],[],[],[]], [[],[],[],[],[],[],[],[],[],[],[],[],[],[],[],[]], [[],[],[],[],[],[],[],[],[],[],[],[],[],[],[],[]], [[],[],[],[],[],[],[],[],[],[],[],[],[],[],[],[]], [[],[],[],[],[],[],[],[],[],[],[],[],[],[],[],[]], [[],[],[],[],[],[],[],[],[],[],[],[],[],[],[],[]], [[],[],[],[],[],[],[],[],[],[],[],[],[],[],[],[]]]
set_option maxRecDepth 100000 in
theorem kT_X6_isSign : ab_okT M_X6_isSign := ab_okT_of (P := P_X6_isSign) 112 (Nat.le_of_ble_eq_true rfl) (fun pc h => ab_chkR_of (lo := 0) (len := 112) (by decide +kernel) pc (Nat.zero_le _) (by omega))
theorem kY_X6_isSign : ab_okY M_X6_isSign := ab_okY_of 621 108 (by decide +kernel)
