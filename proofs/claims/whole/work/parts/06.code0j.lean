def M_X9_init : ab_M := (yX9_init, cX9_init, 1, none, 9, 0, [
  [oo (.aload_n 0) 1, om (.invokespecial 3) 4 0 Lib.objectInit, nn, nn, oo (.aload_n 0) 5, of (.new 9) 8 1 0, nn, nn, oo .dup 9, om (.invokespecial 11) 12 1 yX1_init, nn, nn, of (.putfield 12) 15 9 0, nn, nn, oo (.aload_n 0) 16],
  [oo (.bipush 80) 18, nn, oo (.newarray .int) 20, nn, of (.putfield 18) 23 9 1, nn, nn, oo .return_ 24, nn, nn, nn, nn, nn, nn, nn, nn]])
def P_X9_init : List (List (List Nat)) := [[[],[446,132],[],[],[],[447,448,117],[],[],[],[450,449],[],[],[460],[],[],[]], [[],[],[233],[],[461],[],[],[],[],[],[],[],[],[],[],[]]]
set_option maxRecDepth 100000 in
theorem kT_X9_init : ab_okT M_X9_init := ab_okT_of (P := P_X9_init) 32 (Nat.le_of_ble_eq_true rfl) (fun pc h => ab_chkR_of (lo := 0) (len := 32) (by decide +kernel) pc (Nat.zero_le _) (by omega))
theorem kY_X9_init : ab_okY M_X9_init := ab_okY_of 445 116 (by decide +kernel)
def M_X9_lawOfPiece : ab_M := (yX9_lawOfPiece, cX9_lawOfPiece, 5, (some .int), 9, 4, [
  [oo (.aload_n 0) 1, of (.getfield 12) 4 9 0, nn, nn, oo (.iload_n 1) 5, oo (.aload_n 2) 6, oo (.aload_n 3) 7, oo (.iload 4) 9, nn, oo (.aload_n 3) 10, oo (.aload_n 3) 11, of (.getfield 22) 14 10 3, nn, nn, oo (.iload 4) 16, nn],
  [oo .iaload 17, om (.invokevirtual 27) 20 0 yX10_countAt, nn, nn, om (.invokevirtual 31) 23 0 yX1_ofPiece, nn, nn, oo .ireturn 24, nn, nn, nn, nn, nn, nn, nn, nn]])
def P_X9_lawOfPiece : List (List (List Nat)) := [[[],[460],[],[],[],[],[],[],[],[],[],[390],[],[],[],[]], [[],[755,756,757],[],[],[759,760,761],[],[],[],[],[],[],[],[],[],[],[]]]
set_option maxRecDepth 100000 in
theorem kT_X9_lawOfPiece : ab_okT M_X9_lawOfPiece := ab_okT_of (P := P_X9_lawOfPiece) 32 (Nat.le_of_ble_eq_true rfl) (fun pc h => ab_chkR_of (lo := 0) (len := 32) (by decide +kernel) pc (Nat.zero_le _) (by omega))
theorem kY_X9_lawOfPiece : ab_okY M_X9_lawOfPiece := ab_okY_of 754 116 (by decide +kernel)
def M_X9_takesOfAll : ab_M := (yX9_takesOfAll, cX9_takesOfAll, 6, (some .int), 9, 2, [
  [oo (.aload_n 2) 1, oo (.aload_n 0) 2, of (.getfield 18) 5 9 1, nn, nn, om (.invokevirtual 35) 8 0 yX10_countAll, nn, nn, oo (.iconst 0) 9, oo (.istore_n 3) 10, oo (.iconst 0) 11, oo (.istore 4) 13, nn, oo (.iload 4) 15, nn, oo (.aload_n 2) 16],
  [of (.getfield 39) 19 10 1, nn, nn, oj (.if_icmp .ge 50) 22 69, nn, nn, oo (.aload_n 2) 23, of (.getfield 22) 26 10 3, nn, nn, oo (.iload 4) 28, nn, oo .iaload 29, oo (.istore 5) 31, nn, oo (.iload 5) 33],
  [nn, oo (.bipush 80) 35, nn, oj (.if_icmp .ge 28) 38 63, nn, nn, oo (.iload_n 3) 39, oo (.aload_n 0) 40, of (.getfield 12) 43 9 0, nn, nn, oo (.iconst 1) 44, oo (.aload_n 1) 45, oo (.aload_n 2) 46, oo (.iload 4) 48, nn],
  [oo (.aload_n 0) 49, of (.getfield 18) 52 9 1, nn, nn, oo (.iload 5) 54, nn, oo .iaload 55, om (.invokevirtual 31) 58 0 yX1_ofPiece, nn, nn, om (.invokestatic 43) 61 1 yX11_money, nn, nn, oo .iadd 62, oo (.istore_n 3) 63, oo (.iinc 4 1) 66],
  [nn, nn, oj (.goto (-53)) 69 13, nn, nn, oo (.iload_n 3) 70, oo .ireturn 71, nn, nn, nn, nn, nn, nn, nn, nn, nn]])
def P_X9_takesOfAll : List (List (List Nat)) := [[[],[],[461],[],[],[878,879,880],[],[],[],[],[],[],[],[],[],[]], [[383],[],[],[],[],[],[],[390],[],[],[],[],[],[],[],[]], [[],[],[],[],[],[],[],[],[460],[],[],[],[],[],[],[]], [[],[461],[],[],[],[],[],[759,760,761],[],[],[775,802],[],[],[],[],[]], [[],[],[],[],[],[],[],[],[],[],[],[],[],[],[],[]]]
set_option maxRecDepth 100000 in
theorem kT_X9_takesOfAll : ab_okT M_X9_takesOfAll := ab_okT_of (P := P_X9_takesOfAll) 80 (Nat.le_of_ble_eq_true rfl) (fun pc h => ab_chkR_of (lo := 0) (len := 80) (by decide +kernel) pc (Nat.zero_le _) (by omega))
theorem kY_X9_takesOfAll : ab_okY M_X9_takesOfAll := ab_okY_of 1026 116 (by decide +kernel)
def M_X9_owed : ab_M := (yX9_owed, cX9_owed, 6, (some .int), 9, 3, [
  [oo (.iconst 0) 1, oo (.istore 4) 3, nn, oo (.iconst 0) 4, oo (.istore 5) 6, nn, oo (.iload 5) 8, nn, oo (.aload_n 2) 9, of (.getfield 39) 12 10 1, nn, nn, oj (.if_icmp .ge 39) 15 51, nn, nn, oo (.aload_n 2) 16],
  [oo (.iload 5) 18, nn, om (.invokevirtual 46) 21 0 yX10_holder, nn, nn, oo (.iload_n 3) 22, oj (.if_icmp .ne 23) 25 45, nn, nn, oo (.iload 4) 27, nn, oo (.aload_n 0) 28, of (.getfield 12) 31 9 0, nn, nn, oo (.aload_n 1) 32],
  [oo (.aload_n 2) 33, oo (.iload_n 3) 34, oo (.iload 5) 36, nn, om (.invokevirtual 49) 39 0 yX1_pays, nn, nn, om (.invokestatic 43) 42 1 yX11_money, nn, nn, oo .iadd 43, oo (.istore 4) 45, nn, oo (.iinc 5 1) 48, nn, nn],
  [oj (.goto (-42)) 51 6, nn, nn, oo (.iload 4) 53, nn, oo .ireturn 54, nn, nn, nn, nn, nn, nn, nn, nn, nn, nn]])
def P_X9_owed : List (List (List Nat)) := [[[],[],[],[],[],[],[],[],[],[383],[],[],[],[],[],[]], [[],[],[796,747,748],[],[],[],[],[],[],[],[],[],[460],[],[],[]], [[],[],[],[],[797,798,799],[],[],[775,802],[],[],[],[],[],[],[],[]], [[],[],[],[],[],[],[],[],[],[],[],[],[],[],[],[]]]
set_option maxRecDepth 100000 in
theorem kT_X9_owed : ab_okT M_X9_owed := ab_okT_of (P := P_X9_owed) 64 (Nat.le_of_ble_eq_true rfl) (fun pc h => ab_chkR_of (lo := 0) (len := 64) (by decide +kernel) pc (Nat.zero_le _) (by omega))
theorem kY_X9_owed : ab_okY M_X9_owed := ab_okY_of 795 116 (by decide +kernel)
def M_X9_goOn : ab_M := (yX9_goOn, cX9_goOn, 6, none, 9, 4, [
  [oo (.iconst 0) 1, oo (.istore 5) 3, nn, oo (.iload 5) 5, nn, oo (.iload_n 3) 6, oj (.if_icmp .ge 60) 9 66, nn, nn, oo (.aload_n 2) 10, om (.invokestatic 53) 13 0 yX9_walk, nn, nn, oo (.aload_n 1) 14, oo (.aload_n 2) 15, om (.invokestatic 57) 18 0 yX9_pickUp],
  [nn, nn, oo (.iload 4) 20, nn, oo (.iconst (-1)) 21, oj (.if_icmp .eq 23) 24 44, nn, nn, oo (.aload_n 1) 25, oo (.iload 4) 27, nn, oo (.aload_n 2) 28, of (.getfield 61) 31 10 0, nn, nn, om (.invokestatic 64) 34 1 yX11_rains],
  [nn, nn, oj (.ifCond .eq 10) 37 44, nn, nn, oo (.aload_n 2) 38, om (.invokestatic 68) 41 0 yX9_lieOn, nn, nn, oj (.goto 9) 44 50, nn, nn, oo (.aload_n 0) 45, oo (.aload_n 1) 46, oo (.aload_n 2) 47, om (.invokevirtual 71) 50 0 yX9_blow],
  [nn, nn, oo (.aload_n 2) 51, oo .dup 52, of (.getfield 61) 55 10 0, nn, nn, oo (.iconst 1) 56, oo .iadd 57, of (.putfield 61) 60 10 0, nn, nn, oo (.iinc 5 1) 63, nn, nn, oj (.goto (-60)) 66 3],
  [nn, nn, oo .return_ 67, nn, nn, nn, nn, nn, nn, nn, nn, nn, nn, nn, nn, nn]])
def P_X9_goOn : List (List (List Nat)) := [[[],[],[],[],[],[],[],[],[],[],[849,850],[],[],[],[],[855,856]], [[],[],[],[],[],[],[],[],[],[],[],[],[379],[],[],[860,859]], [[],[],[],[],[],[],[869,870],[],[],[],[],[],[],[],[],[874,876,27]], [[],[],[],[],[379],[],[],[],[],[379],[],[],[],[],[],[]], [[],[],[],[],[],[],[],[],[],[],[],[],[],[],[],[]]]
set_option maxRecDepth 100000 in
theorem kT_X9_goOn : ab_okT M_X9_goOn := ab_okT_of (P := P_X9_goOn) 80 (Nat.le_of_ble_eq_true rfl) (fun pc h => ab_chkR_of (lo := 0) (len := 80) (by decide +kernel) pc (Nat.zero_le _) (by omega))
theorem kY_X9_goOn : ab_okY M_X9_goOn := ab_okY_of 848 116 (by decide +kernel)
def M_X9_walk : ab_M := (yX9_walk, cX9_walk, 6, none, 9, 1, [
  [oo (.iconst 0) 1, oo (.istore_n 1) 2, oo (.iload_n 1) 3, oo (.aload_n 0) 4, of (.getfield 74) 7 10 2, nn, nn, oj (.if_icmp .ge 101) 10 108, nn, nn, oo (.aload_n 0) 11, of (.getfield 77) 14 10 6, nn, nn, oo (.iload_n 1) 15, oo .iaload 16],
  [oo (.istore_n 2) 17, oo (.aload_n 0) 18, of (.getfield 80) 21 10 5, nn, nn, oo (.iload_n 1) 22, oo .iaload 23, oo (.istore_n 3) 24, oo (.iload_n 2) 25, oo (.bipush (-2)) 27, nn, oj (.if_icmp .ne 6) 30 33, nn, nn, oj (.goto 72) 33 102, nn],
  [nn, oo (.iload_n 2) 34, oo (.bipush 10) 36, nn, oo .irem 37, oo (.iload_n 3) 38, oo (.bipush 10) 40, nn, oo .irem 41, om (.invokestatic 83) 44 0 yJ6_compare_7cf53, nn, nn, oo (.istore 4) 46, nn, oo (.iload_n 2) 47, oo (.bipush 10) 49],
  [nn, oo .idiv 50, oo (.iload_n 3) 51, oo (.bipush 10) 53, nn, oo .idiv 54, om (.invokestatic 83) 57 0 yJ6_compare_7cf53, nn, nn, oo (.istore 5) 59, nn, oo (.aload_n 0) 60, of (.getfield 80) 63 10 5, nn, nn, oo (.iload_n 1) 64],
  [oo (.iload 4) 66, nn, oj (.ifCond .eq 10) 69 76, nn, nn, oo (.iload_n 3) 70, oo (.iload 4) 72, nn, oo .iadd 73, oj (.goto 10) 76 83, nn, nn, oo (.iload_n 3) 77, oo (.bipush 10) 79, nn, oo (.iload 5) 81],
  [nn, oo .imul 82, oo .iadd 83, oo .iastore 84, oo (.aload_n 0) 85, of (.getfield 80) 88 10 5, nn, nn, oo (.iload_n 1) 89, oo .iaload 90, oo (.iload_n 2) 91, oj (.if_icmp .ne 11) 94 102, nn, nn, oo (.aload_n 0) 95, of (.getfield 77) 98 10 6],
  [nn, nn, oo (.iload_n 1) 99, oo (.bipush (-2)) 101, nn, oo .iastore 102, oo (.iinc 1 1) 105, nn, nn, oj (.goto (-103)) 108 2, nn, nn, oo .return_ 109, nn, nn, nn]])
def P_X9_walk : List (List (List Nat)) := [[[],[],[],[],[386],[],[],[],[],[],[],[399],[],[],[],[]], [[],[],[396],[],[],[],[],[],[],[],[],[],[],[],[],[]], [[],[],[],[],[],[],[],[],[],[852,853],[],[],[],[],[],[]], [[],[],[],[],[],[],[852,853],[],[],[],[],[],[396],[],[],[]], [[],[],[],[],[],[],[],[],[],[],[],[],[],[],[],[]], [[],[],[],[],[],[396],[],[],[],[],[],[],[],[],[],[399]], [[],[],[],[],[],[],[],[],[],[],[],[],[],[],[],[]]]
set_option maxRecDepth 100000 in
theorem kT_X9_walk : ab_okT M_X9_walk := ab_okT_of (P := P_X9_walk) 112 (Nat.le_of_ble_eq_true rfl) (fun pc h => ab_chkR_of (lo := 0) (len := 112) (by decide +kernel) pc (Nat.zero_le _) (by omega))
theorem kY_X9_walk : ab_okY M_X9_walk := ab_okY_of 851 116 (by decide +kernel)
def M_X9_pickUp : ab_M := (yX9_pickUp, cX9_pickUp, 5, none, 9, 2, [
  [oo (.iconst 0) 1, oo (.istore_n 2) 2, oo (.iload_n 2) 3, oo (.aload_n 1) 4, of (.getfield 74) 7 10 2, nn, nn, oj (.if_icmp .ge 67) 10 74, nn, nn, oo (.aload_n 1) 11, of (.getfield 80) 14 10 5, nn, nn, oo (.iload_n 2) 15, oo .iaload 16],
  [oo (.istore_n 3) 17, oo (.iconst 0) 18, oo (.istore 4) 20, nn, oo (.iload 4) 22, nn, oo (.aload_n 1) 23, of (.getfield 39) 26 10 1, nn, nn, oj (.if_icmp .ge 42) 29 68, nn, nn, oo (.aload_n 1) 30, of (.getfield 89) 33 10 7, nn],
  [nn, oo (.iload_n 2) 34, oo .iaload 35, oo (.aload_n 0) 36, of (.getfield 92) 39 5 11, nn, nn, oo (.iload_n 2) 40, oo .iaload 41, oj (.if_icmp .ge 27) 44 68, nn, nn, oo (.aload_n 1) 45, of (.getfield 22) 48 10 3, nn, nn],
  [oo (.iload 4) 50, nn, oo .iaload 51, oo (.iload_n 3) 52, oj (.if_icmp .ne 10) 55 62, nn, nn, oo (.aload_n 1) 56, oo (.iload 4) 58, nn, oo (.iload_n 2) 59, om (.invokevirtual 97) 62 0 yX10_putInHat, nn, nn, oo (.iinc 4 1) 65, nn],
  [nn, oj (.goto (-45)) 68 20, nn, nn, oo (.iinc 2 1) 71, nn, nn, oj (.goto (-69)) 74 2, nn, nn, oo .return_ 75, nn, nn, nn, nn, nn]])
def P_X9_pickUp : List (List (List Nat)) := [[[],[],[],[],[386],[],[],[],[],[],[],[396],[],[],[],[]], [[],[],[],[],[],[],[],[383],[],[],[],[],[],[],[403],[]], [[],[],[],[],[311],[],[],[],[],[],[],[],[],[390],[],[]], [[],[],[],[],[],[],[],[],[],[],[],[858,838,839],[],[],[],[]], [[],[],[],[],[],[],[],[],[],[],[],[],[],[],[],[]]]
set_option maxRecDepth 100000 in
theorem kT_X9_pickUp : ab_okT M_X9_pickUp := ab_okT_of (P := P_X9_pickUp) 80 (Nat.le_of_ble_eq_true rfl) (fun pc h => ab_chkR_of (lo := 0) (len := 80) (by decide +kernel) pc (Nat.zero_le _) (by omega))
theorem kY_X9_pickUp : ab_okY M_X9_pickUp := ab_okY_of 857 116 (by decide +kernel)
def M_X9_lieOn : ab_M := (yX9_lieOn, cX9_lieOn, 2, none, 9, 1, [
  [oo (.iconst 0) 1, oo (.istore_n 1) 2, oo (.iload_n 1) 3, oo (.aload_n 0) 4, of (.getfield 39) 7 10 1, nn, nn, oj (.if_icmp .ge 37) 10 44, nn, nn, oo (.aload_n 0) 11, oo (.iload_n 1) 12, om (.invokevirtual 101) 15 0 yX10_isLying, nn, nn, oj (.ifCond .eq 23) 18 38],
  [nn, nn, oo (.aload_n 0) 19, of (.getfield 105) 22 10 4, nn, nn, oo (.iload_n 1) 23, oo (.sipush 999) 26, nn, nn, oo (.aload_n 0) 27, of (.getfield 105) 30 10 4, nn, nn, oo (.iload_n 1) 31, oo .iaload 32],
  [oo (.iconst 1) 33, oo .iadd 34, om (.invokestatic 108) 37 0 yJ9_min_7cf53, nn, nn, oo .iastore 38, oo (.iinc 1 1) 41, nn, nn, oj (.goto (-39)) 44 2, nn, nn, oo .return_ 45, nn, nn, nn]])
def P_X9_lieOn : List (List (List Nat)) := [[[],[],[],[],[383],[],[],[],[],[],[],[],[872,739,740],[],[],[]], [[],[],[],[394],[],[],[],[],[],[],[],[394],[],[],[],[]], [[],[],[873,515],[],[],[],[],[],[],[],[],[],[],[],[],[]]]
set_option maxRecDepth 100000 in
theorem kT_X9_lieOn : ab_okT M_X9_lieOn := ab_okT_of (P := P_X9_lieOn) 48 (Nat.le_of_ble_eq_true rfl) (fun pc h => ab_chkR_of (lo := 0) (len := 48) (by decide +kernel) pc (Nat.zero_le _) (by omega))
theorem kY_X9_lieOn : ab_okY M_X9_lieOn := ab_okY_of 871 116 (by decide +kernel)
def M_X9_blow : ab_M := (yX9_blow, cX9_blow, 7, none, 9, 2, [
  [oo (.aload_n 2) 1, oo (.aload_n 0) 2, of (.getfield 18) 5 9 1, nn, nn, om (.invokevirtual 35) 8 0 yX10_countAll, nn, nn, oo (.iconst 0) 9, oo (.istore_n 3) 10, oo (.iload_n 3) 11, oo (.aload_n 2) 12, of (.getfield 39) 15 10 1, nn, nn, oj (.if_icmp .ge 126) 18 141],
  [nn, nn, oo (.aload_n 2) 19, of (.getfield 22) 22 10 3, nn, nn, oo (.iload_n 3) 23, oo .iaload 24, oo (.istore 4) 26, nn, oo (.iload 4) 28, nn, oo (.bipush 80) 30, nn, oj (.if_icmp .lt 6) 33 36, nn],
  [nn, oj (.goto 102) 36 135, nn, nn, oo (.aload_n 0) 37, of (.getfield 12) 40 9 0, nn, nn, oo (.iconst 0) 41, oo (.aload_n 1) 42, oo (.aload_n 2) 43, oo (.iload_n 3) 44, oo (.aload_n 0) 45, of (.getfield 18) 48 9 1, nn, nn],
  [oo (.iload 4) 50, nn, oo .iaload 51, om (.invokevirtual 31) 54 0 yX1_ofPiece, nn, nn, oj (.ifCond .le 61) 57 115, nn, nn, oo (.iload 4) 59, nn, oo (.bipush 10) 61, nn, oo .irem 62, oo (.aload_n 1) 63, of (.getfield 113) 66 5 15],
  [nn, nn, oo .iadd 67, oo (.bipush 9) 69, nn, om (.invokestatic 116) 72 1 yX11_held, nn, nn, oo (.istore 5) 74, nn, oo (.iload 4) 76, nn, oo (.bipush 10) 78, nn, oo .idiv 79, oo (.aload_n 1) 80],
  [of (.getfield 119) 83 5 16, nn, nn, oo .iadd 84, oo (.bipush 7) 86, nn, om (.invokestatic 116) 89 1 yX11_held, nn, nn, oo (.istore 6) 91, nn, oo (.aload_n 2) 92, of (.getfield 22) 95 10 3, nn, nn, oo (.iload_n 3) 96],
  [oo (.bipush 10) 98, nn, oo (.iload 6) 100, nn, oo .imul 101, oo (.iload 5) 103, nn, oo .iadd 104, oo .iastore 105, oo (.aload_n 2) 106, of (.getfield 105) 109 10 4, nn, nn, oo (.iload_n 3) 110, oo (.iconst 0) 111, oo .iastore 112],
  [oj (.goto 23) 115 135, nn, nn, oo (.aload_n 2) 116, of (.getfield 105) 119 10 4, nn, nn, oo (.iload_n 3) 120, oo (.sipush 999) 123, nn, nn, oo (.aload_n 2) 124, of (.getfield 105) 127 10 4, nn, nn, oo (.iload_n 3) 128],
  [oo .iaload 129, oo (.iconst 1) 130, oo .iadd 131, om (.invokestatic 108) 134 0 yJ9_min_7cf53, nn, nn, oo .iastore 135, oo (.iinc 3 1) 138, nn, nn, oj (.goto (-128)) 141 10, nn, nn, oo .return_ 142, nn, nn]])
def P_X9_blow : List (List (List Nat)) := [[[],[],[461],[],[],[878,879,880],[],[],[],[],[],[],[383],[],[],[]], [[],[],[],[390],[],[],[],[],[],[],[],[],[],[],[],[]], [[],[],[],[],[],[460],[],[],[],[],[],[],[],[461],[],[]], [[],[],[],[759,760,761],[],[],[],[],[],[],[],[],[],[],[],[322]], [[],[],[],[],[],[778,882],[],[],[],[],[],[],[],[],[],[]], [[325],[],[],[],[],[],[778,882],[],[],[],[],[],[390],[],[],[]], [[],[],[],[],[],[],[],[],[],[],[394],[],[],[],[],[]], [[],[],[],[],[394],[],[],[],[],[],[],[],[394],[],[],[]], [[],[],[],[873,515],[],[],[],[],[],[],[],[],[],[],[],[]]]
set_option maxRecDepth 100000 in
theorem kT_X9_blow : ab_okT M_X9_blow := ab_okT_of (P := P_X9_blow) 144 (Nat.le_of_ble_eq_true rfl) (fun pc h => ab_chkR_of (lo := 0) (len := 144) (by decide +kernel) pc (Nat.zero_le _) (by omega))
theorem kY_X9_blow : ab_okY M_X9_blow := ab_okY_of 877 116 (by decide +kernel)
