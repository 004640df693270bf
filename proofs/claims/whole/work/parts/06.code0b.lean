def M_X1_init : ab_M := (yX1_init, cX1_init, 1, none, 1, 0, [
  [oo (.aload_n 0) 1, om (.invokespecial 3) 4 0 Lib.objectInit, nn, nn, oo (.aload_n 0) 5, oo (.bipush 9) 7, nn, oo (.newarray .int) 9, nn, of (.putfield 9) 12 1 0, nn, nn, oo (.aload_n 0) 13, oo (.bipush 32) 15, nn, oo (.newarray .int) 17],
  [nn, of (.putfield 15) 20 1 1, nn, nn, oo .return_ 21, nn, nn, nn, nn, nn, nn, nn, nn, nn, nn, nn]])
def P_X1_init : List (List (List Nat)) := [[[],[452,132],[],[],[],[],[],[233],[],[453],[],[],[],[],[],[233]], [[],[454],[],[],[],[],[],[],[],[],[],[],[],[],[],[]]]
set_option maxRecDepth 100000 in
theorem kT_X1_init : ab_okT M_X1_init := ab_okT_of (P := P_X1_init) 32 (Nat.le_of_ble_eq_true rfl) (fun pc h => ab_chkR_of (lo := 0) (len := 32) (by decide +kernel) pc (Nat.zero_le _) (by omega))
theorem kY_X1_init : ab_okY M_X1_init := ab_okY_of 451 117 (by decide +kernel)
def M_X1_ofPiece : ab_M := (yX1_ofPiece, cX1_ofPiece, 7, (some .int), 1, 5, [
  [oo (.aload_n 3) 1, of (.getfield 18) 4 10 3, nn, nn, oo (.iload 4) 6, nn, oo .iaload 7, oo (.istore 6) 9, nn, oo (.aload_n 0) 10, of (.getfield 9) 13 1 0, nn, nn, oo (.iconst 0) 14, oo (.aload_n 2) 15, of (.getfield 23) 18 5 7],
  [nn, nn, oo (.iload 4) 20, nn, oo .iaload 21, oo .iastore 22, oo (.aload_n 0) 23, of (.getfield 9) 26 1 0, nn, nn, oo (.iconst 1) 27, oo (.iload 6) 29, nn, oo (.bipush 10) 31, nn, oo .irem 32],
  [oo .iastore 33, oo (.aload_n 0) 34, of (.getfield 9) 37 1 0, nn, nn, oo (.iconst 2) 38, oo (.iload 6) 40, nn, oo (.bipush 10) 42, nn, oo .idiv 43, oo .iastore 44, oo (.aload_n 0) 45, of (.getfield 9) 48 1 0, nn, nn],
  [oo (.iconst 3) 49, oo (.aload_n 3) 50, of (.getfield 28) 53 10 0, nn, nn, oo .iastore 54, oo (.aload_n 0) 55, of (.getfield 9) 58 1 0, nn, nn, oo (.iconst 4) 59, oo (.aload_n 3) 60, of (.getfield 32) 63 10 4, nn, nn, oo (.iload 4) 65],
  [nn, oo .iaload 66, oo .iastore 67, oo (.aload_n 0) 68, of (.getfield 9) 71 1 0, nn, nn, oo (.iconst 5) 72, oo (.iconst 0) 73, oo .iastore 74, oo (.aload_n 0) 75, of (.getfield 9) 78 1 0, nn, nn, oo (.bipush 6) 80, nn],
  [oo (.iconst 0) 81, oo .iastore 82, oo (.aload_n 0) 83, of (.getfield 9) 86 1 0, nn, nn, oo (.bipush 7) 88, nn, oo (.iload 5) 90, nn, oo .iastore 91, oo (.aload_n 0) 92, of (.getfield 9) 95 1 0, nn, nn, oo (.bipush 8) 97],
  [nn, oo (.iload 4) 99, nn, oo .iastore 100, oo (.aload_n 0) 101, oo (.aload_n 2) 102, oo (.iload_n 1) 103, om (.invokevirtual 35) 106 0 yX1_value, nn, nn, oo .ireturn 107, nn, nn, nn, nn, nn]])
def P_X1_ofPiece : List (List (List Nat)) := [[[],[389],[],[],[],[],[],[],[],[],[453],[],[],[],[],[300]], [[],[],[],[],[],[],[],[453],[],[],[],[],[],[],[],[]], [[],[],[453],[],[],[],[],[],[],[],[],[],[],[453],[],[]], [[],[],[378],[],[],[],[],[453],[],[],[],[],[392],[],[],[]], [[],[],[],[],[453],[],[],[],[],[],[],[453],[],[],[],[]], [[],[],[],[453],[],[],[],[],[],[],[],[],[453],[],[],[]], [[],[],[],[],[],[],[],[763,765,24],[],[],[],[],[],[],[],[]]]
set_option maxRecDepth 100000 in
theorem kT_X1_ofPiece : ab_okT M_X1_ofPiece := ab_okT_of (P := P_X1_ofPiece) 112 (Nat.le_of_ble_eq_true rfl) (fun pc h => ab_chkR_of (lo := 0) (len := 112) (by decide +kernel) pc (Nat.zero_le _) (by omega))
theorem kY_X1_ofPiece : ab_okY M_X1_ofPiece := ab_okY_of 762 117 (by decide +kernel)
def M_X1_pays : ab_M := (yX1_pays, cX1_pays, 5, (some .int), 1, 4, [
  [oo (.aload_n 0) 1, of (.getfield 9) 4 1 0, nn, nn, oo (.iconst 0) 5, om (.invokestatic 39) 8 0 yJ7_fill_53178, nn, nn, oo (.aload_n 0) 9, of (.getfield 9) 12 1 0, nn, nn, oo (.iconst 0) 13, oo (.aload_n 1) 14, of (.getfield 23) 17 5 7, nn],
  [nn, oo (.iload 4) 19, nn, oo .iaload 20, oo .iastore 21, oo (.aload_n 0) 22, of (.getfield 9) 25 1 0, nn, nn, oo (.iconst 3) 26, oo (.aload_n 2) 27, of (.getfield 28) 30 10 0, nn, nn, oo .iastore 31, oo (.aload_n 0) 32],
  [of (.getfield 9) 35 1 0, nn, nn, oo (.iconst 5) 36, oo (.aload_n 1) 37, of (.getfield 45) 40 5 11, nn, nn, oo (.iload_n 3) 41, oo .iaload 42, oo .iastore 43, oo (.aload_n 0) 44, of (.getfield 9) 47 1 0, nn, nn, oo (.bipush 6) 49],
  [nn, oo (.aload_n 2) 50, of (.getfield 48) 53 10 7, nn, nn, oo (.iload_n 3) 54, oo .iaload 55, oo .iastore 56, oo (.aload_n 0) 57, of (.getfield 9) 60 1 0, nn, nn, oo (.bipush 8) 62, nn, oo (.iload_n 3) 63, oo .iastore 64],
  [oo (.aload_n 0) 65, oo (.aload_n 1) 66, oo (.iconst 2) 67, om (.invokevirtual 35) 70 0 yX1_value, nn, nn, oo .ireturn 71, nn, nn, nn, nn, nn, nn, nn, nn, nn]])
def P_X1_pays : List (List (List Nat)) := [[[],[453],[],[],[],[801,521],[],[],[],[453],[],[],[],[],[300],[]], [[],[],[],[],[],[],[453],[],[],[],[],[378],[],[],[],[]], [[453],[],[],[],[],[310],[],[],[],[],[],[],[453],[],[],[]], [[],[],[402],[],[],[],[],[],[],[453],[],[],[],[],[],[]], [[],[],[],[763,765,24],[],[],[],[],[],[],[],[],[],[],[],[]]]
set_option maxRecDepth 100000 in
theorem kT_X1_pays : ab_okT M_X1_pays := ab_okT_of (P := P_X1_pays) 80 (Nat.le_of_ble_eq_true rfl) (fun pc h => ab_chkR_of (lo := 0) (len := 80) (by decide +kernel) pc (Nat.zero_le _) (by omega))
theorem kY_X1_pays : ab_okY M_X1_pays := ab_okY_of 800 117 (by decide +kernel)
def M_X1_value : ab_M := (yX1_value, cX1_value, 8, (some .int), 1, 2, [
  [oo (.aload_n 1) 1, of (.getfield 51) 4 5 12, nn, nn, oo (.astore_n 3) 5, oo (.aload_n 1) 6, of (.getfield 54) 9 5 13, nn, nn, oo (.iload_n 2) 10, oo .iaload 11, oo (.istore 4) 13, nn, oo (.iconst 0) 14, oo (.istore 5) 16, nn],
  [oo (.iconst 0) 17, oo (.istore 6) 19, nn, oo (.iload 6) 21, nn, oo (.sipush 408) 24, nn, nn, oj (.if_icmp .ge 223) 27 247, nn, nn, oo (.iload 4) 29, nn, oj (.ifCond .lt 218) 32 247, nn, nn],
  [oo (.iload 4) 34, nn, oo (.sipush 408) 37, nn, nn, oj (.if_icmp .ge 210) 40 247, nn, nn, oo (.iload 5) 42, nn, oo (.bipush 32) 44, nn, oj (.if_icmp .ge 203) 47 247, nn, nn, oo (.aload_n 3) 48],
  [oo (.iload 4) 50, nn, oo .iaload 51, oo (.istore 7) 53, nn, oo (.iinc 4 1) 56, nn, nn, oo (.iload 7) 58, nn, oj (.ifCond .lt 18) 61 76, nn, nn, oo (.aload_n 0) 62, of (.getfield 15) 65 1 1, nn],
  [nn, oo (.iload 5) 67, nn, oo (.iload 7) 69, nn, oo .iastore 70, oo (.iinc 5 1) 73, nn, nn, oj (.goto 168) 76 241, nn, nn, oo (.iload 7) 78, nn, oo (.bipush (-7)) 80, nn],
  [oj (.if_icmp .gt 22) 83 102, nn, nn, oo (.aload_n 0) 84, of (.getfield 15) 87 1 1, nn, nn, oo (.iload 5) 89, nn, oo (.aload_n 0) 90, oo (.iload 7) 92, nn, om (.invokevirtual 57) 95 0 yX1_varOf, nn, nn, oo .iastore 96],
  [oo (.iinc 5 1) 99, nn, nn, oj (.goto 142) 102 241, nn, nn, oo (.iload 7) 104, nn, oo (.bipush (-6)) 106, nn, oj (.if_icmp .ne 22) 109 128, nn, nn, oo (.iload 5) 111, nn, oj (.ifCond .le 15) 114 126],
  [nn, nn, oo (.aload_n 0) 115, of (.getfield 15) 118 1 1, nn, nn, oo (.iload 5) 120, nn, oo (.iconst 1) 121, oo .isub 122, oo .iaload 123, oj (.goto 4) 126 127, nn, nn, oo (.iconst 0) 127, oo .ireturn 128],
  [oo (.iload 5) 130, nn, oo (.iconst 2) 131, oj (.if_icmp .lt 30) 134 161, nn, nn, oo (.iload 4) 136, nn, oo (.sipush 408) 139, nn, nn, oj (.if_icmp .ge 22) 142 161, nn, nn, oo (.iload 7) 144, nn],
  [oo (.bipush (-4)) 146, nn, oj (.if_icmp .ne 17) 149 163, nn, nn, oo (.aload_n 0) 150, of (.getfield 15) 153 1 1, nn, nn, oo (.iload 5) 155, nn, oo (.iconst 1) 156, oo .isub 157, oo .iaload 158, oj (.ifCond .ne 5) 161 163, nn],
  [nn, oo (.iconst 0) 162, oo .ireturn 163, oo (.iload 7) 165, nn, oo (.bipush (-5)) 167, nn, oj (.if_icmp .ne 41) 170 208, nn, nn, oo (.iinc 5 (-2)) 173, nn, nn, oo (.aload_n 0) 174, of (.getfield 15) 177 1 1, nn],
  [nn, oo (.iload 5) 179, nn, oo .iaload 180, oo (.aload_n 0) 181, of (.getfield 15) 184 1 1, nn, nn, oo (.iload 5) 186, nn, oo (.iconst 1) 187, oo .iadd 188, oo .iaload 189, oj (.if_icmp .ge 10) 192 199, nn, nn],
  [oo (.iload 4) 194, nn, oo (.iconst 1) 195, oo .iadd 196, oj (.goto 7) 199 203, nn, nn, oo (.aload_n 3) 200, oo (.iload 4) 202, nn, oo .iaload 203, oo (.istore 4) 205, nn, oj (.goto 36) 208 241, nn, nn],
  [oo (.iinc 5 (-1)) 211, nn, nn, oo (.aload_n 0) 212, of (.getfield 15) 215 1 1, nn, nn, oo (.iload 5) 217, nn, oo (.iconst 1) 218, oo .isub 219, oo (.iload 7) 221, nn, oo (.aload_n 0) 222, of (.getfield 15) 225 1 1, nn],
  [nn, oo (.iload 5) 227, nn, oo (.iconst 1) 228, oo .isub 229, oo .iaload 230, oo (.aload_n 0) 231, of (.getfield 15) 234 1 1, nn, nn, oo (.iload 5) 236, nn, oo .iaload 237, om (.invokestatic 61) 240 0 yX1_joined, nn, nn],
  [oo .iastore 241, oo (.iinc 6 1) 244, nn, nn, oj (.goto (-225)) 247 19, nn, nn, oo (.iconst 0) 248, oo .ireturn 249, nn, nn, nn, nn, nn, nn, nn]])
def P_X1_value : List (List (List Nat)) := [[[],[314],[],[],[],[],[316],[],[],[],[],[],[],[],[],[]], [[],[],[],[],[],[],[],[],[],[],[],[],[],[],[],[]], [[],[],[],[],[],[],[],[],[],[],[],[],[],[],[],[]], [[],[],[],[],[],[],[],[],[],[],[],[],[],[],[454],[]], [[],[],[],[],[],[],[],[],[],[],[],[],[],[],[],[]], [[],[],[],[],[454],[],[],[],[],[],[],[],[767,769,25],[],[],[]], [[],[],[],[],[],[],[],[],[],[],[],[],[],[],[],[]], [[],[],[],[454],[],[],[],[],[],[],[],[],[],[],[],[]], [[],[],[],[],[],[],[],[],[],[],[],[],[],[],[],[]], [[],[],[],[],[],[],[454],[],[],[],[],[],[],[],[],[]], [[],[],[],[],[],[],[],[],[],[],[],[],[],[],[454],[]], [[],[],[],[],[],[454],[],[],[],[],[],[],[],[],[],[]], [[],[],[],[],[],[],[],[],[],[],[],[],[],[],[],[]], [[],[],[],[],[454],[],[],[],[],[],[],[],[],[],[454],[]], [[],[],[],[],[],[],[],[454],[],[],[],[],[],[771,772],[],[]], [[],[],[],[],[],[],[],[],[],[],[],[],[],[],[],[]]]
set_option maxRecDepth 100000 in
theorem kT_X1_value : ab_okT M_X1_value := ab_okT_of (P := P_X1_value) 256 (Nat.le_of_ble_eq_true rfl) (fun pc h => ab_chkR_of (lo := 0) (len := 256) (by decide +kernel) pc (Nat.zero_le _) (by omega))
theorem kY_X1_value : ab_okY M_X1_value := ab_okY_of 766 117 (by decide +kernel)
def M_X1_varOf : ab_M := (yX1_varOf, cX1_varOf, 3, (some .int), 1, 1, [
  [oo (.bipush (-7)) 2, nn, oo (.iload_n 1) 3, oo .isub 4, oo (.istore_n 2) 5, oo (.iload_n 2) 6, oj (.ifCond .lt 18) 9 24, nn, nn, oo (.iload_n 2) 10, oo (.bipush 9) 12, nn, oj (.if_icmp .ge 12) 15 24, nn, nn, oo (.aload_n 0) 16],
  [of (.getfield 9) 19 1 0, nn, nn, oo (.iload_n 2) 20, oo .iaload 21, oj (.goto 4) 24 25, nn, nn, oo (.iconst 0) 25, oo .ireturn 26, nn, nn, nn, nn, nn, nn]])
def P_X1_varOf : List (List (List Nat)) := [[[],[],[],[],[],[],[],[],[],[],[],[],[],[],[],[]], [[453],[],[],[],[],[],[],[],[],[],[],[],[],[],[],[]]]
set_option maxRecDepth 100000 in
theorem kT_X1_varOf : ab_okT M_X1_varOf := ab_okT_of (P := P_X1_varOf) 32 (Nat.le_of_ble_eq_true rfl) (fun pc h => ab_chkR_of (lo := 0) (len := 32) (by decide +kernel) pc (Nat.zero_le _) (by omega))
theorem kY_X1_varOf : ab_okY M_X1_varOf := ab_okY_of 770 117 (by decide +kernel)
def M_X1_joined : ab_M := (yX1_joined, cX1_joined, 3, (some .int), 1, 3, [
  [oo (.iload_n 0) 1, oo (.tableswitch 39 (-3) (-1) #[35, 31, 27]) 28, nn, nn, nn, nn, nn, nn, nn, nn, nn, nn, nn, nn, nn, nn],
  [nn, nn, nn, nn, nn, nn, nn, nn, nn, nn, nn, nn, oo (.iload_n 1) 29, oo (.iload_n 2) 30, oo .iadd 31, oo .ireturn 32],
  [oo (.iload_n 1) 33, oo (.iload_n 2) 34, oo .isub 35, oo .ireturn 36, oo (.iload_n 1) 37, oo (.iload_n 2) 38, oo .imul 39, oo .ireturn 40, oo (.iload_n 2) 41, oj (.ifCond .ne 7) 44 48, nn, nn, oo (.iconst 0) 45, oj (.goto 6) 48 51, nn, nn],
  [oo (.iload_n 1) 49, oo (.iload_n 2) 50, oo .idiv 51, oo .ireturn 52, nn, nn, nn, nn, nn, nn, nn, nn, nn, nn, nn, nn]])
def P_X1_joined : List (List (List Nat)) := [[[],[],[],[],[],[],[],[],[],[],[],[],[],[],[],[]], [[],[],[],[],[],[],[],[],[],[],[],[],[],[],[],[]], [[],[],[],[],[],[],[],[],[],[],[],[],[],[],[],[]], [[],[],[],[],[],[],[],[],[],[],[],[],[],[],[],[]]]
set_option maxRecDepth 100000 in
theorem kT_X1_joined : ab_okT M_X1_joined := ab_okT_of (P := P_X1_joined) 64 (Nat.le_of_ble_eq_true rfl) (fun pc h => ab_chkR_of (lo := 0) (len := 64) (by decide +kernel) pc (Nat.zero_le _) (by omega))
theorem kY_X1_joined : ab_okY M_X1_joined := ab_okY_of 773 117 (by decide +kernel)
