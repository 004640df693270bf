def M_X11_init : ab_M := (yX11_init, cX11_init, 1, none, 11, 0, [
  [oo (.aload_n 0) 1, om (.invokespecial 3) 4 0 Lib.objectInit, nn, nn, oo (.aload_n 0) 5, of (.new 9) 8 4 0, nn, nn, oo .dup 9, om (.invokespecial 11) 12 1 yX4_init, nn, nn, of (.putfield 12) 15 11 0, nn, nn, oo (.aload_n 0) 16],
  [of (.new 16) 19 3 0, nn, nn, oo .dup 20, om (.invokespecial 18) 23 1 yX3_init, nn, nn, of (.putfield 19) 26 11 1, nn, nn, oo (.aload_n 0) 27, of (.new 23) 30 5 0, nn, nn, oo .dup 31, om (.invokespecial 25) 34 0 yX5_init],
  [nn, nn, of (.putfield 26) 37 11 2, nn, nn, oo (.aload_n 0) 38, of (.new 23) 41 5 0, nn, nn, oo .dup 42, om (.invokespecial 25) 45 0 yX5_init, nn, nn, of (.putfield 30) 48 11 3, nn, nn],
  [oo (.aload_n 0) 49, of (.new 33) 52 10 0, nn, nn, oo .dup 53, om (.invokespecial 35) 56 1 yX10_init, nn, nn, of (.putfield 36) 59 11 4, nn, nn, oo (.aload_n 0) 60, of (.new 33) 63 10 0, nn, nn, oo .dup 64],
  [om (.invokespecial 35) 67 1 yX10_init, nn, nn, of (.putfield 40) 70 11 5, nn, nn, oo (.aload_n 0) 71, of (.new 43) 74 2 0, nn, nn, oo .dup 75, om (.invokespecial 45) 78 1 yX2_init, nn, nn, of (.putfield 46) 81 11 6, nn],
  [nn, oo (.aload_n 0) 82, oo (.iconst 3) 83, oo (.anewarray 33) 86, nn, nn, of (.putfield 50) 89 11 7, nn, nn, oo (.aload_n 0) 90, of (.new 54) 93 9 0, nn, nn, oo .dup 94, om (.invokespecial 56) 97 1 yX9_init, nn],
  [nn, of (.putfield 57) 100 11 9, nn, nn, oo (.aload_n 0) 101, of (.new 61) 104 8 0, nn, nn, oo .dup 105, om (.invokespecial 63) 108 1 yX8_init, nn, nn, of (.putfield 64) 111 11 10, nn, nn, oo (.aload_n 0) 112],
  [of (.new 68) 115 0 0, nn, nn, oo .dup 116, om (.invokespecial 70) 119 1 yX0_init, nn, nn, of (.putfield 71) 122 11 11, nn, nn, oo (.aload_n 0) 123, of (.new 75) 126 7 0, nn, nn, oo .dup 127, om (.invokespecial 77) 130 1 yX7_init],
  [nn, nn, of (.putfield 78) 133 11 12, nn, nn, oo (.aload_n 0) 134, oo (.bipush 80) 136, nn, oo (.newarray .int) 138, nn, of (.putfield 82) 141 11 13, nn, nn, oo (.aload_n 0) 142, oo (.iconst (-1)) 143, of (.putfield 86) 146 11 14],
  [nn, nn, oo (.aload_n 0) 147, of (.getfield 36) 150 11 4, nn, nn, oo (.aload_n 0) 151, of (.getfield 26) 154 11 2, nn, nn, om (.invokevirtual 90) 157 0 yX10_begin, nn, nn, oo .return_ 158, nn, nn]])
def P_X11_init : List (List (List Nat)) := [[[],[131,132],[],[],[],[134,135,106],[],[],[],[137,136],[],[],[523],[],[],[]], [[150,151,107],[],[],[],[153,152],[],[],[524],[],[],[],[261,262,113],[],[],[],[263,264]], [[],[],[525],[],[],[],[261,262,113],[],[],[],[263,264],[],[],[526],[],[]], [[],[371,372,114],[],[],[],[374,373],[],[],[527],[],[],[],[371,372,114],[],[],[]], [[374,373],[],[],[528],[],[],[],[422,423,115],[],[],[],[425,424],[],[],[529],[]], [[],[],[],[371],[],[],[530],[],[],[],[441,442,116],[],[],[],[444,443],[]], [[],[532],[],[],[],[467,468,118],[],[],[],[470,469],[],[],[533],[],[],[]], [[486,487,119],[],[],[],[489,488],[],[],[534],[],[],[],[496,497,120],[],[],[],[499,498]], [[],[],[535],[],[],[],[],[],[233],[],[536],[],[],[],[],[537]], [[],[],[],[527],[],[],[],[525],[],[],[510,511,512],[],[],[],[],[]]]
set_option maxRecDepth 100000 in
theorem kT_X11_init : ab_okT M_X11_init := ab_okT_of (P := P_X11_init) 160 (Nat.le_of_ble_eq_true rfl) (fun pc h => ab_chkR_of (lo := 0) (len := 160) (by decide +kernel) pc (Nat.zero_le _) (by omega))
theorem kY_X11_init : ab_okY M_X11_init := ab_okY_of 130 105 (by decide +kernel)
def M_X11_feed : ab_M := (yX11_feed, cX11_feed, 6, (some .int), 11, 5, [
  [oo (.aload_n 0) 1, of (.getfield 12) 4 11 0, nn, nn, of (.getfield 94) 7 4 1, nn, nn, oo (.bipush 20) 9, nn, oo .iadd 10, oo (.sipush 2000) 13, nn, nn, oj (.if_icmp .le 5) 16 18, nn, nn],
  [oo (.iconst (-1)) 17, oo .ireturn 18, oo (.aload_n 0) 19, of (.getfield 12) 22 11 0, nn, nn, oo (.iload_n 1) 23, om (.invokevirtual 97) 26 0 yX4_add, nn, nn, oo (.aload_n 0) 27, of (.getfield 12) 30 11 0, nn, nn, oo (.iload_n 2) 31, om (.invokevirtual 97) 34 0 yX4_add],
  [nn, nn, oo (.aload_n 0) 35, of (.getfield 12) 38 11 0, nn, nn, oo (.iload_n 3) 39, om (.invokevirtual 97) 42 0 yX4_add, nn, nn, oo (.aload_n 0) 43, of (.getfield 12) 46 11 0, nn, nn, oo (.iload 4) 48, nn],
  [om (.invokevirtual 97) 51 0 yX4_add, nn, nn, oo (.aload_n 0) 52, of (.getfield 12) 55 11 0, nn, nn, oo (.iload 5) 57, nn, om (.invokevirtual 97) 60 0 yX4_add, nn, nn, oo (.aload_n 0) 61, of (.getfield 12) 64 11 0, nn, nn],
  [of (.getfield 94) 67 4 1, nn, nn, oo .ireturn 68, nn, nn, nn, nn, nn, nn, nn, nn, nn, nn, nn, nn]])
def P_X11_feed : List (List (List Nat)) := [[[],[523],[],[],[141],[],[],[],[],[],[],[],[],[],[],[]], [[],[],[],[523],[],[],[],[573,574,575],[],[],[],[523],[],[],[],[573,574,575]], [[],[],[],[523],[],[],[],[573,574,575],[],[],[],[523],[],[],[],[]], [[573,574,575],[],[],[],[523],[],[],[],[],[573,574,575],[],[],[],[523],[],[]], [[141],[],[],[],[],[],[],[],[],[],[],[],[],[],[],[]]]
set_option maxRecDepth 100000 in
theorem kT_X11_feed : ab_okT M_X11_feed := ab_okT_of (P := P_X11_feed) 80 (Nat.le_of_ble_eq_true rfl) (fun pc h => ab_chkR_of (lo := 0) (len := 80) (by decide +kernel) pc (Nat.zero_le _) (by omega))
theorem kY_X11_feed : ab_okY M_X11_feed := ab_okY_of 572 105 (by decide +kernel)
def M_X11_back : ab_M := (yX11_back, cX11_back, 2, (some .int), 11, 1, [
  [oo (.iload_n 1) 1, oj (.ifCond .lt 14) 4 15, nn, nn, oo (.iload_n 1) 5, oo (.aload_n 0) 6, of (.getfield 12) 9 11 0, nn, nn, of (.getfield 94) 12 4 1, nn, nn, oj (.if_icmp .le 5) 15 17, nn, nn, oo (.iconst (-1)) 16],
  [oo .ireturn 17, oo (.aload_n 0) 18, of (.getfield 12) 21 11 0, nn, nn, oo .dup 22, of (.getfield 94) 25 4 1, nn, nn, oo (.iload_n 1) 26, oo .isub 27, of (.putfield 94) 30 4 1, nn, nn, oo (.aload_n 0) 31, of (.getfield 12) 34 11 0],
  [nn, nn, of (.getfield 94) 37 4 1, nn, nn, oo .ireturn 38, nn, nn, nn, nn, nn, nn, nn, nn, nn, nn]])
def P_X11_back : List (List (List Nat)) := [[[],[],[],[],[],[],[523],[],[],[141],[],[],[],[],[],[]], [[],[],[523],[],[],[],[141],[],[],[],[],[141],[],[],[],[523]], [[],[],[141],[],[],[],[],[],[],[],[],[],[],[],[],[]]]
set_option maxRecDepth 100000 in
theorem kT_X11_back : ab_okT M_X11_back := ab_okT_of (P := P_X11_back) 48 (Nat.le_of_ble_eq_true rfl) (fun pc h => ab_chkR_of (lo := 0) (len := 48) (by decide +kernel) pc (Nat.zero_le _) (by omega))
theorem kY_X11_back : ab_okY M_X11_back := ab_okY_of 580 105 (by decide +kernel)
def M_X11_read : ab_M := (yX11_read, cX11_read, 3, (some .int), 11, 0, [
  [oo (.aload_n 0) 1, of (.getfield 19) 4 11 1, nn, nn, oo (.aload_n 0) 5, of (.getfield 30) 8 11 3, nn, nn, oo (.aload_n 0) 9, of (.getfield 12) 12 11 0, nn, nn, om (.invokevirtual 101) 15 0 yX3_fill, nn, nn, oo (.istore_n 1) 16],
  [oo (.aload_n 0) 17, of (.getfield 12) 20 11 0, nn, nn, oo (.iconst 0) 21, of (.putfield 94) 24 4 1, nn, nn, oo (.aload_n 0) 25, oo (.iconst (-1)) 26, of (.putfield 86) 29 11 14, nn, nn, oo (.iload_n 1) 30, oj (.ifCond .eq 16) 33 46, nn],
  [nn, oo (.aload_n 0) 34, oo (.aload_n 0) 35, of (.getfield 19) 38 11 1, nn, nn, of (.getfield 105) 41 3 0, nn, nn, of (.putfield 86) 44 11 14, nn, nn, oo (.iload_n 1) 45, oo .ireturn 46, oo (.aload_n 0) 47, of (.getfield 26) 50 11 2],
  [nn, nn, oo (.astore_n 2) 51, oo (.aload_n 0) 52, oo (.aload_n 0) 53, of (.getfield 30) 56 11 3, nn, nn, of (.putfield 26) 59 11 2, nn, nn, oo (.aload_n 0) 60, oo (.aload_n 2) 61, of (.putfield 30) 64 11 3, nn, nn],
  [oo (.aload_n 0) 65, of (.getfield 36) 68 11 4, nn, nn, oo (.aload_n 0) 69, of (.getfield 26) 72 11 2, nn, nn, om (.invokevirtual 90) 75 0 yX10_begin, nn, nn, oo (.aload_n 0) 76, of (.getfield 46) 79 11 6, nn, nn, oo (.iconst 0) 80],
  [of (.putfield 108) 83 2 0, nn, nn, oo (.aload_n 0) 84, of (.getfield 78) 87 11 12, nn, nn, oo (.iconst 0) 88, of (.putfield 111) 91 7 0, nn, nn, oo (.aload_n 0) 92, oo (.iconst 0) 93, of (.putfield 112) 96 11 8, nn, nn],
  [oo (.iconst 0) 97, oo .ireturn 98, nn, nn, nn, nn, nn, nn, nn, nn, nn, nn, nn, nn, nn, nn]])
def P_X11_read : List (List (List Nat)) := [[[],[524],[],[],[],[526],[],[],[],[523],[],[],[585,586,587],[],[],[]], [[],[523],[],[],[],[141],[],[],[],[],[537],[],[],[],[],[]], [[],[],[],[524],[],[],[236],[],[],[537],[],[],[],[],[],[525]], [[],[],[],[],[],[526],[],[],[525],[],[],[],[],[526],[],[]], [[],[527],[],[],[],[525],[],[],[510,511,512],[],[],[],[529],[],[],[]], [[431],[],[],[],[535],[],[],[],[503],[],[],[],[],[531],[],[]], [[],[],[],[],[],[],[],[],[],[],[],[],[],[],[],[]]]
set_option maxRecDepth 100000 in
theorem kT_X11_read : ab_okT M_X11_read := ab_okT_of (P := P_X11_read) 112 (Nat.le_of_ble_eq_true rfl) (fun pc h => ab_chkR_of (lo := 0) (len := 112) (by decide +kernel) pc (Nat.zero_le _) (by omega))
theorem kY_X11_read : ab_okY M_X11_read := ab_okY_of 584 105 (by decide +kernel)
def M_X11_place : ab_M := (yX11_place, cX11_place, 1, (some .int), 11, 0, [
  [oo (.aload_n 0) 1, of (.getfield 86) 4 11 14, nn, nn, oo .ireturn 5, nn, nn, nn, nn, nn, nn, nn, nn, nn, nn, nn]])
def P_X11_place : List (List (List Nat)) := [[[],[537],[],[],[],[],[],[],[],[],[],[],[],[],[],[]]]
set_option maxRecDepth 100000 in
theorem kT_X11_place : ab_okT M_X11_place := ab_okT_of (P := P_X11_place) 16 (Nat.le_of_ble_eq_true rfl) (fun pc h => ab_chkR_of (lo := 0) (len := 16) (by decide +kernel) pc (Nat.zero_le _) (by omega))
theorem kY_X11_place : ab_okY M_X11_place := ab_okY_of 729 105 (by decide +kernel)
def M_X11_piece : ab_M := (yX11_piece, cX11_piece, 5, (some .int), 11, 2, [
  [oo (.aload_n 0) 1, oo (.iload_n 1) 2, om (.invokevirtual 115) 5 0 yX11_isPiece, nn, nn, oj (.ifCond .ne 5) 8 10, nn, nn, oo (.iconst (-1)) 9, oo .ireturn 10, oo (.aload_n 0) 11, of (.getfield 36) 14 11 4, nn, nn, oo (.iload_n 1) 15, om (.invokevirtual 119) 18 0 yX10_isLying],
  [nn, nn, oo (.istore_n 3) 19, oo (.aload_n 0) 20, of (.getfield 36) 23 11 4, nn, nn, oo (.iload_n 1) 24, om (.invokevirtual 122) 27 0 yX10_cellOf, nn, nn, oo (.istore 4) 29, nn, oo (.iload_n 2) 30, oo (.tableswitch 156 0 7 #[46, 56, 66, 72, 78, 87, 97, 127]) 76, nn],
  [nn, nn, nn, nn, nn, nn, nn, nn, nn, nn, nn, nn, nn, nn, nn, nn],
  [nn, nn, nn, nn, nn, nn, nn, nn, nn, nn, nn, nn, nn, nn, nn, nn],
  [nn, nn, nn, nn, nn, nn, nn, nn, nn, nn, nn, nn, oo (.aload_n 0) 77, of (.getfield 26) 80 11 2, nn, nn],
  [of (.getfield 126) 83 5 7, nn, nn, oo (.iload_n 1) 84, oo .iaload 85, oo .ireturn 86, oo (.aload_n 0) 87, of (.getfield 26) 90 11 2, nn, nn, of (.getfield 129) 93 5 8, nn, nn, oo (.iload_n 1) 94, oo .iaload 95, oo .ireturn 96],
  [oo (.iload 4) 98, nn, oo (.bipush 10) 100, nn, oo .irem 101, oo .ireturn 102, oo (.iload 4) 104, nn, oo (.bipush 10) 106, nn, oo .idiv 107, oo .ireturn 108, oo (.aload_n 0) 109, of (.getfield 36) 112 11 4, nn, nn],
  [oo (.iload_n 1) 113, om (.invokevirtual 132) 116 0 yX10_holder, nn, nn, oo .ireturn 117, oo (.aload_n 0) 118, of (.getfield 36) 121 11 4, nn, nn, of (.getfield 135) 124 10 4, nn, nn, oo (.iload_n 1) 125, oo .iaload 126, oo .ireturn 127, oo (.iload_n 3) 128],
  [oj (.ifCond .eq 27) 131 155, nn, nn, oo (.aload_n 0) 132, of (.getfield 57) 135 11 9, nn, nn, oo (.iconst 0) 136, oo (.aload_n 0) 137, of (.getfield 26) 140 11 2, nn, nn, oo (.aload_n 0) 141, of (.getfield 36) 144 11 4, nn, nn],
  [oo (.iload_n 1) 145, om (.invokevirtual 138) 148 0 yX9_lawOfPiece, nn, nn, oj (.ifCond .le 7) 151 155, nn, nn, oo (.iconst 1) 152, oj (.goto 4) 155 156, nn, nn, oo (.iconst 0) 156, oo .ireturn 157, oo (.iload_n 3) 158, oj (.ifCond .eq 26) 161 184, nn],
  [nn, oo (.aload_n 0) 162, of (.getfield 57) 165 11 9, nn, nn, oo (.iconst 1) 166, oo (.aload_n 0) 167, of (.getfield 26) 170 11 2, nn, nn, oo (.aload_n 0) 171, of (.getfield 36) 174 11 4, nn, nn, oo (.iload_n 1) 175, om (.invokevirtual 138) 178 0 yX9_lawOfPiece],
  [nn, nn, om (.invokestatic 142) 181 0 yX11_money, nn, nn, oj (.goto 4) 184 185, nn, nn, oo (.iconst 0) 185, oo .ireturn 186, oo (.iconst (-1)) 187, oo .ireturn 188, nn, nn, nn, nn]])
def P_X11_piece : List (List (List Nat)) := [[[],[],[734,736,23],[],[],[],[],[],[],[],[],[527],[],[],[],[738,739,740]], [[],[],[],[],[527],[],[],[],[742,743,744],[],[],[],[],[],[],[]], [[],[],[],[],[],[],[],[],[],[],[],[],[],[],[],[]], [[],[],[],[],[],[],[],[],[],[],[],[],[],[],[],[]], [[],[],[],[],[],[],[],[],[],[],[],[],[],[525],[],[]], [[302],[],[],[],[],[],[],[525],[],[],[304],[],[],[],[],[]], [[],[],[],[],[],[],[],[],[],[],[],[],[],[527],[],[]], [[],[750,747,748],[],[],[],[],[527],[],[],[393],[],[],[],[],[],[]], [[],[],[],[],[532],[],[],[],[],[525],[],[],[],[527],[],[]], [[],[751,752,753],[],[],[],[],[],[],[],[],[],[],[],[],[],[]], [[],[],[532],[],[],[],[],[525],[],[],[],[527],[],[],[],[751,752,753]], [[],[],[774,775],[],[],[],[],[],[],[],[],[],[],[],[],[]]]
set_option maxRecDepth 100000 in
theorem kT_X11_piece : ab_okT M_X11_piece := ab_okT_of (P := P_X11_piece) 192 (Nat.le_of_ble_eq_true rfl) (fun pc h => ab_chkR_of (lo := 0) (len := 192) (by decide +kernel) pc (Nat.zero_le _) (by omega))
theorem kY_X11_piece : ab_okY M_X11_piece := ab_okY_of 733 105 (by decide +kernel)
def M_X11_picker : ab_M := (yX11_picker, cX11_picker, 4, (some .int), 11, 2, [
  [oo (.aload_n 0) 1, oo (.iload_n 1) 2, om (.invokevirtual 145) 5 0 yX11_isPicker, nn, nn, oj (.ifCond .ne 5) 8 10, nn, nn, oo (.iconst (-1)) 9, oo .ireturn 10, oo (.aload_n 0) 11, of (.getfield 36) 14 11 4, nn, nn, of (.getfield 148) 17 10 6, nn],
  [nn, oo (.iload_n 1) 18, oo .iaload 19, oo (.istore_n 3) 20, oo (.iload_n 2) 21, oo (.tableswitch 138 0 6 #[43, 56, 69, 79, 89, 105, 121]) 64, nn, nn, nn, nn, nn, nn, nn, nn, nn, nn],
  [nn, nn, nn, nn, nn, nn, nn, nn, nn, nn, nn, nn, nn, nn, nn, nn],
  [nn, nn, nn, nn, nn, nn, nn, nn, nn, nn, nn, nn, nn, nn, nn, nn],
  [oo (.aload_n 0) 65, of (.getfield 36) 68 11 4, nn, nn, of (.getfield 151) 71 10 5, nn, nn, oo (.iload_n 1) 72, oo .iaload 73, oo (.bipush 10) 75, nn, oo .irem 76, oo .ireturn 77, oo (.aload_n 0) 78, of (.getfield 36) 81 11 4, nn],
  [nn, of (.getfield 151) 84 10 5, nn, nn, oo (.iload_n 1) 85, oo .iaload 86, oo (.bipush 10) 88, nn, oo .idiv 89, oo .ireturn 90, oo (.aload_n 0) 91, of (.getfield 26) 94 11 2, nn, nn, of (.getfield 154) 97 5 11, nn],
  [nn, oo (.iload_n 1) 98, oo .iaload 99, oo .ireturn 100, oo (.aload_n 0) 101, of (.getfield 36) 104 11 4, nn, nn, of (.getfield 157) 107 10 7, nn, nn, oo (.iload_n 1) 108, oo .iaload 109, oo .ireturn 110, oo (.iload_n 3) 111, oo (.bipush (-2)) 113],
  [nn, oj (.if_icmp .ne 8) 116 121, nn, nn, oo (.bipush (-2)) 118, nn, oj (.goto 7) 121 125, nn, nn, oo (.iload_n 3) 122, oo (.bipush 10) 124, nn, oo .irem 125, oo .ireturn 126, oo (.iload_n 3) 127, oo (.bipush (-2)) 129],
  [nn, oj (.if_icmp .ne 8) 132 137, nn, nn, oo (.bipush (-2)) 134, nn, oj (.goto 7) 137 141, nn, nn, oo (.iload_n 3) 138, oo (.bipush 10) 140, nn, oo .idiv 141, oo .ireturn 142, oo (.aload_n 0) 143, of (.getfield 57) 146 11 9],
  [nn, nn, oo (.aload_n 0) 147, of (.getfield 26) 150 11 2, nn, nn, oo (.aload_n 0) 151, of (.getfield 36) 154 11 4, nn, nn, oo (.iload_n 1) 155, om (.invokevirtual 160) 158 0 yX9_owed, nn, nn, oo .ireturn 159, oo (.iconst (-1)) 160],
  [oo .ireturn 161, nn, nn, nn, nn, nn, nn, nn, nn, nn, nn, nn, nn, nn, nn, nn]])
def P_X11_picker : List (List (List Nat)) := [[[],[],[788,790,26],[],[],[],[],[],[],[],[],[527],[],[],[400],[]], [[],[],[],[],[],[],[],[],[],[],[],[],[],[],[],[]], [[],[],[],[],[],[],[],[],[],[],[],[],[],[],[],[]], [[],[],[],[],[],[],[],[],[],[],[],[],[],[],[],[]], [[],[527],[],[],[397],[],[],[],[],[],[],[],[],[],[527],[]], [[],[397],[],[],[],[],[],[],[],[],[],[525],[],[],[312],[]], [[],[],[],[],[],[527],[],[],[404],[],[],[],[],[],[],[]], [[],[],[],[],[],[],[],[],[],[],[],[],[],[],[],[]], [[],[],[],[],[],[],[],[],[],[],[],[],[],[],[],[532]], [[],[],[],[525],[],[],[],[527],[],[],[],[792,793,794],[],[],[],[]], [[],[],[],[],[],[],[],[],[],[],[],[],[],[],[],[]]]
set_option maxRecDepth 100000 in
theorem kT_X11_picker : ab_okT M_X11_picker := ab_okT_of (P := P_X11_picker) 176 (Nat.le_of_ble_eq_true rfl) (fun pc h => ab_chkR_of (lo := 0) (len := 176) (by decide +kernel) pc (Nat.zero_le _) (by omega))
theorem kY_X11_picker : ab_okY M_X11_picker := ab_okY_of 787 105 (by decide +kernel)
def M_X11_lies : ab_M := (yX11_lies, cX11_lies, 3, (some .int), 11, 2, [
  [oo (.iload_n 1) 1, oo (.iload_n 2) 2, om (.invokestatic 164) 5 0 yX11_isCell, nn, nn, oj (.ifCond .ne 5) 8 10, nn, nn, oo (.iconst (-1)) 9, oo .ireturn 10, oo (.aload_n 0) 11, of (.getfield 36) 14 11 4, nn, nn, oo (.bipush 10) 16, nn],
  [oo (.iload_n 2) 17, oo .imul 18, oo (.iload_n 1) 19, oo .iadd 20, om (.invokevirtual 168) 23 0 yX10_countAt, nn, nn, oo .ireturn 24, nn, nn, nn, nn, nn, nn, nn, nn]])
def P_X11_lies : List (List (List Nat)) := [[[],[],[807,808],[],[],[],[],[],[],[],[],[527],[],[],[],[]], [[],[],[],[],[810,756,757],[],[],[],[],[],[],[],[],[],[],[]]]
set_option maxRecDepth 100000 in
theorem kT_X11_lies : ab_okT M_X11_lies := ab_okT_of (P := P_X11_lies) 32 (Nat.le_of_ble_eq_true rfl) (fun pc h => ab_chkR_of (lo := 0) (len := 32) (by decide +kernel) pc (Nat.zero_le _) (by omega))
theorem kY_X11_lies : ab_okY M_X11_lies := ab_okY_of 806 105 (by decide +kernel)
def M_X11_send : ab_M := (yX11_send, cX11_send, 6, (some .boolean), 11, 3, [
  [oo (.aload_n 0) 1, oo (.iload_n 1) 2, om (.invokevirtual 145) 5 0 yX11_isPicker, nn, nn, oj (.ifCond .eq 16) 8 21, nn, nn, oo (.iload_n 2) 9, oo (.iconst (-1)) 10, oj (.if_icmp .eq 13) 13 23, nn, nn, oo (.iload_n 2) 14, oo (.iload_n 3) 15, om (.invokestatic 164) 18 0 yX11_isCell],
  [nn, nn, oj (.ifCond .ne 5) 21 23, nn, nn, oo (.iconst 0) 22, oo .ireturn 23, oo (.iload_n 2) 24, oo (.iconst (-1)) 25, oj (.if_icmp .ne 8) 28 33, nn, nn, oo (.bipush (-2)) 30, nn, oj (.goto 9) 33 39, nn],
  [nn, oo (.bipush 10) 35, nn, oo (.iload_n 3) 36, oo .imul 37, oo (.iload_n 2) 38, oo .iadd 39, oo (.istore 4) 41, nn, oo (.iload 4) 43, nn, oo (.aload_n 0) 44, of (.getfield 36) 47 11 4, nn, nn, of (.getfield 151) 50 10 5],
  [nn, nn, oo (.iload_n 1) 51, oo .iaload 52, oj (.if_icmp .ne 8) 55 60, nn, nn, oo (.bipush (-2)) 57, nn, oj (.goto 5) 60 62, nn, nn, oo (.iload 4) 62, nn, oo (.istore 5) 64, nn],
  [oo (.iload 5) 66, nn, oo (.aload_n 0) 67, of (.getfield 36) 70 11 4, nn, nn, of (.getfield 148) 73 10 6, nn, nn, oo (.iload_n 1) 74, oo .iaload 75, oj (.if_icmp .ne 5) 78 80, nn, nn, oo (.iconst 0) 79, oo .ireturn 80],
  [oo (.aload_n 0) 81, of (.getfield 46) 84 11 6, nn, nn, oo (.aload_n 0) 85, of (.getfield 36) 88 11 4, nn, nn, om (.invokevirtual 171) 91 0 yX2_keep, nn, nn, oo (.aload_n 0) 92, of (.getfield 36) 95 11 4, nn, nn, of (.getfield 148) 98 10 6],
  [nn, nn, oo (.iload_n 1) 99, oo (.iload 5) 101, nn, oo .iastore 102, oo (.iconst 1) 103, oo .ireturn 104, nn, nn, nn, nn, nn, nn, nn, nn]])
def P_X11_send : List (List (List Nat)) := [[[],[],[788,790,26],[],[],[],[],[],[],[],[],[],[],[],[],[807,808]], [[],[],[],[],[],[],[],[],[],[],[],[],[],[],[],[]], [[],[],[],[],[],[],[],[],[],[],[],[],[527],[],[],[397]], [[],[],[],[],[],[],[],[],[],[],[],[],[],[],[],[]], [[],[],[],[527],[],[],[400],[],[],[],[],[],[],[],[],[]], [[],[529],[],[],[],[527],[],[],[815,816,817],[],[],[],[527],[],[],[400]], [[],[],[],[],[],[],[],[],[],[],[],[],[],[],[],[]]]
set_option maxRecDepth 100000 in
theorem kT_X11_send : ab_okT M_X11_send := ab_okT_of (P := P_X11_send) 112 (Nat.le_of_ble_eq_true rfl) (fun pc h => ab_chkR_of (lo := 0) (len := 112) (by decide +kernel) pc (Nat.zero_le _) (by omega))
theorem kY_X11_send : ab_okY M_X11_send := ab_okY_of 814 105 (by decide +kernel)
def M_X11_drop : ab_M := (yX11_drop, cX11_drop, 2, (some .boolean), 11, 1, [
  [oo (.aload_n 0) 1, oo (.iload_n 1) 2, om (.invokevirtual 115) 5 0 yX11_isPiece, nn, nn, oj (.ifCond .eq 14) 8 19, nn, nn, oo (.aload_n 0) 9, of (.getfield 36) 12 11 4, nn, nn, oo (.iload_n 1) 13, om (.invokevirtual 119) 16 0 yX10_isLying, nn, nn],
  [oj (.ifCond .eq 5) 19 21, nn, nn, oo (.iconst 0) 20, oo .ireturn 21, oo (.aload_n 0) 22, of (.getfield 46) 25 11 6, nn, nn, oo (.aload_n 0) 26, of (.getfield 36) 29 11 4, nn, nn, om (.invokevirtual 171) 32 0 yX2_keep, nn, nn],
  [oo (.aload_n 0) 33, of (.getfield 36) 36 11 4, nn, nn, oo (.iload_n 1) 37, om (.invokevirtual 175) 40 0 yX10_layDown, nn, nn, oo (.iconst 1) 41, oo .ireturn 42, nn, nn, nn, nn, nn, nn]])
def P_X11_drop : List (List (List Nat)) := [[[],[],[734,736,23],[],[],[],[],[],[],[527],[],[],[],[738,739,740],[],[]], [[],[],[],[],[],[],[529],[],[],[],[527],[],[],[815,816,817],[],[]], [[],[527],[],[],[],[829,830,831],[],[],[],[],[],[],[],[],[],[]]]
set_option maxRecDepth 100000 in
theorem kT_X11_drop : ab_okT M_X11_drop := ab_okT_of (P := P_X11_drop) 48 (Nat.le_of_ble_eq_true rfl) (fun pc h => ab_chkR_of (lo := 0) (len := 48) (by decide +kernel) pc (Nat.zero_le _) (by omega))
theorem kY_X11_drop : ab_okY M_X11_drop := ab_okY_of 828 105 (by decide +kernel)
def M_X11_give : ab_M := (yX11_give, cX11_give, 5, (some .int), 11, 2, [
  [oo (.aload_n 0) 1, oo (.iload_n 1) 2, om (.invokevirtual 145) 5 0 yX11_isPicker, nn, nn, oj (.ifCond .eq 16) 8 21, nn, nn, oo (.aload_n 0) 9, oo (.iload_n 2) 10, om (.invokevirtual 145) 13 0 yX11_isPicker, nn, nn, oj (.ifCond .eq 8) 16 21, nn, nn],
  [oo (.iload_n 1) 17, oo (.iload_n 2) 18, oj (.if_icmp .ne 5) 21 23, nn, nn, oo (.iconst (-1)) 22, oo .ireturn 23, oo (.aload_n 0) 24, of (.getfield 46) 27 11 6, nn, nn, oo (.aload_n 0) 28, of (.getfield 36) 31 11 4, nn, nn, om (.invokevirtual 171) 34 0 yX2_keep],
  [nn, nn, oo (.iconst 0) 35, oo (.istore_n 3) 36, oo (.iconst 0) 37, oo (.istore 4) 39, nn, oo (.iload 4) 41, nn, oo (.aload_n 0) 42, of (.getfield 36) 45 11 4, nn, nn, of (.getfield 178) 48 10 1, nn, nn],
  [oj (.if_icmp .ge 69) 51 117, nn, nn, oo (.aload_n 0) 52, of (.getfield 36) 55 11 4, nn, nn, oo (.iload 4) 57, nn, om (.invokevirtual 132) 60 0 yX10_holder, nn, nn, oo (.iload_n 1) 61, oj (.if_icmp .ne 50) 64 111, nn, nn],
  [oo (.aload_n 0) 65, of (.getfield 36) 68 11 4, nn, nn, of (.getfield 157) 71 10 7, nn, nn, oo (.iload_n 2) 72, oo .iaload 73, oo (.aload_n 0) 74, of (.getfield 26) 77 11 2, nn, nn, of (.getfield 154) 80 5 11, nn, nn],
  [oo (.iload_n 2) 81, oo .iaload 82, oj (.if_icmp .ge 29) 85 111, nn, nn, oo (.aload_n 0) 86, of (.getfield 36) 89 11 4, nn, nn, of (.getfield 157) 92 10 7, nn, nn, oo (.iload_n 1) 93, oo .dup2 94, oo .iaload 95, oo (.iconst 1) 96],
  [oo .isub 97, oo .iastore 98, oo (.aload_n 0) 99, of (.getfield 36) 102 11 4, nn, nn, oo (.iload 4) 104, nn, oo (.iload_n 2) 105, om (.invokevirtual 181) 108 0 yX10_putInHat, nn, nn, oo (.iinc 3 1) 111, nn, nn, oo (.iinc 4 1) 114],
  [nn, nn, oj (.goto (-75)) 117 39, nn, nn, oo (.iload_n 3) 118, oo .ireturn 119, nn, nn, nn, nn, nn, nn, nn, nn, nn]])
def P_X11_give : List (List (List Nat)) := [[[],[],[788,790,26],[],[],[],[],[],[],[],[788,790,26],[],[],[],[],[]], [[],[],[],[],[],[],[],[],[529],[],[],[],[527],[],[],[815,816,817]], [[],[],[],[],[],[],[],[],[],[],[527],[],[],[384],[],[]], [[],[],[],[],[527],[],[],[],[],[750,747,748],[],[],[],[],[],[]], [[],[527],[],[],[404],[],[],[],[],[],[525],[],[],[312],[],[]], [[],[],[],[],[],[],[527],[],[],[404],[],[],[],[],[],[]], [[],[],[],[527],[],[],[],[],[],[837,838,839],[],[],[],[],[],[]], [[],[],[],[],[],[],[],[],[],[],[],[],[],[],[],[]]]
set_option maxRecDepth 100000 in
theorem kT_X11_give : ab_okT M_X11_give := ab_okT_of (P := P_X11_give) 128 (Nat.le_of_ble_eq_true rfl) (fun pc h => ab_chkR_of (lo := 0) (len := 128) (by decide +kernel) pc (Nat.zero_le _) (by omega))
theorem kY_X11_give : ab_okY M_X11_give := ab_okY_of 836 105 (by decide +kernel)
def M_X11_hours : ab_M := (yX11_hours, cX11_hours, 2, (some .int), 11, 1, [
  [oo (.iload_n 1) 1, oj (.ifCond .lt 9) 4 10, nn, nn, oo (.iload_n 1) 5, oo (.bipush 40) 7, nn, oj (.if_icmp .le 5) 10 12, nn, nn, oo (.iconst (-1)) 11, oo .ireturn 12, oo (.iload_n 1) 13, oj (.ifCond .le 37) 16 50, nn, nn],
  [oo (.aload_n 0) 17, of (.getfield 46) 20 11 6, nn, nn, oo (.aload_n 0) 21, of (.getfield 36) 24 11 4, nn, nn, om (.invokevirtual 171) 27 0 yX2_keep, nn, nn, oo (.aload_n 0) 28, of (.getfield 57) 31 11 9, nn, nn, oo (.aload_n 0) 32],
  [of (.getfield 26) 35 11 2, nn, nn, oo (.aload_n 0) 36, of (.getfield 36) 39 11 4, nn, nn, oo (.iload_n 1) 40, oo (.aload_n 0) 41, of (.getfield 26) 44 11 2, nn, nn, of (.getfield 185) 47 5 18, nn, nn, om (.invokevirtual 188) 50 0 yX9_goOn],
  [nn, nn, oo (.aload_n 0) 51, of (.getfield 36) 54 11 4, nn, nn, of (.getfield 192) 57 10 0, nn, nn, oo .ireturn 58, nn, nn, nn, nn, nn, nn]])
def P_X11_hours : List (List (List Nat)) := [[[],[],[],[],[],[],[],[],[],[],[],[],[],[],[],[]], [[],[529],[],[],[],[527],[],[],[815,816,817],[],[],[],[532],[],[],[]], [[525],[],[],[],[527],[],[],[],[],[525],[],[],[331],[],[],[845,846,847]], [[],[],[],[527],[],[],[380],[],[],[],[],[],[],[],[],[]]]
set_option maxRecDepth 100000 in
theorem kT_X11_hours : ab_okT M_X11_hours := ab_okT_of (P := P_X11_hours) 64 (Nat.le_of_ble_eq_true rfl) (fun pc h => ab_chkR_of (lo := 0) (len := 64) (by decide +kernel) pc (Nat.zero_le _) (by omega))
theorem kY_X11_hours : ab_okY M_X11_hours := ab_okY_of 844 105 (by decide +kernel)
def M_X11_undo : ab_M := (yX11_undo, cX11_undo, 1, (some .boolean), 11, 0, [
  [oo (.aload_n 0) 1, of (.getfield 46) 4 11 6, nn, nn, oo (.aload_n 0) 5, of (.getfield 36) 8 11 4, nn, nn, om (.invokevirtual 195) 11 0 yX2_bringBack, nn, nn, oo .ireturn 12, nn, nn, nn, nn]])
def P_X11_undo : List (List (List Nat)) := [[[],[529],[],[],[],[527],[],[],[887,888,889],[],[],[],[],[],[],[]]]
set_option maxRecDepth 100000 in
theorem kT_X11_undo : ab_okT M_X11_undo := ab_okT_of (P := P_X11_undo) 16 (Nat.le_of_ble_eq_true rfl) (fun pc h => ab_chkR_of (lo := 0) (len := 16) (by decide +kernel) pc (Nat.zero_le _) (by omega))
theorem kY_X11_undo : ab_okY M_X11_undo := ab_okY_of 886 105 (by decide +kernel)
def M_X11_steps : ab_M := (yX11_steps, cX11_steps, 4, (some .int), 11, 3, [
  [oo (.aload_n 0) 1, oo (.iload_n 1) 2, om (.invokevirtual 145) 5 0 yX11_isPicker, nn, nn, oj (.ifCond .eq 11) 8 16, nn, nn, oo (.iload_n 2) 9, oo (.iload_n 3) 10, om (.invokestatic 164) 13 0 yX11_isCell, nn, nn, oj (.ifCond .ne 5) 16 18, nn, nn],
  [oo (.iconst (-1)) 17, oo .ireturn 18, oo (.aload_n 0) 19, of (.getfield 36) 22 11 4, nn, nn, of (.getfield 151) 25 10 5, nn, nn, oo (.iload_n 1) 26, oo .iaload 27, oo (.bipush 10) 29, nn, oo (.iload_n 3) 30, oo .imul 31, oo (.iload_n 2) 32],
  [oo .iadd 33, om (.invokestatic 199) 36 0 yX11_apart, nn, nn, oo .ireturn 37, nn, nn, nn, nn, nn, nn, nn, nn, nn, nn, nn]])
def P_X11_steps : List (List (List Nat)) := [[[],[],[788,790,26],[],[],[],[],[],[],[],[807,808],[],[],[],[],[]], [[],[],[],[527],[],[],[397],[],[],[],[],[],[],[],[],[]], [[],[895,896],[],[],[],[],[],[],[],[],[],[],[],[],[],[]]]
set_option maxRecDepth 100000 in
theorem kT_X11_steps : ab_okT M_X11_steps := ab_okT_of (P := P_X11_steps) 48 (Nat.le_of_ble_eq_true rfl) (fun pc h => ab_chkR_of (lo := 0) (len := 48) (by decide +kernel) pc (Nat.zero_le _) (by omega))
theorem kY_X11_steps : ab_okY M_X11_steps := ab_okY_of 894 105 (by decide +kernel)
def M_X11_round : ab_M := (yX11_round, cX11_round, 4, (some .int), 11, 2, [
  [oo (.aload_n 0) 1, oo (.iload_n 1) 2, om (.invokevirtual 145) 5 0 yX11_isPicker, nn, nn, oj (.ifCond .eq 12) 8 17, nn, nn, oo (.iload_n 2) 9, oj (.ifCond .lt 8) 12 17, nn, nn, oo (.iload_n 2) 13, oo (.iconst 1) 14, oj (.if_icmp .le 5) 17 19, nn],
  [nn, oo (.iconst (-1)) 18, oo .ireturn 19, oo (.aload_n 0) 20, of (.getfield 36) 23 11 4, nn, nn, of (.getfield 151) 26 10 5, nn, nn, oo (.iload_n 1) 27, oo .iaload 28, oo (.istore_n 3) 29, oo (.aload_n 0) 30, of (.getfield 64) 33 11 10, nn],
  [nn, oo (.aload_n 0) 34, of (.getfield 36) 37 11 4, nn, nn, oo (.iload_n 3) 38, om (.invokevirtual 203) 41 0 yX8_gather, nn, nn, oj (.ifCond .ne 6) 44 47, nn, nn, oo (.bipush (-3)) 46, nn, oo .ireturn 47, oo (.iload_n 2) 48],
  [oj (.ifCond .ne 21) 51 69, nn, nn, oo (.aload_n 0) 52, of (.getfield 64) 55 11 10, nn, nn, oo (.iload_n 3) 56, oo (.aload_n 0) 57, of (.getfield 64) 60 11 10, nn, nn, om (.invokevirtual 207) 63 0 yX8_all, nn, nn, om (.invokevirtual 211) 66 0 yX8_fewest],
  [nn, nn, oj (.goto 11) 69 77, nn, nn, oo (.aload_n 0) 70, of (.getfield 64) 73 11 10, nn, nn, oo (.iload_n 3) 74, om (.invokevirtual 214) 77 0 yX8_firstCell, nn, nn, oo .ireturn 78, nn, nn]])
def P_X11_round : List (List (List Nat)) := [[[],[],[788,790,26],[],[],[],[],[],[],[],[],[],[],[],[],[]], [[],[],[],[],[527],[],[],[397],[],[],[],[],[],[],[533],[]], [[],[],[527],[],[],[],[905,906,907],[],[],[],[],[],[],[],[],[]], [[],[],[],[],[533],[],[],[],[],[533],[],[],[928,915,916],[],[],[929,922,923]], [[],[],[],[],[],[],[533],[],[],[],[930,931,932],[],[],[],[],[]]]
set_option maxRecDepth 100000 in
theorem kT_X11_round : ab_okT M_X11_round := ab_okT_of (P := P_X11_round) 80 (Nat.le_of_ble_eq_true rfl) (fun pc h => ab_chkR_of (lo := 0) (len := 80) (by decide +kernel) pc (Nat.zero_le _) (by omega))
theorem kY_X11_round : ab_okY M_X11_round := ab_okY_of 904 105 (by decide +kernel)
def M_X11_share : ab_M := (yX11_share, cX11_share, 3, (some .int), 11, 2, [
  [oo (.aload_n 0) 1, oo (.iload_n 1) 2, om (.invokevirtual 145) 5 0 yX11_isPicker, nn, nn, oj (.ifCond .eq 16) 8 21, nn, nn, oo (.aload_n 0) 9, oo (.iload_n 2) 10, om (.invokevirtual 145) 13 0 yX11_isPicker, nn, nn, oj (.ifCond .eq 8) 16 21, nn, nn],
  [oo (.iload_n 1) 17, oo (.iload_n 2) 18, oj (.if_icmp .ne 5) 21 23, nn, nn, oo (.iconst (-1)) 22, oo .ireturn 23, oo (.aload_n 0) 24, of (.getfield 64) 27 11 10, nn, nn, oo (.aload_n 0) 28, of (.getfield 36) 31 11 4, nn, nn, oo (.bipush (-2)) 33],
  [nn, om (.invokevirtual 203) 36 0 yX8_gather, nn, nn, oj (.ifCond .ne 6) 39 42, nn, nn, oo (.bipush (-3)) 41, nn, oo .ireturn 42, oo (.aload_n 0) 43, of (.getfield 64) 46 11 10, nn, nn, oo (.aload_n 0) 47, of (.getfield 36) 50 11 4],
  [nn, nn, of (.getfield 151) 53 10 5, nn, nn, oo (.iload_n 1) 54, oo .iaload 55, oo (.aload_n 0) 56, of (.getfield 36) 59 11 4, nn, nn, of (.getfield 151) 62 10 5, nn, nn, oo (.iload_n 2) 63, oo .iaload 64],
  [om (.invokevirtual 217) 67 0 yX8_shared, nn, nn, oo .ireturn 68, nn, nn, nn, nn, nn, nn, nn, nn, nn, nn, nn, nn]])
def P_X11_share : List (List (List Nat)) := [[[],[],[788,790,26],[],[],[],[],[],[],[],[788,790,26],[],[],[],[],[]], [[],[],[],[],[],[],[],[],[533],[],[],[],[527],[],[],[]], [[],[905,906,907],[],[],[],[],[],[],[],[],[],[533],[],[],[],[527]], [[],[],[397],[],[],[],[],[],[527],[],[],[397],[],[],[],[]], [[938,939,940],[],[],[],[],[],[],[],[],[],[],[],[],[],[],[]]]
set_option maxRecDepth 100000 in
theorem kT_X11_share : ab_okT M_X11_share := ab_okT_of (P := P_X11_share) 80 (Nat.le_of_ble_eq_true rfl) (fun pc h => ab_chkR_of (lo := 0) (len := 80) (by decide +kernel) pc (Nat.zero_le _) (by omega))
theorem kY_X11_share : ab_okY M_X11_share := ab_okY_of 937 105 (by decide +kernel)
def M_X11_closest : ab_M := (yX11_closest, cX11_closest, 7, (some .int), 11, 2, [
  [oo (.iload_n 1) 1, oo (.iload_n 2) 2, om (.invokestatic 164) 5 0 yX11_isCell, nn, nn, oj (.ifCond .ne 5) 8 10, nn, nn, oo (.iconst (-1)) 9, oo .ireturn 10, oo (.bipush (-2)) 12, nn, oo (.istore_n 3) 13, oo (.bipush 80) 15, nn, oo (.istore 4) 17],
  [nn, oo (.iconst 0) 18, oo (.istore 5) 20, nn, oo (.iload 5) 22, nn, oo (.aload_n 0) 23, of (.getfield 36) 26 11 4, nn, nn, of (.getfield 220) 29 10 2, nn, nn, oj (.if_icmp .ge 44) 32 73, nn, nn],
  [oo (.aload_n 0) 33, of (.getfield 36) 36 11 4, nn, nn, of (.getfield 151) 39 10 5, nn, nn, oo (.iload 5) 41, nn, oo .iaload 42, oo (.bipush 10) 44, nn, oo (.iload_n 2) 45, oo .imul 46, oo (.iload_n 1) 47, oo .iadd 48],
  [om (.invokestatic 199) 51 0 yX11_apart, nn, nn, oo (.istore 6) 53, nn, oo (.iload 6) 55, nn, oo (.iload 4) 57, nn, oj (.if_icmp .ge 10) 60 67, nn, nn, oo (.iload 6) 62, nn, oo (.istore 4) 64, nn],
  [oo (.iload 5) 66, nn, oo (.istore_n 3) 67, oo (.iinc 5 1) 70, nn, nn, oj (.goto (-50)) 73 20, nn, nn, oo (.iload_n 3) 74, oo .ireturn 75, nn, nn, nn, nn, nn]])
def P_X11_closest : List (List (List Nat)) := [[[],[],[807,808],[],[],[],[],[],[],[],[],[],[],[],[],[]], [[],[],[],[],[],[],[],[527],[],[],[387],[],[],[],[],[]], [[],[527],[],[],[397],[],[],[],[],[],[],[],[],[],[],[]], [[895,896],[],[],[],[],[],[],[],[],[],[],[],[],[],[],[]], [[],[],[],[],[],[],[],[],[],[],[],[],[],[],[],[]]]
set_option maxRecDepth 100000 in
theorem kT_X11_closest : ab_okT M_X11_closest := ab_okT_of (P := P_X11_closest) 80 (Nat.le_of_ble_eq_true rfl) (fun pc h => ab_chkR_of (lo := 0) (len := 80) (by decide +kernel) pc (Nat.zero_le _) (by omega))
theorem kY_X11_closest : ab_okY M_X11_closest := ab_okY_of 946 105 (by decide +kernel)
