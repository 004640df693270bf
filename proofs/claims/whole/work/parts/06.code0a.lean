def M_X0_init : ab_M := (yX0_init, cX0_init, 1, none, 0, 0, [
  [oo (.aload_n 0) 1, om (.invokespecial 3) 4 0 Lib.objectInit, nn, nn, oo (.aload_n 0) 5, oo (.bipush 32) 7, nn, oo (.newarray .int) 9, nn, of (.putfield 9) 12 0 0, nn, nn, oo .return_ 13, nn, nn, nn]])
def P_X0_init : List (List (List Nat)) := [[[],[491,132],[],[],[],[],[],[233],[],[492],[],[],[],[],[],[]]]
set_option maxRecDepth 100000 in
theorem kT_X0_init : ab_okT M_X0_init := ab_okT_of (P := P_X0_init) 16 (Nat.le_of_ble_eq_true rfl) (fun pc h => ab_chkR_of (lo := 0) (len := 16) (by decide +kernel) pc (Nat.zero_le _) (by omega))
theorem kY_X0_init : ab_okY M_X0_init := ab_okY_of 490 119 (by decide +kernel)
def M_X0_gather : ab_M := (yX0_gather, cX0_gather, 6, none, 0, 3, [
  [oo (.aload_n 0) 1, of (.getfield 9) 4 0 0, nn, nn, oo (.iconst 0) 5, om (.invokestatic 15) 8 0 yJ7_fill_53178, nn, nn, oo (.iconst 0) 9, oo (.istore 4) 11, nn, oo (.iload 4) 13, nn, oo (.aload_n 2) 14, of (.getfield 21) 17 10 1, nn],
  [nn, oj (.if_icmp .ge 64) 20 81, nn, nn, oo (.aload_n 2) 21, oo (.iload 4) 23, nn, om (.invokevirtual 27) 26 0 yX10_isLying, nn, nn, oo (.istore 5) 28, nn, oo (.iload_n 3) 29, oo (.iconst 5) 30, oj (.if_icmp .eq 26) 33 56, nn],
  [nn, oo (.iload_n 3) 34, oo (.iconst 4) 35, oj (.if_icmp .ne 11) 38 46, nn, nn, oo (.iload 5) 40, nn, oj (.ifCond .eq 35) 43 75, nn, nn, oj (.goto 13) 46 56, nn, nn, oo (.aload_n 2) 47, oo (.iload 4) 49],
  [nn, om (.invokevirtual 31) 52 0 yX10_holder, nn, nn, oo (.iload_n 3) 53, oj (.if_icmp .ne 22) 56 75, nn, nn, oo (.aload_n 0) 57, of (.getfield 9) 60 0 0, nn, nn, oo (.aload_n 1) 61, of (.getfield 35) 64 5 7, nn, nn],
  [oo (.iload 4) 66, nn, oo .iaload 67, oo (.bipush 31) 69, nn, oo .iand 70, oo .dup2 71, oo .iaload 72, oo (.iconst 1) 73, oo .iadd 74, oo .iastore 75, oo (.iinc 4 1) 78, nn, nn, oj (.goto (-67)) 81 11, nn],
  [nn, oo .return_ 82, nn, nn, nn, nn, nn, nn, nn, nn, nn, nn, nn, nn, nn, nn]])
def P_X0_gather : List (List (List Nat)) := [[[],[492],[],[],[],[964,521],[],[],[],[],[],[],[],[],[381],[]], [[],[],[],[],[],[],[],[965,739,740],[],[],[],[],[],[],[],[]], [[],[],[],[],[],[],[],[],[],[],[],[],[],[],[],[]], [[],[966,747,748],[],[],[],[],[],[],[],[492],[],[],[],[301],[],[]], [[],[],[],[],[],[],[],[],[],[],[],[],[],[],[],[]], [[],[],[],[],[],[],[],[],[],[],[],[],[],[],[],[]]]
set_option maxRecDepth 100000 in
theorem kT_X0_gather : ab_okT M_X0_gather := ab_okT_of (P := P_X0_gather) 96 (Nat.le_of_ble_eq_true rfl) (fun pc h => ab_chkR_of (lo := 0) (len := 96) (by decide +kernel) pc (Nat.zero_le _) (by omega))
theorem kY_X0_gather : ab_okY M_X0_gather := ab_okY_of 963 119 (by decide +kernel)
def M_X0_lacks : ab_M := (yX0_lacks, cX0_lacks, 4, (some .int), 0, 1, [
  [oo (.aload_n 0) 1, oo (.lload_n 1) 2, om (.invokevirtual 40) 5 0 yX0_takeOut, nn, nn, oo (.istore_n 3) 6, oo (.aload_n 0) 7, oo (.lload_n 1) 8, om (.invokevirtual 44) 11 0 yX0_putBack, nn, nn, oo (.iload_n 3) 12, oo .ireturn 13, nn, nn, nn]])
def P_X0_lacks : List (List (List Nat)) := [[[],[],[975,977,30],[],[],[],[],[],[981,983,31],[],[],[],[],[],[],[]]]
set_option maxRecDepth 100000 in
theorem kT_X0_lacks : ab_okT M_X0_lacks := ab_okT_of (P := P_X0_lacks) 16 (Nat.le_of_ble_eq_true rfl) (fun pc h => ab_chkR_of (lo := 0) (len := 16) (by decide +kernel) pc (Nat.zero_le _) (by omega))
theorem kY_X0_lacks : ab_okY M_X0_lacks := ab_okY_of 974 119 (by decide +kernel)
def M_X0_makes : ab_M := (yX0_makes, cX0_makes, 4, (some .int), 0, 1, [
  [oo (.iconst 0) 1, oo (.istore_n 2) 2, oo (.iconst 0) 3, oo (.istore_n 3) 4, oo (.iload_n 3) 5, oo (.aload_n 1) 6, of (.getfield 48) 9 5 1, nn, nn, oj (.if_icmp .ge 28) 12 37, nn, nn, oo (.aload_n 0) 13, oo (.aload_n 1) 14, of (.getfield 51) 17 5 5, nn],
  [nn, oo (.iload_n 3) 18, oo .laload 19, om (.invokevirtual 55) 22 0 yX0_lacks, nn, nn, oj (.ifCond .ne 9) 25 31, nn, nn, oo (.iload_n 2) 26, oo (.iconst 1) 27, oo (.iload_n 3) 28, oo .ishl 29, oo .ior 30, oo (.istore_n 2) 31, oo (.iinc 3 1) 34],
  [nn, nn, oj (.goto (-30)) 37 4, nn, nn, oo (.iload_n 2) 38, oo .ireturn 39, nn, nn, nn, nn, nn, nn, nn, nn, nn]])
def P_X0_makes : List (List (List Nat)) := [[[],[],[],[],[],[],[280],[],[],[],[],[],[],[],[294],[]], [[],[],[],[971,972,973],[],[],[],[],[],[],[],[],[],[],[],[]], [[],[],[],[],[],[],[],[],[],[],[],[],[],[],[],[]]]
set_option maxRecDepth 100000 in
theorem kT_X0_makes : ab_okT M_X0_makes := ab_okT_of (P := P_X0_makes) 48 (Nat.le_of_ble_eq_true rfl) (fun pc h => ab_chkR_of (lo := 0) (len := 48) (by decide +kernel) pc (Nat.zero_le _) (by omega))
theorem kY_X0_makes : ab_okY M_X0_makes := ab_okY_of 970 119 (by decide +kernel)
def M_X0_mostAtOnce : ab_M := (yX0_mostAtOnce, cX0_mostAtOnce, 4, (some .int), 0, 1, [
  [oo (.iconst 0) 1, oo (.istore_n 2) 2, oo (.iconst 1) 3, oo (.istore_n 3) 4, oo (.iload_n 3) 5, oo (.iconst 1) 6, oo (.aload_n 1) 7, of (.getfield 48) 10 5 1, nn, nn, oo .ishl 11, oj (.if_icmp .ge 31) 14 42, nn, nn, oo (.iload_n 3) 15, om (.invokestatic 58) 18 0 yJ6_bitCount_0f7a4],
  [nn, nn, oo (.iload_n 2) 19, om (.invokestatic 58) 22 0 yJ6_bitCount_0f7a4, nn, nn, oj (.if_icmp .le 14) 25 36, nn, nn, oo (.aload_n 0) 26, oo (.aload_n 1) 27, oo (.iload_n 3) 28, om (.invokevirtual 63) 31 0 yX0_makesAtOnce, nn, nn, oj (.ifCond .eq 5) 34 36],
  [nn, nn, oo (.iload_n 3) 35, oo (.istore_n 2) 36, oo (.iinc 3 1) 39, nn, nn, oj (.goto (-35)) 42 4, nn, nn, oo (.iload_n 2) 43, oo .ireturn 44, nn, nn, nn, nn]])
def P_X0_mostAtOnce : List (List (List Nat)) := [[[],[],[],[],[],[],[],[280],[],[],[],[],[],[],[],[993,994]], [[],[],[],[993,994],[],[],[],[],[],[],[],[],[999,1001,32],[],[],[]], [[],[],[],[],[],[],[],[],[],[],[],[],[],[],[],[]]]
set_option maxRecDepth 100000 in
theorem kT_X0_mostAtOnce : ab_okT M_X0_mostAtOnce := ab_okT_of (P := P_X0_mostAtOnce) 48 (Nat.le_of_ble_eq_true rfl) (fun pc h => ab_chkR_of (lo := 0) (len := 48) (by decide +kernel) pc (Nat.zero_le _) (by omega))
theorem kY_X0_mostAtOnce : ab_okY M_X0_mostAtOnce := ab_okY_of 992 119 (by decide +kernel)
def M_X0_makesAtOnce : ab_M := (yX0_makesAtOnce, cX0_makesAtOnce, 5, (some .boolean), 0, 2, [
  [oo (.iconst 0) 1, oo (.istore_n 3) 2, oo (.iconst 0) 3, oo (.istore 4) 5, nn, oo (.iload 4) 7, nn, oo (.aload_n 1) 8, of (.getfield 48) 11 5 1, nn, nn, oj (.if_icmp .ge 33) 14 44, nn, nn, oo (.iload_n 2) 15, oo (.iload 4) 17],
  [nn, oo .ishr 18, oo (.iconst 1) 19, oo .iand 20, oo (.iconst 1) 21, oj (.if_icmp .ne 17) 24 38, nn, nn, oo (.iload_n 3) 25, oo (.aload_n 0) 26, oo (.aload_n 1) 27, of (.getfield 51) 30 5 5, nn, nn, oo (.iload 4) 32, nn],
  [oo .laload 33, om (.invokevirtual 40) 36 0 yX0_takeOut, nn, nn, oo .iadd 37, oo (.istore_n 3) 38, oo (.iinc 4 1) 41, nn, nn, oj (.goto (-36)) 44 5, nn, nn, oo (.iconst 0) 45, oo (.istore 4) 47, nn, oo (.iload 4) 49],
  [nn, oo (.aload_n 1) 50, of (.getfield 48) 53 5 1, nn, nn, oj (.if_icmp .ge 30) 56 83, nn, nn, oo (.iload_n 2) 57, oo (.iload 4) 59, nn, oo .ishr 60, oo (.iconst 1) 61, oo .iand 62, oo (.iconst 1) 63, oj (.if_icmp .ne 14) 66 77],
  [nn, nn, oo (.aload_n 0) 67, oo (.aload_n 1) 68, of (.getfield 51) 71 5 5, nn, nn, oo (.iload 4) 73, nn, oo .laload 74, om (.invokevirtual 44) 77 0 yX0_putBack, nn, nn, oo (.iinc 4 1) 80, nn, nn],
  [oj (.goto (-33)) 83 47, nn, nn, oo (.iload_n 3) 84, oj (.ifCond .ne 7) 87 91, nn, nn, oo (.iconst 1) 88, oj (.goto 4) 91 92, nn, nn, oo (.iconst 0) 92, oo .ireturn 93, nn, nn, nn]])
def P_X0_makesAtOnce : List (List (List Nat)) := [[[],[],[],[],[],[],[],[],[280],[],[],[],[],[],[],[]], [[],[],[],[],[],[],[],[],[],[],[],[294],[],[],[],[]], [[],[975,977,30],[],[],[],[],[],[],[],[],[],[],[],[],[],[]], [[],[],[280],[],[],[],[],[],[],[],[],[],[],[],[],[]], [[],[],[],[],[294],[],[],[],[],[],[981,983,31],[],[],[],[],[]], [[],[],[],[],[],[],[],[],[],[],[],[],[],[],[],[]]]
set_option maxRecDepth 100000 in
theorem kT_X0_makesAtOnce : ab_okT M_X0_makesAtOnce := ab_okT_of (P := P_X0_makesAtOnce) 96 (Nat.le_of_ble_eq_true rfl) (fun pc h => ab_chkR_of (lo := 0) (len := 96) (by decide +kernel) pc (Nat.zero_le _) (by omega))
theorem kY_X0_makesAtOnce : ab_okY M_X0_makesAtOnce := ab_okY_of 1002 119 (by decide +kernel)
def M_X0_takeOut : ab_M := (yX0_takeOut, cX0_takeOut, 7, (some .int), 0, 1, [
  [oo (.iconst 0) 1, oo (.istore_n 3) 2, oo (.lload_n 1) 3, om (.invokestatic 67) 6 1 yX11_nameLength, nn, nn, oo (.istore 4) 8, nn, oo (.iconst 0) 9, oo (.istore 5) 11, nn, oo (.iload 5) 13, nn, oo (.iload 4) 15, nn, oj (.if_icmp .ge 41) 18 56],
  [nn, nn, oo (.lload_n 1) 19, oo (.iload 5) 21, nn, om (.invokestatic 70) 24 1 yX11_signAt, nn, nn, oo (.istore 6) 26, nn, oo (.aload_n 0) 27, of (.getfield 9) 30 0 0, nn, nn, oo (.iload 6) 32, nn],
  [oo .dup2 33, oo .iaload 34, oo (.iconst 1) 35, oo .isub 36, oo .iastore 37, oo (.aload_n 0) 38, of (.getfield 9) 41 0 0, nn, nn, oo (.iload 6) 43, nn, oo .iaload 44, oj (.ifCond .ge 6) 47 50, nn, nn, oo (.iinc 3 1) 50],
  [nn, nn, oo (.iinc 5 1) 53, nn, nn, oj (.goto (-42)) 56 11, nn, nn, oo (.iload_n 3) 57, oo .ireturn 58, nn, nn, nn, nn, nn, nn]])
def P_X0_takeOut : List (List (List Nat)) := [[[],[],[],[688,979],[],[],[],[],[],[],[],[],[],[],[],[]], [[],[],[],[],[],[691,980],[],[],[],[],[],[492],[],[],[],[]], [[],[],[],[],[],[],[492],[],[],[],[],[],[],[],[],[]], [[],[],[],[],[],[],[],[],[],[],[],[],[],[],[],[]]]
set_option maxRecDepth 100000 in
theorem kT_X0_takeOut : ab_okT M_X0_takeOut := ab_okT_of (P := P_X0_takeOut) 64 (Nat.le_of_ble_eq_true rfl) (fun pc h => ab_chkR_of (lo := 0) (len := 64) (by decide +kernel) pc (Nat.zero_le _) (by omega))
theorem kY_X0_takeOut : ab_okY M_X0_takeOut := ab_okY_of 978 119 (by decide +kernel)
def M_X0_putBack : ab_M := (yX0_putBack, cX0_putBack, 5, none, 0, 1, [
  [oo (.lload_n 1) 1, om (.invokestatic 67) 4 1 yX11_nameLength, nn, nn, oo (.istore_n 3) 5, oo (.iconst 0) 6, oo (.istore 4) 8, nn, oo (.iload 4) 10, nn, oo (.iload_n 3) 11, oj (.if_icmp .ge 24) 14 35, nn, nn, oo (.aload_n 0) 15, of (.getfield 9) 18 0 0],
  [nn, nn, oo (.lload_n 1) 19, oo (.iload 4) 21, nn, om (.invokestatic 70) 24 1 yX11_signAt, nn, nn, oo .dup2 25, oo .iaload 26, oo (.iconst 1) 27, oo .iadd 28, oo .iastore 29, oo (.iinc 4 1) 32, nn, nn],
  [oj (.goto (-24)) 35 8, nn, nn, oo .return_ 36, nn, nn, nn, nn, nn, nn, nn, nn, nn, nn, nn, nn]])
def P_X0_putBack : List (List (List Nat)) := [[[],[688,979],[],[],[],[],[],[],[],[],[],[],[],[],[],[492]], [[],[],[],[],[],[691,980],[],[],[],[],[],[],[],[],[],[]], [[],[],[],[],[],[],[],[],[],[],[],[],[],[],[],[]]]
set_option maxRecDepth 100000 in
theorem kT_X0_putBack : ab_okT M_X0_putBack := ab_okT_of (P := P_X0_putBack) 48 (Nat.le_of_ble_eq_true rfl) (fun pc h => ab_chkR_of (lo := 0) (len := 48) (by decide +kernel) pc (Nat.zero_le _) (by omega))
theorem kY_X0_putBack : ab_okY M_X0_putBack := ab_okY_of 984 119 (by decide +kernel)
