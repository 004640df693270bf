def M_X4_init : ab_M := (yX4_init, cX4_init, 1, none, 4, 0, [
  [oo (.aload_n 0) 1, om (.invokespecial 3) 4 0 Lib.objectInit, nn, nn, oo (.aload_n 0) 5, oo (.sipush 2000) 8, nn, nn, oo (.newarray .byte) 10, nn, of (.putfield 9) 13 4 0, nn, nn, oo .return_ 14, nn, nn]])
def P_X4_init : List (List (List Nat)) := [[[],[139,132],[],[],[],[],[],[],[149],[],[140],[],[],[],[],[]]]
set_option maxRecDepth 100000 in
theorem kT_X4_init : ab_okT M_X4_init := ab_okT_of (P := P_X4_init) 16 (Nat.le_of_ble_eq_true rfl) (fun pc h => ab_chkR_of (lo := 0) (len := 16) (by decide +kernel) pc (Nat.zero_le _) (by omega))
theorem kY_X4_init : ab_okY M_X4_init := ab_okY_of 138 106 (by decide +kernel)
def M_X4_add : ab_M := (yX4_add, cX4_add, 3, none, 4, 1, [
  [oo (.bipush 24) 2, nn, oo (.istore_n 2) 3, oo (.iload_n 2) 4, oj (.ifCond .lt 42) 7 46, nn, nn, oo (.aload_n 0) 8, of (.getfield 15) 11 4 1, nn, nn, oo (.sipush 2000) 14, nn, nn, oj (.if_icmp .ge 32) 17 46, nn],
  [nn, oo (.aload_n 0) 18, of (.getfield 9) 21 4 0, nn, nn, oo (.aload_n 0) 22, of (.getfield 15) 25 4 1, nn, nn, oo (.iload_n 1) 26, oo (.iload_n 2) 27, oo .iushr 28, oo .i2b 29, oo .bastore 30, oo (.aload_n 0) 31, oo .dup 32],
  [of (.getfield 15) 35 4 1, nn, nn, oo (.iconst 1) 36, oo .iadd 37, of (.putfield 15) 40 4 1, nn, nn, oo (.iinc 2 (-8)) 43, nn, nn, oj (.goto (-40)) 46 3, nn, nn, oo .return_ 47, nn]])
def P_X4_add : List (List (List Nat)) := [[[],[],[],[],[],[],[],[],[142],[],[],[],[],[],[],[]], [[],[],[140],[],[],[],[142],[],[],[],[],[],[],[],[],[]], [[142],[],[],[],[],[142],[],[],[],[],[],[],[],[],[],[]]]
set_option maxRecDepth 100000 in
theorem kT_X4_add : ab_okT M_X4_add := ab_okT_of (P := P_X4_add) 48 (Nat.le_of_ble_eq_true rfl) (fun pc h => ab_chkR_of (lo := 0) (len := 48) (by decide +kernel) pc (Nat.zero_le _) (by omega))
theorem kY_X4_add : ab_okY M_X4_add := ab_okY_of 576 106 (by decide +kernel)
def M_X4_byteAt : ab_M := (yX4_byteAt, cX4_byteAt, 2, (some .int), 4, 1, [
  [oo (.iload_n 1) 1, oj (.ifCond .lt 18) 4 19, nn, nn, oo (.iload_n 1) 5, oo (.aload_n 0) 6, of (.getfield 15) 9 4 1, nn, nn, oj (.if_icmp .ge 10) 12 19, nn, nn, oo (.iload_n 1) 13, oo (.sipush 2000) 16, nn, nn],
  [oj (.if_icmp .lt 7) 19 23, nn, nn, oo (.iconst (-1)) 20, oj (.goto 13) 23 33, nn, nn, oo (.aload_n 0) 24, of (.getfield 9) 27 4 0, nn, nn, oo (.iload_n 1) 28, oo .baload 29, oo (.sipush 255) 32, nn, nn],
  [oo .iand 33, oo .ireturn 34, nn, nn, nn, nn, nn, nn, nn, nn, nn, nn, nn, nn, nn, nn]])
def P_X4_byteAt : List (List (List Nat)) := [[[],[],[],[],[],[],[142],[],[],[],[],[],[],[],[],[]], [[],[],[],[],[],[],[],[],[140],[],[],[],[],[],[],[]], [[],[],[],[],[],[],[],[],[],[],[],[],[],[],[],[]]]
set_option maxRecDepth 100000 in
theorem kT_X4_byteAt : ab_okT M_X4_byteAt := ab_okT_of (P := P_X4_byteAt) 48 (Nat.le_of_ble_eq_true rfl) (fun pc h => ab_chkR_of (lo := 0) (len := 48) (by decide +kernel) pc (Nat.zero_le _) (by omega))
theorem kY_X4_byteAt : ab_okY M_X4_byteAt := ab_okY_of 597 106 (by decide +kernel)
