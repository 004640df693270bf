def M_X2_init : ab_M := (yX2_init, cX2_init, 1, none, 2, 0, [
  [oo (.aload_n 0) 1, om (.invokespecial 3) 4 0 Lib.objectInit, nn, nn, oo (.aload_n 0) 5, oo (.bipush 40) 7, nn, oo (.anewarray 9) 10, nn, nn, of (.putfield 11) 13 2 1, nn, nn, oo .return_ 14, nn, nn]])
def P_X2_init : List (List (List Nat)) := [[[],[427,132],[],[],[],[],[],[428],[],[],[432],[],[],[],[],[]]]
set_option maxRecDepth 100000 in
theorem kT_X2_init : ab_okT M_X2_init := ab_okT_of (P := P_X2_init) 16 (Nat.le_of_ble_eq_true rfl) (fun pc h => ab_chkR_of (lo := 0) (len := 16) (by decide +kernel) pc (Nat.zero_le _) (by omega))
theorem kY_X2_init : ab_okY M_X2_init := ab_okY_of 426 115 (by decide +kernel)
def M_X2_keep : ab_M := (yX2_keep, cX2_keep, 2, none, 2, 1, [
  [oo (.aload_n 0) 1, oo (.aload_n 0) 2, of (.getfield 17) 5 2 2, nn, nn, oo (.iconst 1) 6, oo .iadd 7, oo (.bipush 40) 9, nn, oj (.if_icmp .lt 7) 12 16, nn, nn, oo (.iconst 0) 13, oj (.goto 9) 16 22, nn, nn],
  [oo (.aload_n 0) 17, of (.getfield 17) 20 2 2, nn, nn, oo (.iconst 1) 21, oo .iadd 22, of (.putfield 17) 25 2 2, nn, nn, oo (.aload_n 0) 26, of (.getfield 11) 29 2 1, nn, nn, oo (.aload_n 0) 30, of (.getfield 17) 33 2 2, nn],
  [nn, oo .aaload 34, oj (.ifnonnull 19) 37 53, nn, nn, oo (.aload_n 0) 38, of (.getfield 11) 41 2 1, nn, nn, oo (.aload_n 0) 42, of (.getfield 17) 45 2 2, nn, nn, of (.new 9) 48 10 0, nn, nn],
  [oo .dup 49, om (.invokespecial 21) 52 1 yX10_init, nn, nn, oo .aastore 53, oo (.aload_n 0) 54, of (.getfield 11) 57 2 1, nn, nn, oo (.aload_n 0) 58, of (.getfield 17) 61 2 2, nn, nn, oo .aaload 62, oo (.aload_n 1) 63, om (.invokevirtual 22) 66 0 yX10_copy],
  [nn, nn, oo (.aload_n 0) 67, oo (.bipush 40) 69, nn, oo (.aload_n 0) 70, of (.getfield 26) 73 2 0, nn, nn, oo (.iconst 1) 74, oo .iadd 75, om (.invokestatic 29) 78 0 yJ9_min_7cf53, nn, nn, of (.putfield 26) 81 2 0, nn],
  [nn, oo .return_ 82, nn, nn, nn, nn, nn, nn, nn, nn, nn, nn, nn, nn, nn, nn]])
def P_X2_keep : List (List (List Nat)) := [[[],[],[433],[],[],[],[],[],[],[],[],[],[],[],[],[]], [[],[433],[],[],[],[],[433],[],[],[],[432],[],[],[],[433],[]], [[],[],[],[],[],[],[432],[],[],[],[433],[],[],[428,372,114],[],[]], [[],[374,819],[],[],[],[],[432],[],[],[],[433],[],[],[],[],[820,821,822]], [[],[],[],[],[],[],[430],[],[],[],[],[824,515],[],[],[430],[]], [[],[],[],[],[],[],[],[],[],[],[],[],[],[],[],[]]]
set_option maxRecDepth 100000 in
theorem kT_X2_keep : ab_okT M_X2_keep := ab_okT_of (P := P_X2_keep) 96 (Nat.le_of_ble_eq_true rfl) (fun pc h => ab_chkR_of (lo := 0) (len := 96) (by decide +kernel) pc (Nat.zero_le _) (by omega))
theorem kY_X2_keep : ab_okY M_X2_keep := ab_okY_of 818 115 (by decide +kernel)
def M_X2_bringBack : ab_M := (yX2_bringBack, cX2_bringBack, 2, (some .boolean), 2, 1, [
  [oo (.aload_n 0) 1, of (.getfield 26) 4 2 0, nn, nn, oj (.ifCond .le 15) 7 19, nn, nn, oo (.aload_n 0) 8, of (.getfield 11) 11 2 1, nn, nn, oo (.aload_n 0) 12, of (.getfield 17) 15 2 2, nn, nn, oo .aaload 16],
  [oj (.ifnonnull 5) 19 21, nn, nn, oo (.iconst 0) 20, oo .ireturn 21, oo (.aload_n 1) 22, oo (.aload_n 0) 23, of (.getfield 11) 26 2 1, nn, nn, oo (.aload_n 0) 27, of (.getfield 17) 30 2 2, nn, nn, oo .aaload 31, om (.invokevirtual 22) 34 0 yX10_copy],
  [nn, nn, oo (.aload_n 0) 35, oo (.aload_n 0) 36, of (.getfield 17) 39 2 2, nn, nn, oj (.ifCond .ne 8) 42 47, nn, nn, oo (.bipush 39) 44, nn, oj (.goto 9) 47 53, nn, nn, oo (.aload_n 0) 48],
  [of (.getfield 17) 51 2 2, nn, nn, oo (.iconst 1) 52, oo .isub 53, of (.putfield 17) 56 2 2, nn, nn, oo (.aload_n 0) 57, oo .dup 58, of (.getfield 26) 61 2 0, nn, nn, oo (.iconst 1) 62, oo .isub 63, of (.putfield 26) 66 2 0],
  [nn, nn, oo (.iconst 1) 67, oo .ireturn 68, nn, nn, nn, nn, nn, nn, nn, nn, nn, nn, nn, nn]])
def P_X2_bringBack : List (List (List Nat)) := [[[],[430],[],[],[],[],[],[],[432],[],[],[],[433],[],[],[]], [[],[],[],[],[],[],[],[432],[],[],[],[433],[],[],[],[820,821,822]], [[],[],[],[],[433],[],[],[],[],[],[],[],[],[],[],[]], [[433],[],[],[],[],[433],[],[],[],[],[430],[],[],[],[],[430]], [[],[],[],[],[],[],[],[],[],[],[],[],[],[],[],[]]]
set_option maxRecDepth 100000 in
theorem kT_X2_bringBack : ab_okT M_X2_bringBack := ab_okT_of (P := P_X2_bringBack) 80 (Nat.le_of_ble_eq_true rfl) (fun pc h => ab_chkR_of (lo := 0) (len := 80) (by decide +kernel) pc (Nat.zero_le _) (by omega))
theorem kY_X2_bringBack : ab_okY M_X2_bringBack := ab_okY_of 890 115 (by decide +kernel)
