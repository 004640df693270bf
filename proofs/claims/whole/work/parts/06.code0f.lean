def M_X5_init : ab_M := (yX5_init, cX5_init, 1, none, 5, 0, [
  [oo (.aload_n 0) 1, om (.invokespecial 3) 4 0 Lib.objectInit, nn, nn, oo (.aload_n 0) 5, oo (.iconst 4) 6, oo (.newarray .long) 8, nn, of (.putfield 9) 11 5 4, nn, nn, oo (.aload_n 0) 12, oo (.bipush 8) 14, nn, oo (.newarray .long) 16, nn],
  [of (.putfield 15) 19 5 5, nn, nn, oo (.aload_n 0) 20, oo (.iconst 4) 21, oo (.newarray .long) 23, nn, of (.putfield 18) 26 5 6, nn, nn, oo (.aload_n 0) 27, oo (.bipush 32) 29, nn, oo (.newarray .int) 31, nn, of (.putfield 21) 34 5 7],
  [nn, nn, oo (.aload_n 0) 35, oo (.bipush 32) 37, nn, oo (.newarray .int) 39, nn, of (.putfield 25) 42 5 8, nn, nn, oo (.aload_n 0) 43, oo (.bipush 32) 45, nn, oo (.newarray .int) 47, nn, of (.putfield 28) 50 5 9],
  [nn, nn, oo (.aload_n 0) 51, oo (.iconst 4) 52, oo (.newarray .int) 54, nn, of (.putfield 31) 57 5 10, nn, nn, oo (.aload_n 0) 58, oo (.iconst 4) 59, oo (.newarray .int) 61, nn, of (.putfield 34) 64 5 11, nn, nn],
  [oo (.aload_n 0) 65, oo (.sipush 408) 68, nn, nn, oo (.newarray .int) 70, nn, of (.putfield 37) 73 5 12, nn, nn, oo (.aload_n 0) 74, oo (.iconst 3) 75, oo (.newarray .int) 77, nn, of (.putfield 40) 80 5 13, nn, nn],
  [oo (.aload_n 0) 81, om (.invokevirtual 43) 84 0 yX5_clear, nn, nn, oo .return_ 85, nn, nn, nn, nn, nn, nn, nn, nn, nn, nn, nn]])
def P_X5_init : List (List (List Nat)) := [[[],[266,132],[],[],[],[],[234],[],[290],[],[],[],[],[],[234],[]], [[292],[],[],[],[],[234],[],[297],[],[],[],[],[],[233],[],[299]], [[],[],[],[],[],[233],[],[303],[],[],[],[],[],[233],[],[305]], [[],[],[],[],[233],[],[307],[],[],[],[],[233],[],[309],[],[]], [[],[],[],[],[233],[],[313],[],[],[],[],[233],[],[315],[],[]], [[],[267,268,269],[],[],[],[],[],[],[],[],[],[],[],[],[],[]]]
set_option maxRecDepth 100000 in
theorem kT_X5_init : ab_okT M_X5_init := ab_okT_of (P := P_X5_init) 96 (Nat.le_of_ble_eq_true rfl) (fun pc h => ab_chkR_of (lo := 0) (len := 96) (by decide +kernel) pc (Nat.zero_le _) (by omega))
theorem kY_X5_init : ab_okY M_X5_init := ab_okY_of 265 113 (by decide +kernel)
def M_X5_clear : ab_M := (yX5_clear, cX5_clear, 1, none, 5, 0, [
  [oo (.aload_n 0) 1, oo (.iconst 0) 2, of (.putfield 46) 5 5 0, nn, nn, oo (.aload_n 0) 6, oo (.iconst 0) 7, of (.putfield 50) 10 5 1, nn, nn, oo (.aload_n 0) 11, oo (.iconst 0) 12, of (.putfield 53) 15 5 2, nn, nn, oo (.aload_n 0) 16],
  [oo (.iconst 0) 17, of (.putfield 56) 20 5 3, nn, nn, oo (.aload_n 0) 21, oo (.iconst 1) 22, of (.putfield 59) 25 5 15, nn, nn, oo (.aload_n 0) 26, oo (.iconst 0) 27, of (.putfield 62) 30 5 16, nn, nn, oo (.aload_n 0) 31, oo (.iconst 0) 32],
  [of (.putfield 65) 35 5 17, nn, nn, oo (.aload_n 0) 36, oo (.iconst 0) 37, of (.putfield 68) 40 5 18, nn, nn, oo (.aload_n 0) 41, oo (.iconst 0) 42, of (.putfield 71) 45 5 14, nn, nn, oo (.aload_n 0) 46, of (.getfield 40) 49 5 13, nn],
  [nn, oo (.iconst 0) 50, oo (.aload_n 0) 51, of (.getfield 71) 54 5 14, nn, nn, oo .iastore 55, oo (.aload_n 0) 56, oo (.iconst 0) 57, om (.invokevirtual 74) 60 0 yX5_addCode, nn, nn, oo (.aload_n 0) 61, oo (.bipush (-6)) 63, nn, om (.invokevirtual 74) 66 0 yX5_addCode],
  [nn, nn, oo (.aload_n 0) 67, of (.getfield 40) 70 5 13, nn, nn, oo (.iconst 1) 71, oo (.aload_n 0) 72, of (.getfield 71) 75 5 14, nn, nn, oo .iastore 76, oo (.aload_n 0) 77, of (.getfield 40) 80 5 13, nn, nn],
  [oo (.iconst 2) 81, oo (.aload_n 0) 82, of (.getfield 71) 85 5 14, nn, nn, oo .iastore 86, oo (.aload_n 0) 87, oo (.iconst 1) 88, om (.invokevirtual 74) 91 0 yX5_addCode, nn, nn, oo (.aload_n 0) 92, oo (.bipush (-6)) 94, nn, om (.invokevirtual 74) 97 0 yX5_addCode, nn],
  [nn, oo .return_ 98, nn, nn, nn, nn, nn, nn, nn, nn, nn, nn, nn, nn, nn, nn]])
def P_X5_clear : List (List (List Nat)) := [[[],[],[275],[],[],[],[],[278],[],[],[],[],[283],[],[],[]], [[],[288],[],[],[],[],[320],[],[],[],[],[323],[],[],[],[]], [[326],[],[],[],[],[329],[],[],[],[],[318],[],[],[],[315],[]], [[],[],[],[318],[],[],[],[],[],[271,272,273],[],[],[],[],[],[271,272,273]], [[],[],[],[315],[],[],[],[],[318],[],[],[],[],[315],[],[]], [[],[],[318],[],[],[],[],[],[271,272,273],[],[],[],[],[],[271,272,273],[]], [[],[],[],[],[],[],[],[],[],[],[],[],[],[],[],[]]]
set_option maxRecDepth 100000 in
theorem kT_X5_clear : ab_okT M_X5_clear := ab_okT_of (P := P_X5_clear) 112 (Nat.le_of_ble_eq_true rfl) (fun pc h => ab_chkR_of (lo := 0) (len := 112) (by decide +kernel) pc (Nat.zero_le _) (by omega))
theorem kY_X5_clear : ab_okY M_X5_clear := ab_okY_of 270 113 (by decide +kernel)
def M_X5_addLetter : ab_M := (yX5_addLetter, cX5_addLetter, 7, none, 5, 3, [
  [oo (.aload_n 0) 1, of (.getfield 46) 4 5 0, nn, nn, oj (.ifCond .lt 11) 7 15, nn, nn, oo (.aload_n 0) 8, of (.getfield 46) 11 5 0, nn, nn, oo (.iconst 4) 12, oj (.if_icmp .lt 4) 15 16, nn, nn, oo .return_ 16],
  [oo (.lload_n 1) 17, om (.invokestatic 78) 20 1 yX11_nameLength, nn, nn, oo (.istore 5) 22, nn, oo (.iconst 0) 23, oo (.istore 6) 25, nn, oo (.iload 6) 27, nn, oo (.iload 5) 29, nn, oj (.if_icmp .ge 85) 32 114, nn, nn],
  [oo (.aload_n 0) 33, of (.getfield 56) 36 5 3, nn, nn, oj (.ifCond .lt 78) 39 114, nn, nn, oo (.aload_n 0) 40, of (.getfield 56) 43 5 3, nn, nn, oo (.bipush 32) 45, nn, oj (.if_icmp .ge 69) 48 114, nn, nn],
  [oo (.aload_n 0) 49, of (.getfield 21) 52 5 7, nn, nn, oo (.aload_n 0) 53, of (.getfield 56) 56 5 3, nn, nn, oo (.lload_n 1) 57, oo (.iload 6) 59, nn, om (.invokestatic 82) 62 1 yX11_signAt, nn, nn, oo .iastore 63, oo (.aload_n 0) 64],
  [of (.getfield 25) 67 5 8, nn, nn, oo (.aload_n 0) 68, of (.getfield 56) 71 5 3, nn, nn, oo (.aload_n 0) 72, of (.getfield 46) 75 5 0, nn, nn, oo .iastore 76, oo (.aload_n 0) 77, of (.getfield 28) 80 5 9, nn, nn],
  [oo (.aload_n 0) 81, of (.getfield 56) 84 5 3, nn, nn, oo (.bipush 10) 86, nn, oo (.iload 4) 88, nn, oo .imul 89, oo (.iload_n 3) 90, oo (.iload 6) 92, nn, oo .iadd 93, oo (.bipush 10) 95, nn, oo .irem 96],
  [oo .iadd 97, oo .iastore 98, oo (.aload_n 0) 99, oo .dup 100, of (.getfield 56) 103 5 3, nn, nn, oo (.iconst 1) 104, oo .iadd 105, of (.putfield 56) 108 5 3, nn, nn, oo (.iinc 6 1) 111, nn, nn, oj (.goto (-86)) 114 25],
  [nn, nn, oo (.aload_n 0) 115, of (.getfield 9) 118 5 4, nn, nn, oo (.aload_n 0) 119, of (.getfield 46) 122 5 0, nn, nn, oo (.lload_n 1) 123, oo .lastore 124, oo (.aload_n 0) 125, oo .dup 126, of (.getfield 46) 129 5 0, nn],
  [nn, oo (.iconst 1) 130, oo .iadd 131, of (.putfield 46) 134 5 0, nn, nn, oo .return_ 135, nn, nn, nn, nn, nn, nn, nn, nn, nn]])
def P_X5_addLetter : List (List (List Nat)) := [[[],[275],[],[],[],[],[],[],[275],[],[],[],[],[],[],[]], [[],[688,687],[],[],[],[],[],[],[],[],[],[],[],[],[],[]], [[],[288],[],[],[],[],[],[],[288],[],[],[],[],[],[],[]], [[],[299],[],[],[],[288],[],[],[],[],[],[691,693],[],[],[],[]], [[303],[],[],[],[288],[],[],[],[275],[],[],[],[],[305],[],[]], [[],[288],[],[],[],[],[],[],[],[],[],[],[],[],[],[]], [[],[],[],[],[288],[],[],[],[],[288],[],[],[],[],[],[]], [[],[],[],[290],[],[],[],[275],[],[],[],[],[],[],[275],[]], [[],[],[],[275],[],[],[],[],[],[],[],[],[],[],[],[]]]
set_option maxRecDepth 100000 in
theorem kT_X5_addLetter : ab_okT M_X5_addLetter := ab_okT_of (P := P_X5_addLetter) 144 (Nat.le_of_ble_eq_true rfl) (fun pc h => ab_chkR_of (lo := 0) (len := 144) (by decide +kernel) pc (Nat.zero_le _) (by omega))
theorem kY_X5_addLetter : ab_okY M_X5_addLetter := ab_okY_of 686 113 (by decide +kernel)
def M_X5_addWord : ab_M := (yX5_addWord, cX5_addWord, 3, none, 5, 1, [
  [oo (.aload_n 0) 1, of (.getfield 50) 4 5 1, nn, nn, oj (.ifCond .lt 32) 7 36, nn, nn, oo (.aload_n 0) 8, of (.getfield 50) 11 5 1, nn, nn, oo (.bipush 8) 13, nn, oj (.if_icmp .ge 23) 16 36, nn, nn],
  [oo (.aload_n 0) 17, of (.getfield 15) 20 5 5, nn, nn, oo (.aload_n 0) 21, of (.getfield 50) 24 5 1, nn, nn, oo (.lload_n 1) 25, oo .lastore 26, oo (.aload_n 0) 27, oo .dup 28, of (.getfield 50) 31 5 1, nn, nn, oo (.iconst 1) 32],
  [oo .iadd 33, of (.putfield 50) 36 5 1, nn, nn, oo .return_ 37, nn, nn, nn, nn, nn, nn, nn, nn, nn, nn, nn]])
def P_X5_addWord : List (List (List Nat)) := [[[],[278],[],[],[],[],[],[],[278],[],[],[],[],[],[],[]], [[],[292],[],[],[],[278],[],[],[],[],[],[],[278],[],[],[]], [[],[278],[],[],[],[],[],[],[],[],[],[],[],[],[],[]]]
set_option maxRecDepth 100000 in
theorem kT_X5_addWord : ab_okT M_X5_addWord := ab_okT_of (P := P_X5_addWord) 48 (Nat.le_of_ble_eq_true rfl) (fun pc h => ab_chkR_of (lo := 0) (len := 48) (by decide +kernel) pc (Nat.zero_le _) (by omega))
theorem kY_X5_addWord : ab_okY M_X5_addWord := ab_okY_of 701 113 (by decide +kernel)
def M_X5_addPicker : ab_M := (yX5_addPicker, cX5_addPicker, 5, none, 5, 3, [
  [oo (.aload_n 0) 1, of (.getfield 53) 4 5 2, nn, nn, oj (.ifCond .lt 52) 7 56, nn, nn, oo (.aload_n 0) 8, of (.getfield 53) 11 5 2, nn, nn, oo (.iconst 4) 12, oj (.if_icmp .ge 44) 15 56, nn, nn, oo (.aload_n 0) 16],
  [of (.getfield 18) 19 5 6, nn, nn, oo (.aload_n 0) 20, of (.getfield 53) 23 5 2, nn, nn, oo (.lload_n 1) 24, oo .lastore 25, oo (.aload_n 0) 26, of (.getfield 31) 29 5 10, nn, nn, oo (.aload_n 0) 30, of (.getfield 53) 33 5 2, nn],
  [nn, oo (.iload_n 3) 34, oo .iastore 35, oo (.aload_n 0) 36, of (.getfield 34) 39 5 11, nn, nn, oo (.aload_n 0) 40, of (.getfield 53) 43 5 2, nn, nn, oo (.iload 4) 45, nn, oo .iastore 46, oo (.aload_n 0) 47, oo .dup 48],
  [of (.getfield 53) 51 5 2, nn, nn, oo (.iconst 1) 52, oo .iadd 53, of (.putfield 53) 56 5 2, nn, nn, oo .return_ 57, nn, nn, nn, nn, nn, nn, nn]])
def P_X5_addPicker : List (List (List Nat)) := [[[],[283],[],[],[],[],[],[],[283],[],[],[],[],[],[],[]], [[297],[],[],[],[283],[],[],[],[],[],[307],[],[],[],[283],[]], [[],[],[],[],[309],[],[],[],[283],[],[],[],[],[],[],[]], [[283],[],[],[],[],[283],[],[],[],[],[],[],[],[],[],[]]]
set_option maxRecDepth 100000 in
theorem kT_X5_addPicker : ab_okT M_X5_addPicker := ab_okT_of (P := P_X5_addPicker) 64 (Nat.le_of_ble_eq_true rfl) (fun pc h => ab_chkR_of (lo := 0) (len := 64) (by decide +kernel) pc (Nat.zero_le _) (by omega))
theorem kY_X5_addPicker : ab_okY M_X5_addPicker := ab_okY_of 709 113 (by decide +kernel)
def M_X5_addCode : ab_M := (yX5_addCode, cX5_addCode, 2, none, 5, 1, [
  [oo (.aload_n 0) 1, of (.getfield 71) 4 5 14, nn, nn, oj (.ifCond .lt 33) 7 37, nn, nn, oo (.aload_n 0) 8, of (.getfield 71) 11 5 14, nn, nn, oo (.sipush 408) 14, nn, nn, oj (.if_icmp .ge 23) 17 37, nn],
  [nn, oo (.aload_n 0) 18, of (.getfield 37) 21 5 12, nn, nn, oo (.aload_n 0) 22, of (.getfield 71) 25 5 14, nn, nn, oo (.iload_n 1) 26, oo .iastore 27, oo (.aload_n 0) 28, oo .dup 29, of (.getfield 71) 32 5 14, nn, nn],
  [oo (.iconst 1) 33, oo .iadd 34, of (.putfield 71) 37 5 14, nn, nn, oo .return_ 38, nn, nn, nn, nn, nn, nn, nn, nn, nn, nn]])
def P_X5_addCode : List (List (List Nat)) := [[[],[318],[],[],[],[],[],[],[318],[],[],[],[],[],[],[]], [[],[],[313],[],[],[],[318],[],[],[],[],[],[],[318],[],[]], [[],[],[318],[],[],[],[],[],[],[],[],[],[],[],[],[]]]
set_option maxRecDepth 100000 in
theorem kT_X5_addCode : ab_okT M_X5_addCode := ab_okT_of (P := P_X5_addCode) 48 (Nat.le_of_ble_eq_true rfl) (fun pc h => ab_chkR_of (lo := 0) (len := 48) (by decide +kernel) pc (Nat.zero_le _) (by omega))
theorem kY_X5_addCode : ab_okY M_X5_addCode := ab_okY_of 274 113 (by decide +kernel)
def M_X5_setCode : ab_M := (yX5_setCode, cX5_setCode, 3, none, 5, 2, [
  [oo (.iload_n 1) 1, oj (.ifCond .lt 17) 4 18, nn, nn, oo (.iload_n 1) 5, oo (.sipush 408) 8, nn, nn, oj (.if_icmp .ge 10) 11 18, nn, nn, oo (.aload_n 0) 12, of (.getfield 37) 15 5 12, nn, nn, oo (.iload_n 1) 16],
  [oo (.iload_n 2) 17, oo .iastore 18, oo .return_ 19, nn, nn, nn, nn, nn, nn, nn, nn, nn, nn, nn, nn, nn]])
def P_X5_setCode : List (List (List Nat)) := [[[],[],[],[],[],[],[],[],[],[],[],[],[313],[],[],[]], [[],[],[],[],[],[],[],[],[],[],[],[],[],[],[],[]]]
set_option maxRecDepth 100000 in
theorem kT_X5_setCode : ab_okT M_X5_setCode := ab_okT_of (P := P_X5_setCode) 32 (Nat.le_of_ble_eq_true rfl) (fun pc h => ab_chkR_of (lo := 0) (len := 32) (by decide +kernel) pc (Nat.zero_le _) (by omega))
theorem kY_X5_setCode : ab_okY M_X5_setCode := ab_okY_of 662 113 (by decide +kernel)
