abbrev i_ushr (a b : Int32) : Int32 := (a.toUInt32 >>> (b.toUInt32 &&& Int32.toUInt32 31)).toInt32
abbrev l_shl (a : Int64) (b : Int32) : Int64 := a <<< (b.toInt64 &&& 63)
abbrev l_ushr (a : Int64) (b : Int32) : Int64 := (a.toUInt64 >>> (b.toInt64.toUInt64 &&& Int64.toUInt64 63)).toInt64
abbrev i_max (a b : Int32) : Int32 := if a < b then b else a
abbrev i_min (a b : Int32) : Int32 := if b < a then b else a
abbrev i_abs (a : Int32) : Int32 := if 0 ≤ a then a else 0 - a
section ab_rules
variable {G : ab_G} {d kc ks : Nat} {M : ab_M} {pc n x y : Nat} {cv : Value} {nm : MethodName} {L : List (Option Value)} {st : List Value} {h : ab_H} {Q : Option Value → ab_H → Prop}
theorem ab_dc {i : Instr} (k : Nat) (h1 : ab_okO M pc (i, n, x, y, cv, nm)) (hn : pc + k = n) : decode M.2.1 pc = .ok (i, k) := by
  have h2 : decode M.2.1 pc = .ok (i, n - pc) := h1.1
  rw [h2, ← hn, Nat.add_sub_cancel_left]
theorem r_iadd {a b : Int32} (ho : ab_op M pc = some (.iadd, n, x, y, cv, nm))  (k : ab_C G d kc ks M n L (.int (a + b) :: st) h Q) : ab_C G d kc ks M pc L (.int b :: .int a :: st) h Q := by
  intro ok p e R s m args below meth c Z F hend H locs cells slots ls hw hS hc hs hl
  have h1 := ok _ _ ho
  have hn : pc + 1 = n := h1.2.1
  have hd := ab_dc 1 h1 hn
  subst hn
  exact lv_iadd F.1 F.2.1 hd  (k ok p e R s m args below meth c Z F hend H locs cells slots ls hw hS hc hs hl)
theorem r_isub {a b : Int32} (ho : ab_op M pc = some (.isub, n, x, y, cv, nm))  (k : ab_C G d kc ks M n L (.int (a - b) :: st) h Q) : ab_C G d kc ks M pc L (.int b :: .int a :: st) h Q := by
  intro ok p e R s m args below meth c Z F hend H locs cells slots ls hw hS hc hs hl
  have h1 := ok _ _ ho
  have hn : pc + 1 = n := h1.2.1
  have hd := ab_dc 1 h1 hn
  subst hn
  exact lv_isub F.1 F.2.1 hd  (k ok p e R s m args below meth c Z F hend H locs cells slots ls hw hS hc hs hl)
theorem r_imul {a b : Int32} (ho : ab_op M pc = some (.imul, n, x, y, cv, nm))  (k : ab_C G d kc ks M n L (.int (a * b) :: st) h Q) : ab_C G d kc ks M pc L (.int b :: .int a :: st) h Q := by
  intro ok p e R s m args below meth c Z F hend H locs cells slots ls hw hS hc hs hl
  have h1 := ok _ _ ho
  have hn : pc + 1 = n := h1.2.1
  have hd := ab_dc 1 h1 hn
  subst hn
  exact lv_imul F.1 F.2.1 hd  (k ok p e R s m args below meth c Z F hend H locs cells slots ls hw hS hc hs hl)
theorem r_iand {a b : Int32} (ho : ab_op M pc = some (.iand, n, x, y, cv, nm))  (k : ab_C G d kc ks M n L (.int (a &&& b) :: st) h Q) : ab_C G d kc ks M pc L (.int b :: .int a :: st) h Q := by
  intro ok p e R s m args below meth c Z F hend H locs cells slots ls hw hS hc hs hl
  have h1 := ok _ _ ho
  have hn : pc + 1 = n := h1.2.1
  have hd := ab_dc 1 h1 hn
  subst hn
  exact lv_iand F.1 F.2.1 hd  (k ok p e R s m args below meth c Z F hend H locs cells slots ls hw hS hc hs hl)
theorem r_ior {a b : Int32} (ho : ab_op M pc = some (.ior, n, x, y, cv, nm))  (k : ab_C G d kc ks M n L (.int (a ||| b) :: st) h Q) : ab_C G d kc ks M pc L (.int b :: .int a :: st) h Q := by
  intro ok p e R s m args below meth c Z F hend H locs cells slots ls hw hS hc hs hl
  have h1 := ok _ _ ho
  have hn : pc + 1 = n := h1.2.1
  have hd := ab_dc 1 h1 hn
  subst hn
  exact lv_ior F.1 F.2.1 hd  (k ok p e R s m args below meth c Z F hend H locs cells slots ls hw hS hc hs hl)
theorem r_ixor {a b : Int32} (ho : ab_op M pc = some (.ixor, n, x, y, cv, nm))  (k : ab_C G d kc ks M n L (.int (a ^^^ b) :: st) h Q) : ab_C G d kc ks M pc L (.int b :: .int a :: st) h Q := by
  intro ok p e R s m args below meth c Z F hend H locs cells slots ls hw hS hc hs hl
  have h1 := ok _ _ ho
  have hn : pc + 1 = n := h1.2.1
  have hd := ab_dc 1 h1 hn
  subst hn
  exact lv_ixor F.1 F.2.1 hd  (k ok p e R s m args below meth c Z F hend H locs cells slots ls hw hS hc hs hl)
theorem r_ishl {a b : Int32} (ho : ab_op M pc = some (.ishl, n, x, y, cv, nm))  (k : ab_C G d kc ks M n L (.int (a <<< (b &&& 31)) :: st) h Q) : ab_C G d kc ks M pc L (.int b :: .int a :: st) h Q := by
  intro ok p e R s m args below meth c Z F hend H locs cells slots ls hw hS hc hs hl
  have h1 := ok _ _ ho
  have hn : pc + 1 = n := h1.2.1
  have hd := ab_dc 1 h1 hn
  subst hn
  exact lv_ishl F.1 F.2.1 hd  (k ok p e R s m args below meth c Z F hend H locs cells slots ls hw hS hc hs hl)
theorem r_ishr {a b : Int32} (ho : ab_op M pc = some (.ishr, n, x, y, cv, nm))  (k : ab_C G d kc ks M n L (.int (a >>> (b &&& 31)) :: st) h Q) : ab_C G d kc ks M pc L (.int b :: .int a :: st) h Q := by
  intro ok p e R s m args below meth c Z F hend H locs cells slots ls hw hS hc hs hl
  have h1 := ok _ _ ho
  have hn : pc + 1 = n := h1.2.1
  have hd := ab_dc 1 h1 hn
  subst hn
  exact lv_ishr F.1 F.2.1 hd  (k ok p e R s m args below meth c Z F hend H locs cells slots ls hw hS hc hs hl)
theorem r_iushr {a b : Int32} (ho : ab_op M pc = some (.iushr, n, x, y, cv, nm))  (k : ab_C G d kc ks M n L (.int (i_ushr a b) :: st) h Q) : ab_C G d kc ks M pc L (.int b :: .int a :: st) h Q := by
  intro ok p e R s m args below meth c Z F hend H locs cells slots ls hw hS hc hs hl
  have h1 := ok _ _ ho
  have hn : pc + 1 = n := h1.2.1
  have hd := ab_dc 1 h1 hn
  subst hn
  exact t_iushr F.1 F.2.1 hd rfl (k ok p e R s m args below meth c Z F hend H locs cells slots ls hw hS hc hs hl)
theorem r_idiv {a b : Int32} (ho : ab_op M pc = some (.idiv, n, x, y, cv, nm)) (hne : ¬ b = 0) (k : ab_C G d kc ks M n L (.int (a / b) :: st) h Q) : ab_C G d kc ks M pc L (.int b :: .int a :: st) h Q := by
  intro ok p e R s m args below meth c Z F hend H locs cells slots ls hw hS hc hs hl
  have h1 := ok _ _ ho
  have hn : pc + 1 = n := h1.2.1
  have hd := ab_dc 1 h1 hn
  subst hn
  exact lv_idiv F.1 F.2.1 hd hne (k ok p e R s m args below meth c Z F hend H locs cells slots ls hw hS hc hs hl)
theorem r_irem {a b : Int32} (ho : ab_op M pc = some (.irem, n, x, y, cv, nm)) (hne : ¬ b = 0) (k : ab_C G d kc ks M n L (.int (a - a / b * b) :: st) h Q) : ab_C G d kc ks M pc L (.int b :: .int a :: st) h Q := by
  intro ok p e R s m args below meth c Z F hend H locs cells slots ls hw hS hc hs hl
  have h1 := ok _ _ ho
  have hn : pc + 1 = n := h1.2.1
  have hd := ab_dc 1 h1 hn
  subst hn
  exact t_irem F.1 F.2.1 hd hne rfl (k ok p e R s m args below meth c Z F hend H locs cells slots ls hw hS hc hs hl)
theorem r_ineg {a : Int32} (ho : ab_op M pc = some (.ineg, n, x, y, cv, nm))  (k : ab_C G d kc ks M n L (.int (-a) :: st) h Q) : ab_C G d kc ks M pc L (.int a :: st) h Q := by
  intro ok p e R s m args below meth c Z F hend H locs cells slots ls hw hS hc hs hl
  have h1 := ok _ _ ho
  have hn : pc + 1 = n := h1.2.1
  have hd := ab_dc 1 h1 hn
  subst hn
  exact lv_ineg F.1 F.2.1 hd  (k ok p e R s m args below meth c Z F hend H locs cells slots ls hw hS hc hs hl)
theorem r_ladd {a b : Int64} (ho : ab_op M pc = some (.ladd, n, x, y, cv, nm))  (k : ab_C G d kc ks M n L (.long (a + b) :: st) h Q) : ab_C G d kc ks M pc L (.long b :: .long a :: st) h Q := by
  intro ok p e R s m args below meth c Z F hend H locs cells slots ls hw hS hc hs hl
  have h1 := ok _ _ ho
  have hn : pc + 1 = n := h1.2.1
  have hd := ab_dc 1 h1 hn
  subst hn
  exact t_ladd F.1 F.2.1 hd rfl (k ok p e R s m args below meth c Z F hend H locs cells slots ls hw hS hc hs hl)
theorem r_lmul {a b : Int64} (ho : ab_op M pc = some (.lmul, n, x, y, cv, nm))  (k : ab_C G d kc ks M n L (.long (a * b) :: st) h Q) : ab_C G d kc ks M pc L (.long b :: .long a :: st) h Q := by
  intro ok p e R s m args below meth c Z F hend H locs cells slots ls hw hS hc hs hl
  have h1 := ok _ _ ho
  have hn : pc + 1 = n := h1.2.1
  have hd := ab_dc 1 h1 hn
  subst hn
  exact lv_lmul F.1 F.2.1 hd  (k ok p e R s m args below meth c Z F hend H locs cells slots ls hw hS hc hs hl)
theorem r_lor {a b : Int64} (ho : ab_op M pc = some (.lor, n, x, y, cv, nm))  (k : ab_C G d kc ks M n L (.long (a ||| b) :: st) h Q) : ab_C G d kc ks M pc L (.long b :: .long a :: st) h Q := by
  intro ok p e R s m args below meth c Z F hend H locs cells slots ls hw hS hc hs hl
  have h1 := ok _ _ ho
  have hn : pc + 1 = n := h1.2.1
  have hd := ab_dc 1 h1 hn
  subst hn
  exact t_lor F.1 F.2.1 hd rfl (k ok p e R s m args below meth c Z F hend H locs cells slots ls hw hS hc hs hl)
theorem r_ldiv {a b : Int64} (ho : ab_op M pc = some (.ldiv, n, x, y, cv, nm)) (hne : ¬ b = 0) (k : ab_C G d kc ks M n L (.long (a / b) :: st) h Q) : ab_C G d kc ks M pc L (.long b :: .long a :: st) h Q := by
  intro ok p e R s m args below meth c Z F hend H locs cells slots ls hw hS hc hs hl
  have h1 := ok _ _ ho
  have hn : pc + 1 = n := h1.2.1
  have hd := ab_dc 1 h1 hn
  subst hn
  exact lv_ldiv F.1 F.2.1 hd hne (k ok p e R s m args below meth c Z F hend H locs cells slots ls hw hS hc hs hl)
theorem r_lrem {a b : Int64} (ho : ab_op M pc = some (.lrem, n, x, y, cv, nm)) (hne : ¬ b = 0) (k : ab_C G d kc ks M n L (.long (a - a / b * b) :: st) h Q) : ab_C G d kc ks M pc L (.long b :: .long a :: st) h Q := by
  intro ok p e R s m args below meth c Z F hend H locs cells slots ls hw hS hc hs hl
  have h1 := ok _ _ ho
  have hn : pc + 1 = n := h1.2.1
  have hd := ab_dc 1 h1 hn
  subst hn
  exact lv_lrem F.1 F.2.1 hd hne (k ok p e R s m args below meth c Z F hend H locs cells slots ls hw hS hc hs hl)
theorem r_lshl {a : Int64} {b : Int32} (ho : ab_op M pc = some (.lshl, n, x, y, cv, nm))  (k : ab_C G d kc ks M n L (.long (l_shl a b) :: st) h Q) : ab_C G d kc ks M pc L (.int b :: .long a :: st) h Q := by
  intro ok p e R s m args below meth c Z F hend H locs cells slots ls hw hS hc hs hl
  have h1 := ok _ _ ho
  have hn : pc + 1 = n := h1.2.1
  have hd := ab_dc 1 h1 hn
  subst hn
  exact t_lshl F.1 F.2.1 hd rfl (k ok p e R s m args below meth c Z F hend H locs cells slots ls hw hS hc hs hl)
theorem r_lushr {a : Int64} {b : Int32} (ho : ab_op M pc = some (.lushr, n, x, y, cv, nm))  (k : ab_C G d kc ks M n L (.long (l_ushr a b) :: st) h Q) : ab_C G d kc ks M pc L (.int b :: .long a :: st) h Q := by
  intro ok p e R s m args below meth c Z F hend H locs cells slots ls hw hS hc hs hl
  have h1 := ok _ _ ho
  have hn : pc + 1 = n := h1.2.1
  have hd := ab_dc 1 h1 hn
  subst hn
  exact t_lushr F.1 F.2.1 hd rfl (k ok p e R s m args below meth c Z F hend H locs cells slots ls hw hS hc hs hl)
theorem r_i2l {a : Int32} (ho : ab_op M pc = some (.i2l, n, x, y, cv, nm))  (k : ab_C G d kc ks M n L (.long a.toInt64 :: st) h Q) : ab_C G d kc ks M pc L (.int a :: st) h Q := by
  intro ok p e R s m args below meth c Z F hend H locs cells slots ls hw hS hc hs hl
  have h1 := ok _ _ ho
  have hn : pc + 1 = n := h1.2.1
  have hd := ab_dc 1 h1 hn
  subst hn
  exact t_i2l F.1 F.2.1 hd rfl (k ok p e R s m args below meth c Z F hend H locs cells slots ls hw hS hc hs hl)
theorem r_l2i {a : Int64} (ho : ab_op M pc = some (.l2i, n, x, y, cv, nm))  (k : ab_C G d kc ks M n L (.int a.toInt32 :: st) h Q) : ab_C G d kc ks M pc L (.long a :: st) h Q := by
  intro ok p e R s m args below meth c Z F hend H locs cells slots ls hw hS hc hs hl
  have h1 := ok _ _ ho
  have hn : pc + 1 = n := h1.2.1
  have hd := ab_dc 1 h1 hn
  subst hn
  exact t_l2i F.1 F.2.1 hd rfl (k ok p e R s m args below meth c Z F hend H locs cells slots ls hw hS hc hs hl)
theorem r_i2b {a : Int32} (ho : ab_op M pc = some (.i2b, n, x, y, cv, nm))  (k : ab_C G d kc ks M n L (.int a.toInt8.toInt32 :: st) h Q) : ab_C G d kc ks M pc L (.int a :: st) h Q := by
  intro ok p e R s m args below meth c Z F hend H locs cells slots ls hw hS hc hs hl
  have h1 := ok _ _ ho
  have hn : pc + 1 = n := h1.2.1
  have hd := ab_dc 1 h1 hn
  subst hn
  exact t_i2b F.1 F.2.1 hd rfl (k ok p e R s m args below meth c Z F hend H locs cells slots ls hw hS hc hs hl)
theorem r_lcmp {a b : Int64} (ho : ab_op M pc = some (.lcmp, n, x, y, cv, nm))  (k : ab_C G d kc ks M n L (.int (lg_cmp a b) :: st) h Q) : ab_C G d kc ks M pc L (.long b :: .long a :: st) h Q := by
  intro ok p e R s m args below meth c Z F hend H locs cells slots ls hw hS hc hs hl
  have h1 := ok _ _ ho
  have hn : pc + 1 = n := h1.2.1
  have hd := ab_dc 1 h1 hn
  subst hn
  exact W.lcmp F.1 F.2.1 hd  (k ok p e R s m args below meth c Z F hend H locs cells slots ls hw hS hc hs hl)
theorem r_dup {va : Value} (ho : ab_op M pc = some (.dup, n, x, y, cv, nm)) (hva : va.category = 1) (k : ab_C G d kc ks M n L (va :: va :: st) h Q) : ab_C G d kc ks M pc L (va :: st) h Q := by
  intro ok p e R s m args below meth c Z F hend H locs cells slots ls hw hS hc hs hl
  have h1 := ok _ _ ho
  have hn : pc + 1 = n := h1.2.1
  have hd := ab_dc 1 h1 hn
  subst hn
  exact lv_dup F.1 F.2.1 hd ((ab_v_cat G _).trans hva) (k ok p e R s m args below meth c Z F hend H locs cells slots ls hw hS hc hs hl)
theorem r_pop {va : Value} (ho : ab_op M pc = some (.pop, n, x, y, cv, nm)) (hva : va.category = 1) (k : ab_C G d kc ks M n L st h Q) : ab_C G d kc ks M pc L (va :: st) h Q := by
  intro ok p e R s m args below meth c Z F hend H locs cells slots ls hw hS hc hs hl
  have h1 := ok _ _ ho
  have hn : pc + 1 = n := h1.2.1
  have hd := ab_dc 1 h1 hn
  subst hn
  exact lv_pop F.1 F.2.1 hd ((ab_v_cat G _).trans hva) (k ok p e R s m args below meth c Z F hend H locs cells slots ls hw hS hc hs hl)
theorem r_dup2 {va vb : Value} (ho : ab_op M pc = some (.dup2, n, x, y, cv, nm)) (hva : va.category = 1) (hvb : vb.category = 1) (k : ab_C G d kc ks M n L (va :: vb :: va :: vb :: st) h Q) : ab_C G d kc ks M pc L (va :: vb :: st) h Q := by
  intro ok p e R s m args below meth c Z F hend H locs cells slots ls hw hS hc hs hl
  have h1 := ok _ _ ho
  have hn : pc + 1 = n := h1.2.1
  have hd := ab_dc 1 h1 hn
  subst hn
  exact lv_dup2_11 F.1 F.2.1 hd ((ab_v_cat G _).trans hva) ((ab_v_cat G _).trans hvb) (k ok p e R s m args below meth c Z F hend H locs cells slots ls hw hS hc hs hl)
theorem r_iconst {z : Int} (ho : ab_op M pc = some (.iconst z, n, x, y, cv, nm))  (k : ab_C G d kc ks M n L (.int (Int32.ofInt z) :: st) h Q) : ab_C G d kc ks M pc L st h Q := by
  intro ok p e R s m args below meth c Z F hend H locs cells slots ls hw hS hc hs hl
  have h1 := ok _ _ ho
  have hn : pc + 1 = n := h1.2.1
  have hd := ab_dc 1 h1 hn
  subst hn
  exact lv_iconst F.1 F.2.1 hd rfl (k ok p e R s m args below meth c Z F hend H locs cells slots ls hw hS hc hs hl)
theorem r_bipush {z : Int} (ho : ab_op M pc = some (.bipush z, n, x, y, cv, nm))  (k : ab_C G d kc ks M n L (.int ((Int8.ofInt z).toInt32) :: st) h Q) : ab_C G d kc ks M pc L st h Q := by
  intro ok p e R s m args below meth c Z F hend H locs cells slots ls hw hS hc hs hl
  have h1 := ok _ _ ho
  have hn : pc + 2 = n := h1.2.1
  have hd := ab_dc 2 h1 hn
  subst hn
  exact lv_bipush F.1 F.2.1 hd rfl (k ok p e R s m args below meth c Z F hend H locs cells slots ls hw hS hc hs hl)
theorem r_sipush {z : Int} (ho : ab_op M pc = some (.sipush z, n, x, y, cv, nm))  (k : ab_C G d kc ks M n L (.int ((Int16.ofInt z).toInt32) :: st) h Q) : ab_C G d kc ks M pc L st h Q := by
  intro ok p e R s m args below meth c Z F hend H locs cells slots ls hw hS hc hs hl
  have h1 := ok _ _ ho
  have hn : pc + 3 = n := h1.2.1
  have hd := ab_dc 3 h1 hn
  subst hn
  exact lv_sipush F.1 F.2.1 hd rfl (k ok p e R s m args below meth c Z F hend H locs cells slots ls hw hS hc hs hl)
theorem r_iconst_ {z : Int} {a : Int32} (ho : ab_op M pc = some (.iconst z, n, x, y, cv, nm)) (hv : Int32.ofInt z = a) (k : ab_C G d kc ks M n L (.int a :: st) h Q) : ab_C G d kc ks M pc L st h Q := by
  intro ok p e R s m args below meth c Z F hend H locs cells slots ls hw hS hc hs hl
  have h1 := ok _ _ ho
  have hn : pc + 1 = n := h1.2.1
  have hd := ab_dc 1 h1 hn
  subst hn
  exact lv_iconst F.1 F.2.1 hd hv (k ok p e R s m args below meth c Z F hend H locs cells slots ls hw hS hc hs hl)
theorem r_bipush_ {z : Int} {a : Int32} (ho : ab_op M pc = some (.bipush z, n, x, y, cv, nm)) (hv : (Int8.ofInt z).toInt32 = a) (k : ab_C G d kc ks M n L (.int a :: st) h Q) : ab_C G d kc ks M pc L st h Q := by
  intro ok p e R s m args below meth c Z F hend H locs cells slots ls hw hS hc hs hl
  have h1 := ok _ _ ho
  have hn : pc + 2 = n := h1.2.1
  have hd := ab_dc 2 h1 hn
  subst hn
  exact lv_bipush F.1 F.2.1 hd hv (k ok p e R s m args below meth c Z F hend H locs cells slots ls hw hS hc hs hl)
theorem r_sipush_ {z : Int} {a : Int32} (ho : ab_op M pc = some (.sipush z, n, x, y, cv, nm)) (hv : (Int16.ofInt z).toInt32 = a) (k : ab_C G d kc ks M n L (.int a :: st) h Q) : ab_C G d kc ks M pc L st h Q := by
  intro ok p e R s m args below meth c Z F hend H locs cells slots ls hw hS hc hs hl
  have h1 := ok _ _ ho
  have hn : pc + 3 = n := h1.2.1
  have hd := ab_dc 3 h1 hn
  subst hn
  exact lv_sipush F.1 F.2.1 hd hv (k ok p e R s m args below meth c Z F hend H locs cells slots ls hw hS hc hs hl)
theorem r_lconst {z : Fin 2} {a : Int64} (ho : ab_op M pc = some (.lconst z, n, x, y, cv, nm)) (hv : Int64.ofNat (z : Nat) = a) (k : ab_C G d kc ks M n L (.long a :: st) h Q) : ab_C G d kc ks M pc L st h Q := by
  intro ok p e R s m args below meth c Z F hend H locs cells slots ls hw hS hc hs hl
  have h1 := ok _ _ ho
  have hn : pc + 1 = n := h1.2.1
  have hd := ab_dc 1 h1 hn
  subst hn
  exact lv_lconst F.1 F.2.1 hd hv (k ok p e R s m args below meth c Z F hend H locs cells slots ls hw hS hc hs hl)
theorem r_iload_n {z : Fin 4} {a : Int32} (ho : ab_op M pc = some (.iload_n z, n, x, y, cv, nm)) (hv : L[(z : Nat)]? = some (some (.int a))) (k : ab_C G d kc ks M n L (.int a :: st) h Q) : ab_C G d kc ks M pc L st h Q := by
  intro ok p e R s m args below meth c Z F hend H locs cells slots ls hw hS hc hs hl
  have h1 := ok _ _ ho
  have hn : pc + 1 = n := h1.2.1
  have hd := ab_dc 1 h1 hn
  subst hn
  exact lv_iload_n F.1 F.2.1 hd rfl (hl.2.2 _ _ (ab_lm_get hv)) (k ok p e R s m args below meth c Z F hend H locs cells slots ls hw hS hc hs hl)
theorem r_iload {z : Nat} {a : Int32} (ho : ab_op M pc = some (.iload z, n, x, y, cv, nm)) (hv : L[z]? = some (some (.int a))) (k : ab_C G d kc ks M n L (.int a :: st) h Q) : ab_C G d kc ks M pc L st h Q := by
  intro ok p e R s m args below meth c Z F hend H locs cells slots ls hw hS hc hs hl
  have h1 := ok _ _ ho
  have hn : pc + 2 = n := h1.2.1
  have hd := ab_dc 2 h1 hn
  subst hn
  exact lv_iload F.1 F.2.1 hd (hl.2.2 _ _ (ab_lm_get hv)) (k ok p e R s m args below meth c Z F hend H locs cells slots ls hw hS hc hs hl)
theorem r_lload_n {z : Fin 4} {a : Int64} (ho : ab_op M pc = some (.lload_n z, n, x, y, cv, nm)) (hv : L[(z : Nat)]? = some (some (.long a))) (k : ab_C G d kc ks M n L (.long a :: st) h Q) : ab_C G d kc ks M pc L st h Q := by
  intro ok p e R s m args below meth c Z F hend H locs cells slots ls hw hS hc hs hl
  have h1 := ok _ _ ho
  have hn : pc + 1 = n := h1.2.1
  have hd := ab_dc 1 h1 hn
  subst hn
  exact lv_lload_n F.1 F.2.1 hd rfl (hl.2.2 _ _ (ab_lm_get hv)) (k ok p e R s m args below meth c Z F hend H locs cells slots ls hw hS hc hs hl)
theorem r_lload {z : Nat} {a : Int64} (ho : ab_op M pc = some (.lload z, n, x, y, cv, nm)) (hv : L[z]? = some (some (.long a))) (k : ab_C G d kc ks M n L (.long a :: st) h Q) : ab_C G d kc ks M pc L st h Q := by
  intro ok p e R s m args below meth c Z F hend H locs cells slots ls hw hS hc hs hl
  have h1 := ok _ _ ho
  have hn : pc + 2 = n := h1.2.1
  have hd := ab_dc 2 h1 hn
  subst hn
  exact lv_lload F.1 F.2.1 hd (hl.2.2 _ _ (ab_lm_get hv)) (k ok p e R s m args below meth c Z F hend H locs cells slots ls hw hS hc hs hl)
theorem r_aload_n {z : Fin 4} {a : Nat} (ho : ab_op M pc = some (.aload_n z, n, x, y, cv, nm)) (hv : L[(z : Nat)]? = some (some (.ref a))) (k : ab_C G d kc ks M n L (.ref a :: st) h Q) : ab_C G d kc ks M pc L st h Q := by
  intro ok p e R s m args below meth c Z F hend H locs cells slots ls hw hS hc hs hl
  have h1 := ok _ _ ho
  have hn : pc + 1 = n := h1.2.1
  have hd := ab_dc 1 h1 hn
  subst hn
  exact lv_aload_n F.1 F.2.1 hd rfl (hl.2.2 _ _ (ab_lm_get hv)) (k ok p e R s m args below meth c Z F hend H locs cells slots ls hw hS hc hs hl)
theorem r_aload {z : Nat} {a : Nat} (ho : ab_op M pc = some (.aload z, n, x, y, cv, nm)) (hv : L[z]? = some (some (.ref a))) (k : ab_C G d kc ks M n L (.ref a :: st) h Q) : ab_C G d kc ks M pc L st h Q := by
  intro ok p e R s m args below meth c Z F hend H locs cells slots ls hw hS hc hs hl
  have h1 := ok _ _ ho
  have hn : pc + 2 = n := h1.2.1
  have hd := ab_dc 2 h1 hn
  subst hn
  exact lv_aload F.1 F.2.1 hd (hl.2.2 _ _ (ab_lm_get hv)) (k ok p e R s m args below meth c Z F hend H locs cells slots ls hw hS hc hs hl)
theorem r_istore_n {z : Fin 4} {a : Int32} {L1 : List (Option Value)} (ho : ab_op M pc = some (.istore_n z, n, x, y, cv, nm)) (hz : (z : Nat) < M.2.2.1) (hL : ab_s1 L (z : Nat) (.int a) = L1) (k : ab_C G d kc ks M n L1 st h Q) : ab_C G d kc ks M pc L (.int a :: st) h Q := by
  intro ok p e R s m args below meth c Z F hend H locs cells slots ls hw hS hc hs hl
  have h1 := ok _ _ ho
  have hn : pc + 1 = n := h1.2.1
  have hd := ab_dc 1 h1 hn
  subst hn
  exact lv_istore_n F.1 F.2.1 hd rfl (ab_l_has hl) hz rfl (fun ls1 hl1 => k ok p e R s m args below meth c Z F hend H locs cells slots ls1 hw hS hc hs (ab_lm_put1 hL hl1))
theorem r_istore {z : Nat} {a : Int32} {L1 : List (Option Value)} (ho : ab_op M pc = some (.istore z, n, x, y, cv, nm)) (hz : z < M.2.2.1) (hL : ab_s1 L z (.int a) = L1) (k : ab_C G d kc ks M n L1 st h Q) : ab_C G d kc ks M pc L (.int a :: st) h Q := by
  intro ok p e R s m args below meth c Z F hend H locs cells slots ls hw hS hc hs hl
  have h1 := ok _ _ ho
  have hn : pc + 2 = n := h1.2.1
  have hd := ab_dc 2 h1 hn
  subst hn
  exact lv_istore F.1 F.2.1 hd (ab_l_has hl) hz rfl (fun ls1 hl1 => k ok p e R s m args below meth c Z F hend H locs cells slots ls1 hw hS hc hs (ab_lm_put1 hL hl1))
theorem r_lstore_n {z : Fin 4} {a : Int64} {L1 : List (Option Value)} (ho : ab_op M pc = some (.lstore_n z, n, x, y, cv, nm)) (hz : (z : Nat) + 1 < M.2.2.1) (hL : ab_s2 L (z : Nat) (.long a) = L1) (k : ab_C G d kc ks M n L1 st h Q) : ab_C G d kc ks M pc L (.long a :: st) h Q := by
  intro ok p e R s m args below meth c Z F hend H locs cells slots ls hw hS hc hs hl
  have h1 := ok _ _ ho
  have hn : pc + 1 = n := h1.2.1
  have hd := ab_dc 1 h1 hn
  subst hn
  exact lv_lstore_n F.1 F.2.1 hd rfl (ab_l_has hl) hz rfl (fun ls1 hl1 => k ok p e R s m args below meth c Z F hend H locs cells slots ls1 hw hS hc hs (ab_lm_put2 hL hl1))
theorem r_lstore {z : Nat} {a : Int64} {L1 : List (Option Value)} (ho : ab_op M pc = some (.lstore z, n, x, y, cv, nm)) (hz : z + 1 < M.2.2.1) (hL : ab_s2 L z (.long a) = L1) (k : ab_C G d kc ks M n L1 st h Q) : ab_C G d kc ks M pc L (.long a :: st) h Q := by
  intro ok p e R s m args below meth c Z F hend H locs cells slots ls hw hS hc hs hl
  have h1 := ok _ _ ho
  have hn : pc + 2 = n := h1.2.1
  have hd := ab_dc 2 h1 hn
  subst hn
  exact lv_lstore F.1 F.2.1 hd (ab_l_has hl) hz rfl (fun ls1 hl1 => k ok p e R s m args below meth c Z F hend H locs cells slots ls1 hw hS hc hs (ab_lm_put2 hL hl1))
theorem r_astore_n {z : Fin 4} {a : Nat} {L1 : List (Option Value)} (ho : ab_op M pc = some (.astore_n z, n, x, y, cv, nm)) (hz : (z : Nat) < M.2.2.1) (hL : ab_s1 L (z : Nat) (.ref a) = L1) (k : ab_C G d kc ks M n L1 st h Q) : ab_C G d kc ks M pc L (.ref a :: st) h Q := by
  intro ok p e R s m args below meth c Z F hend H locs cells slots ls hw hS hc hs hl
  have h1 := ok _ _ ho
  have hn : pc + 1 = n := h1.2.1
  have hd := ab_dc 1 h1 hn
  subst hn
  exact lv_astore_n F.1 F.2.1 hd rfl (ab_l_has hl) hz rfl (fun ls1 hl1 => k ok p e R s m args below meth c Z F hend H locs cells slots ls1 hw hS hc hs (ab_lm_put1 hL hl1))
theorem r_astore {z : Nat} {a : Nat} {L1 : List (Option Value)} (ho : ab_op M pc = some (.astore z, n, x, y, cv, nm)) (hz : z < M.2.2.1) (hL : ab_s1 L z (.ref a) = L1) (k : ab_C G d kc ks M n L1 st h Q) : ab_C G d kc ks M pc L (.ref a :: st) h Q := by
  intro ok p e R s m args below meth c Z F hend H locs cells slots ls hw hS hc hs hl
  have h1 := ok _ _ ho
  have hn : pc + 2 = n := h1.2.1
  have hd := ab_dc 2 h1 hn
  subst hn
  exact lv_astore F.1 F.2.1 hd (ab_l_has hl) hz rfl (fun ls1 hl1 => k ok p e R s m args below meth c Z F hend H locs cells slots ls1 hw hS hc hs (ab_lm_put1 hL hl1))
theorem r_iinc {z : Nat} {w : Int} {a b : Int32} {L1 : List (Option Value)} (ho : ab_op M pc = some (.iinc z w, n, x, y, cv, nm)) (hv : L[z]? = some (some (.int a))) (hb : a + Int32.ofInt w = b) (hz : z < M.2.2.1) (hL : ab_s1 L z (.int b) = L1) (k : ab_C G d kc ks M n L1 st h Q) : ab_C G d kc ks M pc L st h Q := by
  intro ok p e R s m args below meth c Z F hend H locs cells slots ls hw hS hc hs hl
  have h1 := ok _ _ ho
  have hn : pc + 3 = n := h1.2.1
  have hd := ab_dc 3 h1 hn
  subst hn
  obtain ⟨j, hj⟩ := List.getElem?_of_mem (ab_ll_mem.mpr (ab_lm_get (G := G) hv))
  exact lv_iinc F.1 F.2.1 hd (ab_l_has hl) hj hb hz rfl (fun ls1 hl1 => k ok p e R s m args below meth c Z F hend H locs cells slots ls1 hw hS hc hs (ab_lm_put1 hL hl1))
theorem r_if_eq {a : Int32} {off : Int} (ho : ab_op M pc = some (.ifCond .eq off, n, x, y, cv, nm)) (kt : a = 0 → ab_C G d kc ks M x L st h Q) (kf : ¬ a = 0 → ab_C G d kc ks M n L st h Q) : ab_C G d kc ks M pc L (.int a :: st) h Q := by
  intro ok p e R s m args below meth c Z F hend H locs cells slots ls hw hS hc hs hl
  have h1 := ok _ _ ho
  have hn : pc + 3 = n := h1.2.1
  have hd := ab_dc 3 h1 hn
  subst hn
  exact lv_if_eq F.1 F.2.1 hd h1.2.2.1 (fun q => kt q ok p e R s m args below meth c Z F hend H locs cells slots ls hw hS hc hs hl) (fun q => kf q ok p e R s m args below meth c Z F hend H locs cells slots ls hw hS hc hs hl)
theorem r_icmp_eq {a b : Int32} {off : Int} (ho : ab_op M pc = some (.if_icmp .eq off, n, x, y, cv, nm)) (kt : a = b → ab_C G d kc ks M x L st h Q) (kf : ¬ a = b → ab_C G d kc ks M n L st h Q) : ab_C G d kc ks M pc L (.int b :: .int a :: st) h Q := by
  intro ok p e R s m args below meth c Z F hend H locs cells slots ls hw hS hc hs hl
  have h1 := ok _ _ ho
  have hn : pc + 3 = n := h1.2.1
  have hd := ab_dc 3 h1 hn
  subst hn
  exact lv_icmp_eq F.1 F.2.1 hd h1.2.2.1 (fun q => kt q ok p e R s m args below meth c Z F hend H locs cells slots ls hw hS hc hs hl) (fun q => kf q ok p e R s m args below meth c Z F hend H locs cells slots ls hw hS hc hs hl)
theorem r_if_ne {a : Int32} {off : Int} (ho : ab_op M pc = some (.ifCond .ne off, n, x, y, cv, nm)) (kt : ¬ a = 0 → ab_C G d kc ks M x L st h Q) (kf : a = 0 → ab_C G d kc ks M n L st h Q) : ab_C G d kc ks M pc L (.int a :: st) h Q := by
  intro ok p e R s m args below meth c Z F hend H locs cells slots ls hw hS hc hs hl
  have h1 := ok _ _ ho
  have hn : pc + 3 = n := h1.2.1
  have hd := ab_dc 3 h1 hn
  subst hn
  exact lv_if_ne F.1 F.2.1 hd h1.2.2.1 (fun q => kt q ok p e R s m args below meth c Z F hend H locs cells slots ls hw hS hc hs hl) (fun q => kf q ok p e R s m args below meth c Z F hend H locs cells slots ls hw hS hc hs hl)
theorem r_icmp_ne {a b : Int32} {off : Int} (ho : ab_op M pc = some (.if_icmp .ne off, n, x, y, cv, nm)) (kt : ¬ a = b → ab_C G d kc ks M x L st h Q) (kf : a = b → ab_C G d kc ks M n L st h Q) : ab_C G d kc ks M pc L (.int b :: .int a :: st) h Q := by
  intro ok p e R s m args below meth c Z F hend H locs cells slots ls hw hS hc hs hl
  have h1 := ok _ _ ho
  have hn : pc + 3 = n := h1.2.1
  have hd := ab_dc 3 h1 hn
  subst hn
  exact lv_icmp_ne F.1 F.2.1 hd h1.2.2.1 (fun q => kt q ok p e R s m args below meth c Z F hend H locs cells slots ls hw hS hc hs hl) (fun q => kf q ok p e R s m args below meth c Z F hend H locs cells slots ls hw hS hc hs hl)
theorem r_if_lt {a : Int32} {off : Int} (ho : ab_op M pc = some (.ifCond .lt off, n, x, y, cv, nm)) (kt : a < 0 → ab_C G d kc ks M x L st h Q) (kf : ¬ a < 0 → ab_C G d kc ks M n L st h Q) : ab_C G d kc ks M pc L (.int a :: st) h Q := by
  intro ok p e R s m args below meth c Z F hend H locs cells slots ls hw hS hc hs hl
  have h1 := ok _ _ ho
  have hn : pc + 3 = n := h1.2.1
  have hd := ab_dc 3 h1 hn
  subst hn
  exact lv_if_lt F.1 F.2.1 hd h1.2.2.1 (fun q => kt q ok p e R s m args below meth c Z F hend H locs cells slots ls hw hS hc hs hl) (fun q => kf q ok p e R s m args below meth c Z F hend H locs cells slots ls hw hS hc hs hl)
theorem r_icmp_lt {a b : Int32} {off : Int} (ho : ab_op M pc = some (.if_icmp .lt off, n, x, y, cv, nm)) (kt : a < b → ab_C G d kc ks M x L st h Q) (kf : ¬ a < b → ab_C G d kc ks M n L st h Q) : ab_C G d kc ks M pc L (.int b :: .int a :: st) h Q := by
  intro ok p e R s m args below meth c Z F hend H locs cells slots ls hw hS hc hs hl
  have h1 := ok _ _ ho
  have hn : pc + 3 = n := h1.2.1
  have hd := ab_dc 3 h1 hn
  subst hn
  exact lv_icmp_lt F.1 F.2.1 hd h1.2.2.1 (fun q => kt q ok p e R s m args below meth c Z F hend H locs cells slots ls hw hS hc hs hl) (fun q => kf q ok p e R s m args below meth c Z F hend H locs cells slots ls hw hS hc hs hl)
theorem r_if_ge {a : Int32} {off : Int} (ho : ab_op M pc = some (.ifCond .ge off, n, x, y, cv, nm)) (kt : 0 ≤ a → ab_C G d kc ks M x L st h Q) (kf : ¬ 0 ≤ a → ab_C G d kc ks M n L st h Q) : ab_C G d kc ks M pc L (.int a :: st) h Q := by
  intro ok p e R s m args below meth c Z F hend H locs cells slots ls hw hS hc hs hl
  have h1 := ok _ _ ho
  have hn : pc + 3 = n := h1.2.1
  have hd := ab_dc 3 h1 hn
  subst hn
  exact lv_if_ge F.1 F.2.1 hd h1.2.2.1 (fun q => kt q ok p e R s m args below meth c Z F hend H locs cells slots ls hw hS hc hs hl) (fun q => kf q ok p e R s m args below meth c Z F hend H locs cells slots ls hw hS hc hs hl)
theorem r_icmp_ge {a b : Int32} {off : Int} (ho : ab_op M pc = some (.if_icmp .ge off, n, x, y, cv, nm)) (kt : b ≤ a → ab_C G d kc ks M x L st h Q) (kf : ¬ b ≤ a → ab_C G d kc ks M n L st h Q) : ab_C G d kc ks M pc L (.int b :: .int a :: st) h Q := by
  intro ok p e R s m args below meth c Z F hend H locs cells slots ls hw hS hc hs hl
  have h1 := ok _ _ ho
  have hn : pc + 3 = n := h1.2.1
  have hd := ab_dc 3 h1 hn
  subst hn
  exact lv_icmp_ge F.1 F.2.1 hd h1.2.2.1 (fun q => kt q ok p e R s m args below meth c Z F hend H locs cells slots ls hw hS hc hs hl) (fun q => kf q ok p e R s m args below meth c Z F hend H locs cells slots ls hw hS hc hs hl)
theorem r_if_gt {a : Int32} {off : Int} (ho : ab_op M pc = some (.ifCond .gt off, n, x, y, cv, nm)) (kt : 0 < a → ab_C G d kc ks M x L st h Q) (kf : ¬ 0 < a → ab_C G d kc ks M n L st h Q) : ab_C G d kc ks M pc L (.int a :: st) h Q := by
  intro ok p e R s m args below meth c Z F hend H locs cells slots ls hw hS hc hs hl
  have h1 := ok _ _ ho
  have hn : pc + 3 = n := h1.2.1
  have hd := ab_dc 3 h1 hn
  subst hn
  exact lv_if_gt F.1 F.2.1 hd h1.2.2.1 (fun q => kt q ok p e R s m args below meth c Z F hend H locs cells slots ls hw hS hc hs hl) (fun q => kf q ok p e R s m args below meth c Z F hend H locs cells slots ls hw hS hc hs hl)
theorem r_icmp_gt {a b : Int32} {off : Int} (ho : ab_op M pc = some (.if_icmp .gt off, n, x, y, cv, nm)) (kt : b < a → ab_C G d kc ks M x L st h Q) (kf : ¬ b < a → ab_C G d kc ks M n L st h Q) : ab_C G d kc ks M pc L (.int b :: .int a :: st) h Q := by
  intro ok p e R s m args below meth c Z F hend H locs cells slots ls hw hS hc hs hl
  have h1 := ok _ _ ho
  have hn : pc + 3 = n := h1.2.1
  have hd := ab_dc 3 h1 hn
  subst hn
  exact lv_icmp_gt F.1 F.2.1 hd h1.2.2.1 (fun q => kt q ok p e R s m args below meth c Z F hend H locs cells slots ls hw hS hc hs hl) (fun q => kf q ok p e R s m args below meth c Z F hend H locs cells slots ls hw hS hc hs hl)
theorem r_if_le {a : Int32} {off : Int} (ho : ab_op M pc = some (.ifCond .le off, n, x, y, cv, nm)) (kt : a ≤ 0 → ab_C G d kc ks M x L st h Q) (kf : ¬ a ≤ 0 → ab_C G d kc ks M n L st h Q) : ab_C G d kc ks M pc L (.int a :: st) h Q := by
  intro ok p e R s m args below meth c Z F hend H locs cells slots ls hw hS hc hs hl
  have h1 := ok _ _ ho
  have hn : pc + 3 = n := h1.2.1
  have hd := ab_dc 3 h1 hn
  subst hn
  exact lv_if_le F.1 F.2.1 hd h1.2.2.1 (fun q => kt q ok p e R s m args below meth c Z F hend H locs cells slots ls hw hS hc hs hl) (fun q => kf q ok p e R s m args below meth c Z F hend H locs cells slots ls hw hS hc hs hl)
theorem r_icmp_le {a b : Int32} {off : Int} (ho : ab_op M pc = some (.if_icmp .le off, n, x, y, cv, nm)) (kt : a ≤ b → ab_C G d kc ks M x L st h Q) (kf : ¬ a ≤ b → ab_C G d kc ks M n L st h Q) : ab_C G d kc ks M pc L (.int b :: .int a :: st) h Q := by
  intro ok p e R s m args below meth c Z F hend H locs cells slots ls hw hS hc hs hl
  have h1 := ok _ _ ho
  have hn : pc + 3 = n := h1.2.1
  have hd := ab_dc 3 h1 hn
  subst hn
  exact lv_icmp_le F.1 F.2.1 hd h1.2.2.1 (fun q => kt q ok p e R s m args below meth c Z F hend H locs cells slots ls hw hS hc hs hl) (fun q => kf q ok p e R s m args below meth c Z F hend H locs cells slots ls hw hS hc hs hl)
theorem r_goto {off : Int} (ho : ab_op M pc = some (.goto off, n, x, y, cv, nm)) (k : ab_C G d kc ks M x L st h Q) : ab_C G d kc ks M pc L st h Q := by
  intro ok p e R s m args below meth c Z F hend H locs cells slots ls hw hS hc hs hl
  have h1 := ok _ _ ho
  have hn : pc + 3 = n := h1.2.1
  have hd := ab_dc 3 h1 hn
  subst hn
  exact lv_goto F.1 F.2.1 hd h1.2.2.1 (k ok p e R s m args below meth c Z F hend H locs cells slots ls hw hS hc hs hl)
theorem r_ifnonnull {off : Int} {a : Nat} (ho : ab_op M pc = some (.ifnonnull off, n, x, y, cv, nm)) (k : ab_C G d kc ks M x L st h Q) : ab_C G d kc ks M pc L (.ref a :: st) h Q := by
  intro ok p e R s m args below meth c Z F hend H locs cells slots ls hw hS hc hs hl
  have h1 := ok _ _ ho
  have hn : pc + 3 = n := h1.2.1
  have hd := ab_dc 3 h1 hn
  subst hn
  exact lv_ifnonnull F.1 F.2.1 hd h1.2.2.1 (k ok p e R s m args below meth c Z F hend H locs cells slots ls hw hS hc hs hl)
theorem r_ifnonnullN {off : Int} (ho : ab_op M pc = some (.ifnonnull off, n, x, y, cv, nm)) (k : ab_C G d kc ks M n L st h Q) : ab_C G d kc ks M pc L (.null :: st) h Q := by
  intro ok p e R s m args below meth c Z F hend H locs cells slots ls hw hS hc hs hl
  have h1 := ok _ _ ho
  have hn : pc + 3 = n := h1.2.1
  have hd := ab_dc 3 h1 hn
  subst hn
  exact lv_ifnonnullN F.1 F.2.1 hd (k ok p e R s m args below meth c Z F hend H locs cells slots ls hw hS hc hs hl)
theorem r_ifnull {off : Int} {a : Nat} (ho : ab_op M pc = some (.ifnull off, n, x, y, cv, nm)) (k : ab_C G d kc ks M n L st h Q) : ab_C G d kc ks M pc L (.ref a :: st) h Q := by
  intro ok p e R s m args below meth c Z F hend H locs cells slots ls hw hS hc hs hl
  have h1 := ok _ _ ho
  have hn : pc + 3 = n := h1.2.1
  have hd := ab_dc 3 h1 hn
  subst hn
  exact lv_ifnull F.1 F.2.1 hd (k ok p e R s m args below meth c Z F hend H locs cells slots ls hw hS hc hs hl)
theorem r_tableIn {dflt lo hi off : Int} {offs : Array Int} {a : Int32} {tgt : Nat} (ho : ab_op M pc = some (.tableswitch dflt lo hi offs, n, x, y, cv, nm)) (g1 : ¬ a.toInt < lo) (g2 : ¬ hi < a.toInt) (g3 : offs[(a.toInt - lo).toNat]? = some off) (g4 : (pc : Int) + off = (tgt : Int)) (k : ab_C G d kc ks M tgt L st h Q) : ab_C G d kc ks M pc L (.int a :: st) h Q := by
  intro ok p e R s m args below meth c Z F hend H locs cells slots ls hw hS hc hs hl
  exact lv_tableIn F.1 F.2.1 (ok _ _ ho).1 g1 g2 g3 g4 (k ok p e R s m args below meth c Z F hend H locs cells slots ls hw hS hc hs hl)
theorem r_tableOut {dflt lo hi : Int} {offs : Array Int} {a : Int32} {tgt : Nat} (ho : ab_op M pc = some (.tableswitch dflt lo hi offs, n, x, y, cv, nm)) (g1 : a.toInt < lo ∨ hi < a.toInt) (g4 : (pc : Int) + dflt = (tgt : Int)) (k : ab_C G d kc ks M tgt L st h Q) : ab_C G d kc ks M pc L (.int a :: st) h Q := by
  intro ok p e R s m args below meth c Z F hend H locs cells slots ls hw hS hc hs hl
  exact lv_tableOut F.1 F.2.1 (ok _ _ ho).1 g1 g4 (k ok p e R s m args below meth c Z F hend H locs cells slots ls hw hS hc hs hl)
theorem r_lookup {dflt off : Int} {prs : Array (Int × Int)} {a : Int32} {tgt : Nat} (ho : ab_op M pc = some (.lookupswitch dflt prs, n, x, y, cv, nm)) (hp : (prs.toList.zip (prs.toList.drop 1)).all (fun (a, next) => a.1 < next.1) = true) (g3 : Op.lookupswitch.offset prs.toList dflt a.toInt = off) (g4 : (pc : Int) + off = (tgt : Int)) (k : ab_C G d kc ks M tgt L st h Q) : ab_C G d kc ks M pc L (.int a :: st) h Q := by
  intro ok p e R s m args below meth c Z F hend H locs cells slots ls hw hS hc hs hl
  exact lv_lookup F.1 F.2.1 (ok _ _ ho).1 hp g3 g4 (k ok p e R s m args below meth c Z F hend H locs cells slots ls hw hS hc hs hl)
theorem r_ldc {i : Nat} {a : Int32} (ho : ab_op M pc = some (.ldc i, n, x, y, .int a, nm)) (k : ab_C G d kc ks M n L (.int a :: st) h Q) : ab_C G d kc ks M pc L st h Q := by
  intro ok p e R s m args below meth c Z F hend H locs cells slots ls hw hS hc hs hl
  have h1 := ok _ _ ho
  have hn : pc + 2 = n := h1.2.1
  have hd := ab_dc 2 h1 hn
  subst hn
  exact lv_ldc F.1 F.2.1 F.2.2.2.1 (F.2.2.2.2.2.2.2.1 _ (h1.2.2.2.2.1 _ List.mem_cons_self)) hd (k ok p e R s m args below meth c Z F hend H locs cells slots ls hw hS hc hs hl)
theorem r_ldc_w {i : Nat} {a : Int32} (ho : ab_op M pc = some (.ldc_w i, n, x, y, .int a, nm)) (k : ab_C G d kc ks M n L (.int a :: st) h Q) : ab_C G d kc ks M pc L st h Q := by
  intro ok p e R s m args below meth c Z F hend H locs cells slots ls hw hS hc hs hl
  have h1 := ok _ _ ho
  have hn : pc + 3 = n := h1.2.1
  have hd := ab_dc 3 h1 hn
  subst hn
  exact lv_ldcw F.1 F.2.1 F.2.2.2.1 (F.2.2.2.2.2.2.2.1 _ (h1.2.2.2.2.1 _ List.mem_cons_self)) hd (k ok p e R s m args below meth c Z F hend H locs cells slots ls hw hS hc hs hl)
theorem r_ldc2_w {i : Nat} {a : Int64} (ho : ab_op M pc = some (.ldc2_w i, n, x, y, .long a, nm)) (k : ab_C G d kc ks M n L (.long a :: st) h Q) : ab_C G d kc ks M pc L st h Q := by
  intro ok p e R s m args below meth c Z F hend H locs cells slots ls hw hS hc hs hl
  have h1 := ok _ _ ho
  have hn : pc + 3 = n := h1.2.1
  have hd := ab_dc 3 h1 hn
  subst hn
  exact lv_ldc2 F.1 F.2.1 F.2.2.2.1 (F.2.2.2.2.2.2.2.1 _ (h1.2.2.2.2.1 _ List.mem_cons_self)) hd (k ok p e R s m args below meth c Z F hend H locs cells slots ls hw hS hc hs hl)
theorem r_iald {a z : Nat} {i : Int32} {f : Nat → Int32} (ho : ab_op M pc = some (.iaload, n, x, y, cv, nm)) (ha : h.1 a = some (.inl (0, z, .inl f))) (hi : vp_in i z) (k : ab_C G d kc ks M n L (.int (f i.toNatClampNeg) :: st) h Q) : ab_C G d kc ks M pc L (.int i :: .ref a :: st) h Q := by
  intro ok p e R s m args below meth c Z F hend H locs cells slots ls hw hS hc hs hl
  have h1 := ok _ _ ho
  have hn : pc + 1 = n := h1.2.1
  have hd := ab_dc 1 h1 hn
  subst hn
  have hat := hw.2 _ _ ha
  exact va_iald F.1 F.2.1 F.2.2.2.2.2.2.2.2.1.1 (ab_one hat) 0 0 rfl rfl hi hd (k ok p e R s m args below meth c Z F hend H locs cells slots ls hw hS hc hs hl)
theorem r_bald {a z : Nat} {i : Int32} {f : Nat → Int32} (ho : ab_op M pc = some (.baload, n, x, y, cv, nm)) (ha : h.1 a = some (.inl (2, z, .inl f))) (hi : vp_in i z) (k : ab_C G d kc ks M n L (.int (f i.toNatClampNeg) :: st) h Q) : ab_C G d kc ks M pc L (.int i :: .ref a :: st) h Q := by
  intro ok p e R s m args below meth c Z F hend H locs cells slots ls hw hS hc hs hl
  have h1 := ok _ _ ho
  have hn : pc + 1 = n := h1.2.1
  have hd := ab_dc 1 h1 hn
  subst hn
  have hat := hw.2 _ _ ha
  exact va_bald F.1 F.2.1 F.2.2.2.2.2.2.2.2.1.1 (ab_one hat) 0 2 rfl rfl hi hd (k ok p e R s m args below meth c Z F hend H locs cells slots ls hw hS hc hs hl)
theorem r_zald {a z : Nat} {i : Int32} {f : Nat → Int32} (ho : ab_op M pc = some (.baload, n, x, y, cv, nm)) (ha : h.1 a = some (.inl (3, z, .inl f))) (hi : vp_in i z) (k : ab_C G d kc ks M n L (.int (f i.toNatClampNeg) :: st) h Q) : ab_C G d kc ks M pc L (.int i :: .ref a :: st) h Q := by
  intro ok p e R s m args below meth c Z F hend H locs cells slots ls hw hS hc hs hl
  have h1 := ok _ _ ho
  have hn : pc + 1 = n := h1.2.1
  have hd := ab_dc 1 h1 hn
  subst hn
  have hat := hw.2 _ _ ha
  exact va_zald F.1 F.2.1 F.2.2.2.2.2.2.2.2.1.1 (ab_one hat) 0 3 rfl rfl hi hd (k ok p e R s m args below meth c Z F hend H locs cells slots ls hw hS hc hs hl)
theorem r_lald {a z : Nat} {i : Int32} {f : Nat → Int64} (ho : ab_op M pc = some (.laload, n, x, y, cv, nm)) (ha : h.1 a = some (.inl (1, z, .inr (.inl f)))) (hi : vp_in i z) (k : ab_C G d kc ks M n L (.long (f i.toNatClampNeg) :: st) h Q) : ab_C G d kc ks M pc L (.int i :: .ref a :: st) h Q := by
  intro ok p e R s m args below meth c Z F hend H locs cells slots ls hw hS hc hs hl
  have h1 := ok _ _ ho
  have hn : pc + 1 = n := h1.2.1
  have hd := ab_dc 1 h1 hn
  subst hn
  have hat := hw.2 _ _ ha
  exact va_lald F.1 F.2.1 F.2.2.2.2.2.2.2.2.1.1 (ab_one hat) 0 1 rfl rfl hi hd (k ok p e R s m args below meth c Z F hend H locs cells slots ls hw hS hc hs hl)
theorem r_aald {a z : Nat} {i : Int32} {f : Nat → Option Nat} (ho : ab_op M pc = some (.aaload, n, x, y, cv, nm)) (ha : h.1 a = some (.inl (4, z, .inr (.inr (.inr (.inr f)))))) (hi : vp_in i z) (k : ab_C G d kc ks M n L (va_rf (f i.toNatClampNeg) :: st) h Q) : ab_C G d kc ks M pc L (.int i :: .ref a :: st) h Q := by
  intro ok p e R s m args below meth c Z F hend H locs cells slots ls hw hS hc hs hl
  have h1 := ok _ _ ho
  have hn : pc + 1 = n := h1.2.1
  have hd := ab_dc 1 h1 hn
  subst hn
  have hat := hw.2 _ _ ha
  refine va_aldq F.1 F.2.1 F.2.2.2.2.2.2.2.2.1.1 (ab_one hat) 0 4 rfl rfl hi hd ?_
  have k1 := (k ok p e R s m args below meth c Z F hend H locs cells slots ls hw hS hc hs hl)
  rw [ab_v_rf]
  exact k1
theorem r_alen {a kd : Nat} {w : vp_A} {v : Int32} (ho : ab_op M pc = some (.arraylength, n, x, y, cv, nm)) (ha : h.1 a = some (.inl (kd, w))) (hkd : kd < 5) (hv : Int32.ofNat w.1 = v) (k : ab_C G d kc ks M n L (.int v :: st) h Q) : ab_C G d kc ks M pc L (.ref a :: st) h Q := by
  intro ok p e R s m args below meth c Z F hend H locs cells slots ls hw hS hc hs hl
  have h1 := ok _ _ ho
  have hn : pc + 1 = n := h1.2.1
  have hd := ab_dc 1 h1 hn
  subst hn
  have hat := hw.2 _ _ ha
  have hty : ∃ ty, (ab_tys G.2.2.2.1)[kd]? = some (G.2.2.2.1 kd, ty) := by
    match kd, hkd with
    | 0, _ => exact ⟨_, rfl⟩
    | 1, _ => exact ⟨_, rfl⟩
    | 2, _ => exact ⟨_, rfl⟩
    | 3, _ => exact ⟨_, rfl⟩
    | 4, _ => exact ⟨_, rfl⟩
  obtain ⟨ty, hty⟩ := hty
  exact va_alen F.1 F.2.1 F.2.2.2.2.2.2.2.2.1.1 (ab_one hat) 0 kd rfl hty hv hd (k ok p e R s m args below meth c Z F hend H locs cells slots ls hw hS hc hs hl)
theorem r_iast {a z : Nat} {i : Int32} {w : Int32} {f : Nat → Int32} (ho : ab_op M pc = some (.iastore, n, x, y, cv, nm)) (ha : h.1 a = some (.inl (0, z, .inl f))) (hi : vp_in i z) (k : ab_C G d kc ks M n L st (ab_u h a (.inl (0, z, .inl (upd f i.toNatClampNeg w)))) Q) : ab_C G d kc ks M pc L (.int w :: .int i :: .ref a :: st) h Q := by
  intro ok p e R s m args below meth c Z F hend H locs cells slots ls hw hS hc hs hl
  have h1 := ok _ _ ho
  have hn : pc + 1 = n := h1.2.1
  have hd := ab_dc 1 h1 hn
  subst hn
  have hat := hw.2 _ _ ha
  have hat : H[G.2.1 + a]? = some (vp_cell (G.2.2.2.1 0) (z, .inl f)) := hat
  refine W.iast F.1 F.2.1 hat ((F.2.2.2.2.2.2.2.2.1.1.2 0 _ rfl).1 z (fun j => .int (f j))) (fun q => by cases q) (by show ¬ (i < 0 ∨ (arrV _ _ _).slots.size ≤ _); rw [arrV_size]; exact hi) rfl rfl hd fun H1 e1 z1 o1 => ?_
  exact k ok p e R s m args below meth c Z F hend H1 _ cells slots ls (ab_wr (e1 := .inl (0, z, .inl (upd f i.toNatClampNeg w))) hw (e1.trans (congrArg some (ab_ss_i _ _ _ _ _))) z1 o1) (hS.put z1 o1 ab_hA) hc hs hl
theorem r_bast {a z : Nat} {i : Int32} {w : Int32} {f : Nat → Int32} (ho : ab_op M pc = some (.bastore, n, x, y, cv, nm)) (ha : h.1 a = some (.inl (2, z, .inl f))) (hi : vp_in i z) (k : ab_C G d kc ks M n L st (ab_u h a (.inl (2, z, .inl (upd f i.toNatClampNeg (vp_nar .byte w))))) Q) : ab_C G d kc ks M pc L (.int w :: .int i :: .ref a :: st) h Q := by
  intro ok p e R s m args below meth c Z F hend H locs cells slots ls hw hS hc hs hl
  have h1 := ok _ _ ho
  have hn : pc + 1 = n := h1.2.1
  have hd := ab_dc 1 h1 hn
  subst hn
  have hat := hw.2 _ _ ha
  have hat : H[G.2.1 + a]? = some (vp_cell (G.2.2.2.1 2) (z, .inl f)) := hat
  refine W.bast F.1 F.2.1 hat ((F.2.2.2.2.2.2.2.2.1.1.2 2 _ rfl).1 z (fun j => .int (f j))) (fun q => by cases q) (by show ¬ (i < 0 ∨ (arrV _ _ _).slots.size ≤ _); rw [arrV_size]; exact hi) rfl rfl hd fun H1 e1 z1 o1 => ?_
  exact k ok p e R s m args below meth c Z F hend H1 _ cells slots ls (ab_wr (e1 := .inl (2, z, .inl (upd f i.toNatClampNeg (vp_nar .byte w)))) hw (e1.trans (congrArg some (ab_ss_i _ _ _ _ (vp_nar .byte w)))) z1 o1) (hS.put z1 o1 ab_hA) hc hs hl
theorem r_zast {a z : Nat} {i : Int32} {w : Int32} {f : Nat → Int32} (ho : ab_op M pc = some (.bastore, n, x, y, cv, nm)) (ha : h.1 a = some (.inl (3, z, .inl f))) (hi : vp_in i z) (k : ab_C G d kc ks M n L st (ab_u h a (.inl (3, z, .inl (upd f i.toNatClampNeg (vp_nar .boolean w))))) Q) : ab_C G d kc ks M pc L (.int w :: .int i :: .ref a :: st) h Q := by
  intro ok p e R s m args below meth c Z F hend H locs cells slots ls hw hS hc hs hl
  have h1 := ok _ _ ho
  have hn : pc + 1 = n := h1.2.1
  have hd := ab_dc 1 h1 hn
  subst hn
  have hat := hw.2 _ _ ha
  have hat : H[G.2.1 + a]? = some (vp_cell (G.2.2.2.1 3) (z, .inl f)) := hat
  refine W.zast F.1 F.2.1 hat ((F.2.2.2.2.2.2.2.2.1.1.2 3 _ rfl).1 z (fun j => .int (f j))) (fun q => by cases q) (by show ¬ (i < 0 ∨ (arrV _ _ _).slots.size ≤ _); rw [arrV_size]; exact hi) rfl rfl hd fun H1 e1 z1 o1 => ?_
  exact k ok p e R s m args below meth c Z F hend H1 _ cells slots ls (ab_wr (e1 := .inl (3, z, .inl (upd f i.toNatClampNeg (vp_nar .boolean w)))) hw (e1.trans (congrArg some (ab_ss_i _ _ _ _ (vp_nar .boolean w)))) z1 o1) (hS.put z1 o1 ab_hA) hc hs hl
theorem r_last {a z : Nat} {i : Int32} {w : Int64} {f : Nat → Int64} (ho : ab_op M pc = some (.lastore, n, x, y, cv, nm)) (ha : h.1 a = some (.inl (1, z, .inr (.inl f)))) (hi : vp_in i z) (k : ab_C G d kc ks M n L st (ab_u h a (.inl (1, z, .inr (.inl (vp_updL f i.toNatClampNeg w))))) Q) : ab_C G d kc ks M pc L (.long w :: .int i :: .ref a :: st) h Q := by
  intro ok p e R s m args below meth c Z F hend H locs cells slots ls hw hS hc hs hl
  have h1 := ok _ _ ho
  have hn : pc + 1 = n := h1.2.1
  have hd := ab_dc 1 h1 hn
  subst hn
  have hat := hw.2 _ _ ha
  have hat : H[G.2.1 + a]? = some (vp_cell (G.2.2.2.1 1) (z, .inr (.inl f))) := hat
  refine W.last F.1 F.2.1 hat ((F.2.2.2.2.2.2.2.2.1.1.2 1 _ rfl).1 z (fun j => .long (f j))) (fun q => by cases q) (by show ¬ (i < 0 ∨ (arrV _ _ _).slots.size ≤ _); rw [arrV_size]; exact hi) rfl rfl hd fun H1 e1 z1 o1 => ?_
  exact k ok p e R s m args below meth c Z F hend H1 _ cells slots ls (ab_wr (e1 := .inl (1, z, .inr (.inl (vp_updL f i.toNatClampNeg w)))) hw (e1.trans (congrArg some (ab_ss_l _ _ _ _ _))) z1 o1) (hS.put z1 o1 ab_hA) hc hs hl
theorem r_aast {a z w : Nat} {i : Int32} {fs : List Value} {f : Nat → Option Nat} (ho : ab_op M pc = some (.aastore, n, x, y, cv, nm)) (ha : h.1 a = some (.inl (4, z, .inr (.inr (.inr (.inr f)))))) (hb : h.1 w = some (.inr (10, fs))) (hi : vp_in i z) (k : ab_C G d kc ks M n L st (ab_u h a (.inl (4, z, .inr (.inr (.inr (.inr (va_up f i.toNatClampNeg (some w)))))))) Q) : ab_C G d kc ks M pc L (.ref w :: .int i :: .ref a :: st) h Q := by
  intro ok p e R s m args below meth c Z F hend H locs cells slots ls hw hS hc hs hl
  have h1 := ok _ _ ho
  have hn : pc + 1 = n := h1.2.1
  have hd := ab_dc 1 h1 hn
  subst hn
  have hat := hw.2 _ _ ha
  have hat : H[G.2.1 + a]? = some (vp_cell (G.2.2.2.1 4) (z, .inr (.inr (.inr (.inr fun j => (f j).map (G.2.1 + ·)))))) := hat
  have hlt : i.toNatClampNeg < z := Nat.not_le.mp fun q => hi (Or.inr q)
  have h0 : ¬ i < 0 := fun q => hi (Or.inl q)
  obtain ⟨r', hr', cellV, g1, g2, g3, -⟩ := hw.2 _ _ hb
  have hcls := (F.2.2.2.2.2.2.2.2.1.1.1 10 (RX10, TX10, 8) rfl).2
  obtain ⟨kA, comp, k1, k2, k3, -⟩ := (F.2.2.2.2.2.2.2.2.1.1.2 4 _ rfl).2
  have hcomp : comp = G.2.2.1.1 10 := Option.some.inj (k3.symm.trans hcls.1)
  subst hcomp
  obtain ⟨kC, hkC, -⟩ := hcls.2
  refine W.aast F.1 F.2.1 hat (fun q h => by cases h) (fun h => by cases h) k1 k2 rfl hkC ⟨h0, by show _ < (arrV _ _ _).slots.size; rw [arrV_size]; exact hlt⟩ g1 (fun q h => by rw [g3] at h; cases h) (by rw [g2]; exact hkC) (by rw [g2]; exact va_assign hcls) rfl rfl hd fun H1 e1 z1 o1 => ?_
  exact k ok p e R s m args below meth c Z F hend H1 _ cells slots ls (ab_wr (e1 := .inl (4, z, .inr (.inr (.inr (.inr (va_up f i.toNatClampNeg (some w))))))) hw (e1.trans (congrArg some (ab_ss_q G _ _ _ _ _))) z1 o1) (hS.put z1 o1 ab_hA) hc hs hl
theorem r_xload_n {z : Fin 4} {t : Nat} (ht : t < 3) (ho : ab_op M pc = some (.aload_n z, n, x, y, cv, nm)) (hv : L[(z : Nat)]? = some (some (.retAddr t))) (k : ab_C G d kc ks M n L (.retAddr t :: st) h Q) : ab_C G d kc ks M pc L st h Q := by
  intro ok p e R s m args below meth c Z F hend H locs cells slots ls hw hS hc hs hl
  have h1 := ok _ _ ho
  have hn : pc + 1 = n := h1.2.1
  have hd := ab_dc 1 h1 hn
  subst hn
  have h2 := hl.2.2 _ _ (ab_lm_get hv)
  match t, ht with
  | 0, _ => exact lv_aload_n F.1 F.2.1 hd rfl h2 (k ok p e R s m args below meth c Z F hend H locs cells slots ls hw hS hc hs hl)
  | 1, _ => exact lv_aload_n F.1 F.2.1 hd rfl h2 (k ok p e R s m args below meth c Z F hend H locs cells slots ls hw hS hc hs hl)
  | 2, _ => exact lv_aload_n F.1 F.2.1 hd rfl h2 (k ok p e R s m args below meth c Z F hend H locs cells slots ls hw hS hc hs hl)
theorem r_sld {i : Int32} (ho : ab_op M pc = some (.iaload, n, x, y, cv, nm)) (hi : vp_in i G.2.2.2.2.2.1) (k : ab_C G d kc ks M n L (.int (G.2.2.2.2.2.2.1 i.toNatClampNeg) :: st) h Q) : ab_C G d kc ks M pc L (.int i :: .retAddr 0 :: st) h Q := by
  intro ok p e R s m args below meth c Z F hend H locs cells slots ls hw hS hc hs hl
  have h1 := ok _ _ ho
  have hn : pc + 1 = n := h1.2.1
  have hd := ab_dc 1 h1 hn
  subst hn
  exact va_sld F.1 F.2.1 F.2.2.2.2.2.2.2.2.1.2.2.2.1 (Nat.lt_of_lt_of_le F.2.2.2.2.2.2.2.2.1.2.2.2.2.1 F.2.2.2.2.2.2.2.2.2.1) (Nat.not_le.mpr F.2.2.2.2.2.2.2.2.1.2.2.2.2.1) hS hi hd (k ok p e R s m args below meth c Z F hend H locs cells slots ls hw hS hc hs hl)
theorem r_slen (ho : ab_op M pc = some (.arraylength, n, x, y, cv, nm)) (k : ab_C G d kc ks M n L (.int (Int32.ofNat G.2.2.2.2.2.1) :: st) h Q) : ab_C G d kc ks M pc L (.retAddr 0 :: st) h Q := by
  intro ok p e R s m args below meth c Z F hend H locs cells slots ls hw hS hc hs hl
  have h1 := ok _ _ ho
  have hn : pc + 1 = n := h1.2.1
  have hd := ab_dc 1 h1 hn
  subst hn
  exact va_slen F.1 F.2.1 F.2.2.2.2.2.2.2.2.1.2.2.2.1 (Nat.lt_of_lt_of_le F.2.2.2.2.2.2.2.2.1.2.2.2.2.1 F.2.2.2.2.2.2.2.2.2.1) (Nat.not_le.mpr F.2.2.2.2.2.2.2.2.1.2.2.2.2.1) hS hd (k ok p e R s m args below meth c Z F hend H locs cells slots ls hw hS hc hs hl)
end ab_rules
