abbrev ab_nn : MethodName := ⟨"", "", ""⟩
abbrev nn : Option ab_O := none
abbrev oo (i : Instr) (n : Nat) : Option ab_O := some (i, n, 0, 0, .null, ab_nn)
abbrev oj (i : Instr) (n t : Nat) : Option ab_O := some (i, n, t, 0, .null, ab_nn)
abbrev of (i : Instr) (n c k : Nat) : Option ab_O := some (i, n, c, k, .null, ab_nn)
abbrev oc (i : Instr) (n : Nat) (v : Value) : Option ab_O := some (i, n, 0, 0, v, ab_nn)
abbrev om (i : Instr) (n x : Nat) (m : MethodName) : Option ab_O := some (i, n, x, 0, .null, m)
def ab_stepB (pc : Nat) (o : ab_O) : Bool := match o.1 with
  | .tableswitch _ _ _ _ | .lookupswitch _ _ => true
  | i => pc + ab_len i == o.2.1
def ab_jmpB (pc : Nat) (o : ab_O) : Bool := match o.1 with
  | .goto off | .ifCond _ off | .if_icmp _ off | .ifnonnull off | .ifnull off => (pc : Int) + off == (o.2.2.1 : Int)
  | _ => true
def ab_fldB (o : ab_O) : Bool := match o.1 with
  | .getfield _ | .putfield _ => (match vwCl[o.2.2.1]? with
    | some r => decide (o.2.2.2.1 < r.2.2)
    | none => false)
  | _ => true
def ab_chkO (M : ab_M) (pc : Nat) (o : ab_O) (pl : List Nat) : Bool :=
  decide (decode M.2.1 pc = .ok (o.1, o.2.1 - pc)) && (ab_stepB pc o && (ab_jmpB pc o && (ab_fldB o && (decide (pl.map (fun i => lw_tbl[i]?) = (ab_need M.1.cls o ++ ab_needN M.1.cls o).map some) && ((ab_need M.1.cls o).all goodWord && (ab_needN M.1.cls o).all ab_isNest)))))
theorem ab_chkO_ok {M : ab_M} {pc : Nat} {o : ab_O} {pl : List Nat} (h : ab_chkO M pc o pl = true) : ab_okO M pc o := by
  unfold ab_chkO at h
  simp only [Bool.and_eq_true, decide_eq_true_eq] at h
  obtain ⟨h1, h2, h3, h4, h5, h6, h7⟩ := h
  have hm : ∀ w ∈ ab_need M.1.cls o ++ ab_needN M.1.cls o, w ∈ lw_tbl := by
    intro w hw
    have : some w ∈ (ab_need M.1.cls o ++ ab_needN M.1.cls o).map some := List.mem_map.mpr ⟨w, hw, rfl⟩
    rw [← h5] at this
    obtain ⟨i, -, hi⟩ := List.mem_map.mp this
    exact List.mem_of_getElem? hi
  refine ⟨h1, ?_, ?_, ?_, fun w hw => List.mem_filter.mpr ⟨hm w (List.mem_append_left _ hw), List.all_eq_true.mp h6 w hw⟩, fun w hw => List.mem_filter.mpr ⟨hm w (List.mem_append_right _ hw), List.all_eq_true.mp h7 w hw⟩⟩
  · unfold ab_stepB at h2
    unfold ab_step
    split at h2
    · next e => rw [e]; trivial
    · next e => rw [e]; trivial
    · next i e1 e2 =>
      split
      · next e => exact absurd e (by intro q; exact e1 _ _ _ _ q)
      · next e => exact absurd e (by intro q; exact e2 _ _ q)
      · simpa using h2
  · unfold ab_jmpB at h3
    unfold ab_jmp
    split at h3 <;> first | (next e => rw [e]; simpa using h3) | (split <;> first | trivial | (exfalso; simp_all))
  · unfold ab_fldB at h4
    unfold ab_fld
    split at h4
    · next e =>
      rw [e]
      split at h4
      · next r hr => exact ⟨r, hr, by simpa using h4⟩
      · cases h4
    · next e =>
      rw [e]
      split at h4
      · next r hr => exact ⟨r, hr, by simpa using h4⟩
      · cases h4
    · next e1 e2 =>
      split
      · next q => exact absurd q (e1 _)
      · next q => exact absurd q (e2 _)
      · trivial
def ab_pl (P : List (List (List Nat))) (pc : Nat) : List Nat := match P[pc / 16]? with
  | some r => (match r[pc % 16]? with
    | some l => l
    | none => [])
  | none => []
def ab_chk1 (M : ab_M) (P : List (List (List Nat))) (pc : Nat) : Bool := match ab_op M pc with
  | none => true
  | some o => ab_chkO M pc o (ab_pl P pc)
def ab_chkR (M : ab_M) (P : List (List (List Nat))) (lo len : Nat) : Bool := (List.range' lo len).all (ab_chk1 M P)
theorem ab_chkR_of {M : ab_M} {P : List (List (List Nat))} {lo len : Nat} (h : ab_chkR M P lo len = true) : ∀ pc, lo ≤ pc → pc < lo + len → ab_chk1 M P pc = true := fun pc h1 h2 => List.all_eq_true.mp h pc (List.mem_range'_1.mpr ⟨h1, h2⟩)
theorem ab_okT_of {M : ab_M} {P : List (List (List Nat))} (n : Nat) (hn : 16 * M.2.2.2.2.2.2.length ≤ n) (h : ∀ pc, pc < n → ab_chk1 M P pc = true) : ab_okT M := by
  intro pc o ho
  have hlt : pc < 16 * M.2.2.2.2.2.2.length := by
    unfold ab_op at ho
    split at ho
    · next r hr =>
      have := (List.getElem?_eq_some_iff.mp hr).1
      omega
    · cases ho
  have h1 := h pc (by omega)
  unfold ab_chk1 at h1
  rw [ho] at h1
  exact ab_chkO_ok h1
def ab_okYB (M : ab_M) (i j : Nat) : Bool := decide (plainName M.1.cls = true) && (decide (lw_tbl[i]? = some (Cond.code M.1 M.2.1 M.2.2.1 M.2.2.2.1)) && (decide (lw_tbl[j]? = some (Cond.initialized M.1.cls)) && (decide (M.1.cls ≠ "java/lang/invoke/MethodHandle" ∧ M.1.cls ≠ "java/lang/invoke/VarHandle" ∧ (parseMethodDescriptor M.1.desc).map (fun d => d.parameters.length) = some M.2.2.2.2.2.1) && (decide (M.2.2.1 ≤ 30) && decide (M.2.2.2.2.1 = 99 ∨ (vwCl[M.2.2.2.2.1]?).map (fun r => r.1) = some M.1.cls)))))
theorem ab_okY_of {M : ab_M} (i j : Nat) (h : ab_okYB M i j = true) : ab_okY M := by
  unfold ab_okYB at h
  simp only [Bool.and_eq_true, decide_eq_true_eq] at h
  obtain ⟨h1, h2, h3, h4, h5, h6⟩ := h
  exact ⟨h1, List.mem_filter.mpr ⟨List.mem_of_getElem? h2, rfl⟩, List.mem_filter.mpr ⟨List.mem_of_getElem? h3, rfl⟩, h4, h5, h6⟩
section ab_prims
variable {G : ab_G} {d kc ks : Nat} {M : ab_M} {pc n x y : Nat} {cv : Value} {nm : MethodName} {L : List (Option Value)} {st : List Value} {h : ab_H} {Q : Option Value → ab_H → Prop}
theorem ab_objc : Cond.code Lib.objectInit ⟨#[0xb1]⟩ 1 none ∈ ab_tbl := ab_mem 133 (by decide +kernel) rfl
theorem ab_copn : Cond.native arraycopyName ∈ ab_tbl := ab_mem 519 (by decide +kernel) rfl
theorem ab_copi : Cond.initialized "java/lang/System" ∈ ab_tbl := ab_mem 122 (by decide +kernel) rfl
theorem r_objinit {i a : Nat} (ho : ab_op M pc = some (.invokespecial i, n, 0, y, cv, Lib.objectInit)) (hrs : (st.map fun v => v.category).sum ≤ 8) (k : ab_C G d kc ks M n L st h Q) : ab_C G d kc ks M pc L (.ref a :: st) h Q := by
  intro ok p e R s m args below meth c Z F hend H locs cells slots ls hw hS hc hs hl
  have h1 := ok _ _ ho
  have hn' : pc + 3 = n := h1.2.1
  have hd := ab_dc 3 h1 hn'
  subst hn'
  have F0' := F
  obtain ⟨f1, f2, f3, f4, f5, f6, f7, f8, f9, f10, f11, f12⟩ := F
  have hlk := h1.2.2.2.2.1
  have hro := lv_room (m := m) (pc := pc) (ls := ls) (rest := .ref (G.2.1 + a) :: st.map (ab_v G)) (st := st.map (ab_v G)) (by rw [ab_sum]; exact hrs)
  exact W.objInit f1 f2 f4 (f8 _ (hlk _ List.mem_cons_self)) (f8 _ (hlk _ (List.mem_cons_of_mem _ List.mem_cons_self))) (f8 _ ab_objc) (g := F0 m pc ls (.ref (G.2.1 + a) :: st.map (ab_v G))) rfl (hl.1.trans f3.symm) rfl hd (by omega) (by omega) (k ok p e R s m args below meth c Z F0' hend H locs cells slots ls hw hS hc hs hl)
theorem r_copy {i a0 a z0 z1 : Nat} {f g : Nat → Int32} {sp dp w : Int32} (ho : ab_op M pc = some (.invokestatic i, n, 0, y, cv, arraycopyName)) (h0 : h.1 a0 = some (.inl (0, z0, .inl f))) (h1 : h.1 a = some (.inl (0, z1, .inl g))) (g1 : ¬ sp < 0) (g2 : ¬ dp < 0) (g3 : ¬ w < 0) (g4 : sp.toNatClampNeg + w.toNatClampNeg ≤ z0) (g5 : dp.toNatClampNeg + w.toNatClampNeg ≤ z1) (hrs : (st.map fun v => v.category).sum ≤ 8)
    (k : ab_C G d kc ks M n L st (ab_u h a (.inl (0, z1, .inl (va_cpy f g sp.toNatClampNeg dp.toNatClampNeg w.toNatClampNeg)))) Q) : ab_C G d kc ks M pc L (.int w :: .int dp :: .ref a :: .int sp :: .ref a0 :: st) h Q := by
  intro ok p e R s m args below meth c Z F hend H locs cells slots ls hw hS hc hs hl
  have h9 := ok _ _ ho
  have hn' : pc + 3 = n := h9.2.1
  have hd := ab_dc 3 h9 hn'
  subst hn'
  have F0' := F
  obtain ⟨f1, f2, f3, f4, f5, f6, f7, f8, f9, f10, f11, f12⟩ := F
  have hlk := h9.2.2.2.2.1
  have nn : ∀ z : Int32, ¬ z < 0 → z.toInt = (z.toNatClampNeg : Int) := by
    intro z hz
    have hz0 : (0 : Int) ≤ z.toInt := by
      have := Int32.not_lt.mp hz
      simpa using Int32.le_iff_toInt_le.mp this
    show z.toInt = ((z.toInt.toNat : Nat) : Int)
    omega
  have e7 : nativeFrameWords "java/lang/System" "arraycopy" 5 = 7 := by decide +kernel
  have hsum : ((st.map (ab_v G)).map fun v => v.category).sum ≤ 8 := by rw [ab_sum]; exact hrs
  intro T hT X
  have hc0 : H[G.2.1 + a0]? = some (vp_cell (G.2.2.2.1 0) (z0, .inl f)) := hw.2 _ _ h0
  have hc1 : H[G.2.1 + a]? = some (vp_cell (G.2.2.2.1 0) (z1, .inl g)) := hw.2 _ _ h1
  obtain ⟨-, k0, hk0, cm0, hkk0⟩ := (f9.1.2 0 _ rfl).1 z0 (fun j => .int (f j))
  obtain ⟨-, k1, hk1, cm1, hkk1⟩ := (f9.1.2 0 _ rfl).1 z1 (fun j => .int (g j))
  obtain ⟨vm', X', step⟩ := X.arraycopy f1 f4 (f8 _ (hlk _ List.mem_cons_self)) (f8 _ ab_copn) (f8 _ (hlk _ (List.mem_cons_of_mem _ List.mem_cons_self))) (f8 _ ab_copi) (src := G.2.1 + a0) (dst := G.2.1 + a) (cs := vp_cell (G.2.2.2.1 0) (z0, .inl f)) (cd := vp_cell (G.2.2.2.1 0) (z1, .inl g)) (srcPos := sp) (destPos := dp) (n := w) (by rw [hT]; exact hc0) (by rw [hT]; exact hc1)
    (fun _ h => by cases h) (fun _ h => by cases h) (fun h => by cases h) (fun h => by cases h) hk0 hk1 hkk0 hkk1 (by simp [refKind]) g1 g2 g3
    (by rw [nn sp g1, nn w g3]; show ¬ _ > ((arrV (G.2.2.2.1 0) z0 (fun j => .int (f j))).slots.size : Int); rw [arrV_size]; omega)
    (by rw [nn dp g2, nn w g3]; show ¬ _ > ((arrV (G.2.2.2.1 0) z1 (fun j => .int (g j))).slots.size : Int); rw [arrV_size]; omega)
    (fun vm₁ _ i hi => by
      have e : (vp_cell (G.2.2.2.1 0) (z0, .inl f)).slots.getD (sp.toNatClampNeg + i) .null = .int (f (sp.toNatClampNeg + i)) := by
        show (arrV (G.2.2.2.1 0) z0 (fun j => .int (f j))).slots.getD _ _ = _
        rw [Array.getD_eq_getD_getElem?, arrV_read _ _ (by omega)]
        rfl
      refine ⟨?_, ?_⟩
      · rw [e]
        rfl
      · rw [e]
        exact trivial)
    (g := F0 m pc ls (.int w :: .int dp :: .ref (G.2.1 + a) :: .int sp :: .ref (G.2.1 + a0) :: st.map (ab_v G))) rfl (by rw [f3]; exact hl.1) (rest := st.map (ab_v G)) rfl (by rw [f2]; exact hd) (by omega) (by show 2 * 0 + _ + _ ≤ _; rw [e7]; omega)
  have e1 : copied (vp_cell (G.2.2.2.1 0) (z0, .inl f)) (vp_cell (G.2.2.2.1 0) (z1, .inl g)) sp dp w = vp_cell (G.2.2.2.1 0) (z1, .inl (va_cpy f g sp.toNatClampNeg dp.toNatClampNeg w.toNatClampNeg)) := va_copied (fun z => .int z) (G.2.2.2.1 0) (G.2.2.2.1 0) f g g4
  rw [e1] at X' step
  have hlt : G.2.1 + a < H.size := (Array.getElem?_eq_some_iff.mp hc1).1
  generalize hH1 : H.setIfInBounds (G.2.1 + a) (vp_cell (G.2.2.2.1 0) (z1, .inl (va_cpy f g sp.toNatClampNeg dp.toNatClampNeg w.toNatClampNeg))) = H1
  have hheap : ((T.setVm vm').setCell (G.2.1 + a) (vp_cell (G.2.2.2.1 0) (z1, .inl (va_cpy f g sp.toNatClampNeg dp.toNatClampNeg w.toNatClampNeg)))).heap = H1 := by rw [← hH1, ← hT]; rfl
  have oq : ∀ q : Nat, q ≠ G.2.1 + a → H1[q]? = H[q]? := fun q hq => by rw [← hH1]; simp [Array.getElem?_setIfInBounds, Ne.symm hq]
  have zq : H1.size = H.size := by rw [← hH1]; simp
  have eq1 : H1[G.2.1 + a]? = some (vp_cell (G.2.2.2.1 0) (z1, .inl (va_cpy f g sp.toNatClampNeg dp.toNatClampNeg w.toNatClampNeg))) := by rw [← hH1]; simp [Array.getElem?_setIfInBounds, hlt]
  obtain ⟨t, a1, b1⟩ := k ok p e R s m args below meth c Z F0' hend H1 _ cells slots ls (ab_wr (e1 := .inl (0, z1, .inl (va_cpy f g sp.toNatClampNeg dp.toNatClampNeg w.toNatClampNeg))) hw eq1 zq oq) ⟨by rw [zq]; exact hS.1, fun q q1 q2 => by
      rw [oq q (fun e => q2 (by rw [e]; exact ab_hA))]
      exact hS.2.1 q q1 q2, fun q hq => by
      rcases List.mem_append.mp hq with h | h
      · exact hS.2.2 q h
      · obtain ⟨z, -, hz⟩ := List.mem_map.mp h
        rw [← hz]
        exact ab_hA⟩ hc hs hl _ hheap X'
  exact ⟨t, step t a1, b1⟩
theorem ab_mini : Cond.initialized "java/lang/Math" ∈ ab_tbl := ab_mem 121 (by decide +kernel) rfl
theorem ab_mmaxc : Cond.code Lib.Math.max.name Lib.Math.max.code 2 (some .int) ∈ ab_tbl := ab_mem 783 (by decide +kernel) rfl
theorem ab_mminc : Cond.code Lib.Math.min.name Lib.Math.min.code 2 (some .int) ∈ ab_tbl := ab_mem 516 (by decide +kernel) rfl
theorem ab_mabsc : Cond.code Lib.Math.abs.name Lib.Math.abs.code 1 (some .int) ∈ ab_tbl := ab_mem 900 (by decide +kernel) rfl
theorem r_mmax {i : Nat} {a b : Int32} (ho : ab_op M pc = some (.invokestatic i, n, 0, y, cv, yJ9_max_7cf53)) (hrs : (st.map fun v => v.category).sum ≤ 8) (k : ab_C G d kc ks M n L (.int (if a < b then b else a) :: st) h Q) : ab_C G d kc ks M pc L (.int b :: .int a :: st) h Q := by
  intro ok p e R s m args below meth c Z F hend H locs cells slots ls hw hS hc hs hl
  have h1 := ok _ _ ho
  have hn' : pc + 3 = n := h1.2.1
  have hd := ab_dc 3 h1 hn'
  subst hn'
  have F0' := F
  obtain ⟨f1, f2, f3, f4, f5, f6, f7, f8, f9, f10, f11, f12⟩ := F
  have hlk := h1.2.2.2.2.1
  exact va_mmax f1 f2 (f3.trans hl.1.symm) f4 (f8 _ (hlk _ List.mem_cons_self)) (f8 _ (hlk _ (List.mem_cons_of_mem _ List.mem_cons_self))) (f8 _ ab_mini) (f8 _ ab_mmaxc) (by omega) (by rw [ab_sum]; omega) (by omega) (by omega) hd (k ok p e R s m args below meth c Z F0' hend H locs cells slots ls hw hS hc hs hl)
theorem r_mmin {i : Nat} {a b : Int32} (ho : ab_op M pc = some (.invokestatic i, n, 0, y, cv, yJ9_min_7cf53)) (hrs : (st.map fun v => v.category).sum ≤ 8) (k : ab_C G d kc ks M n L (.int (if b < a then b else a) :: st) h Q) : ab_C G d kc ks M pc L (.int b :: .int a :: st) h Q := by
  intro ok p e R s m args below meth c Z F hend H locs cells slots ls hw hS hc hs hl
  have h1 := ok _ _ ho
  have hn' : pc + 3 = n := h1.2.1
  have hd := ab_dc 3 h1 hn'
  subst hn'
  have F0' := F
  obtain ⟨f1, f2, f3, f4, f5, f6, f7, f8, f9, f10, f11, f12⟩ := F
  have hlk := h1.2.2.2.2.1
  exact va_mmin f1 f2 (f3.trans hl.1.symm) f4 (f8 _ (hlk _ List.mem_cons_self)) (f8 _ (hlk _ (List.mem_cons_of_mem _ List.mem_cons_self))) (f8 _ ab_mini) (f8 _ ab_mminc) (by omega) (by rw [ab_sum]; omega) (by omega) (by omega) hd (k ok p e R s m args below meth c Z F0' hend H locs cells slots ls hw hS hc hs hl)
theorem r_mabs {i : Nat} {a : Int32} (ho : ab_op M pc = some (.invokestatic i, n, 0, y, cv, yJ9_abs_0f7a4)) (hrs : (st.map fun v => v.category).sum ≤ 8) (k : ab_C G d kc ks M n L (.int (if 0 ≤ a then a else 0 - a) :: st) h Q) : ab_C G d kc ks M pc L (.int a :: st) h Q := by
  intro ok p e R s m args below meth c Z F hend H locs cells slots ls hw hS hc hs hl
  have h1 := ok _ _ ho
  have hn' : pc + 3 = n := h1.2.1
  have hd := ab_dc 3 h1 hn'
  subst hn'
  have F0' := F
  obtain ⟨f1, f2, f3, f4, f5, f6, f7, f8, f9, f10, f11, f12⟩ := F
  have hlk := h1.2.2.2.2.1
  exact va_mabs f1 f2 (f3.trans hl.1.symm) f4 (f8 _ (hlk _ List.mem_cons_self)) (f8 _ (hlk _ (List.mem_cons_of_mem _ List.mem_cons_self))) (f8 _ ab_mini) (f8 _ ab_mabsc) (by omega) (by rw [ab_sum]; omega) (by omega) (by omega) hd (k ok p e R s m args below meth c Z F0' hend H locs cells slots ls hw hS hc hs hl)
end ab_prims
