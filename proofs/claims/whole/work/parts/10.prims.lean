section ab_prims
variable {G : ab_G} {d kc ks : Nat} {M : ab_M} {pc n x y : Nat} {cv : Value} {nm : MethodName} {L : List (Option Value)} {st : List Value} {h : ab_H} {Q : Option Value → ab_H → Prop}
theorem ab_objc : Cond.code Lib.objectInit ⟨#[0xb1]⟩ 1 none ∈ ab_tbl := ab_mem 133 (by decide +kernel) rfl
theorem ab_copn : Cond.native arraycopyName ∈ ab_tbl := ab_mem 519 (by decide +kernel) rfl
theorem ab_copi : Cond.initialized "java/lang/System" ∈ ab_tbl := ab_mem 122 (by decide +kernel) rfl
theorem r_objinit {i a : Nat} (ho : ab_op M pc = some (.invokespecial i, n, 0, y, cv, Lib.objectInit)) (hrs : (st.map fun v => v.category).sum ≤ 8) (k : ab_C G d kc ks M n L st h Q) : ab_C G d kc ks M pc L (.ref a :: st) h Q := by
  intro ok p e R s m args below meth c Z F hend H locs cells slots ls hw hS hc hs hl
  have h1 := ok _ _ ho
  have hn' : pc + 3 = n := h1.2.1
  have hd := ab_dc 3 h1 hn'
  subst hn'
  have F0' := F
  obtain ⟨f1, f2, f3, f4, f5, f6, f7, f8, f9, f10, f11, f12⟩ := F
  have hlk := h1.2.2.2.2.1
  have hro := lv_room (m := m) (pc := pc) (ls := ls) (rest := .ref (G.2.1 + a) :: st.map (ab_v G)) (st := st.map (ab_v G)) (by rw [ab_sum]; exact hrs)
  exact W.objInit f1 f2 f4 (f8 _ (hlk _ List.mem_cons_self)) (f8 _ (hlk _ (List.mem_cons_of_mem _ List.mem_cons_self))) (f8 _ ab_objc) (g := F0 m pc ls (.ref (G.2.1 + a) :: st.map (ab_v G))) rfl (hl.1.trans f3.symm) rfl hd (by omega) (by omega) (k ok p e R s m args below meth c Z F0' hend H locs cells slots ls hw hS hc hs hl)
theorem r_copy {i a0 a z0 z1 : Nat} {f g : Nat → Int32} {sp dp w : Int32} (ho : ab_op M pc = some (.invokestatic i, n, 0, y, cv, arraycopyName)) (h0 : h.1 a0 = some (.inl (0, z0, .inl f))) (h1 : h.1 a = some (.inl (0, z1, .inl g))) (g1 : ¬ sp < 0) (g2 : ¬ dp < 0) (g3 : ¬ w < 0) (g4 : sp.toNatClampNeg + w.toNatClampNeg ≤ z0) (g5 : dp.toNatClampNeg + w.toNatClampNeg ≤ z1) (hrs : (st.map fun v => v.category).sum ≤ 8)
    (k : ab_C G d kc ks M n L st (ab_u h a (.inl (0, z1, .inl (va_cpy f g sp.toNatClampNeg dp.toNatClampNeg w.toNatClampNeg)))) Q) : ab_C G d kc ks M pc L (.int w :: .int dp :: .ref a :: .int sp :: .ref a0 :: st) h Q := by
  intro ok p e R s m args below meth c Z F hend H locs cells slots ls hw hS hc hs hl
  have h9 := ok _ _ ho
  have hn' : pc + 3 = n := h9.2.1
  have hd := ab_dc 3 h9 hn'
  subst hn'
  have F0' := F
  obtain ⟨f1, f2, f3, f4, f5, f6, f7, f8, f9, f10, f11, f12⟩ := F
  have hlk := h9.2.2.2.2.1
  have nn : ∀ z : Int32, ¬ z < 0 → z.toInt = (z.toNatClampNeg : Int) := by
    intro z hz
    have hz0 : (0 : Int) ≤ z.toInt := by
      have := Int32.not_lt.mp hz
      simpa using Int32.le_iff_toInt_le.mp this
    show z.toInt = ((z.toInt.toNat : Nat) : Int)
    omega
  have e7 : nativeFrameWords "java/lang/System" "arraycopy" 5 = 7 := by decide +kernel
  have hsum : ((st.map (ab_v G)).map fun v => v.category).sum ≤ 8 := by rw [ab_sum]; exact hrs
  intro T hT X
  have hc0 : H[G.2.1 + a0]? = some (vp_cell (G.2.2.2.1 0) (z0, .inl f)) := hw.2 _ _ h0
  have hc1 : H[G.2.1 + a]? = some (vp_cell (G.2.2.2.1 0) (z1, .inl g)) := hw.2 _ _ h1
  obtain ⟨-, k0, hk0, cm0, hkk0⟩ := (f9.1.2 0 _ rfl).1 z0 (fun j => .int (f j))
  obtain ⟨-, k1, hk1, cm1, hkk1⟩ := (f9.1.2 0 _ rfl).1 z1 (fun j => .int (g j))
  obtain ⟨vm', X', step⟩ := X.arraycopy f1 f4 (f8 _ (hlk _ List.mem_cons_self)) (f8 _ ab_copn) (f8 _ (hlk _ (List.mem_cons_of_mem _ List.mem_cons_self))) (f8 _ ab_copi) (src := G.2.1 + a0) (dst := G.2.1 + a) (cs := vp_cell (G.2.2.2.1 0) (z0, .inl f)) (cd := vp_cell (G.2.2.2.1 0) (z1, .inl g)) (srcPos := sp) (destPos := dp) (n := w) (by rw [hT]; exact hc0) (by rw [hT]; exact hc1)
    (fun _ h => by cases h) (fun _ h => by cases h) (fun h => by cases h) (fun h => by cases h) hk0 hk1 hkk0 hkk1 (by simp [refKind]) g1 g2 g3
    (by rw [nn sp g1, nn w g3]; show ¬ _ > ((arrV (G.2.2.2.1 0) z0 (fun j => .int (f j))).slots.size : Int); rw [arrV_size]; omega)
    (by rw [nn dp g2, nn w g3]; show ¬ _ > ((arrV (G.2.2.2.1 0) z1 (fun j => .int (g j))).slots.size : Int); rw [arrV_size]; omega)
    (fun vm₁ _ i hi => by
      have e : (vp_cell (G.2.2.2.1 0) (z0, .inl f)).slots.getD (sp.toNatClampNeg + i) .null = .int (f (sp.toNatClampNeg + i)) := by
        show (arrV (G.2.2.2.1 0) z0 (fun j => .int (f j))).slots.getD _ _ = _
        rw [Array.getD_eq_getD_getElem?, arrV_read _ _ (by omega)]
        rfl
      refine ⟨?_, ?_⟩
      · rw [e]
        rfl
      · rw [e]
        exact trivial)
    (g := F0 m pc ls (.int w :: .int dp :: .ref (G.2.1 + a) :: .int sp :: .ref (G.2.1 + a0) :: st.map (ab_v G))) rfl (by rw [f3]; exact hl.1) (rest := st.map (ab_v G)) rfl (by rw [f2]; exact hd) (by omega) (by show 2 * 0 + _ + _ ≤ _; rw [e7]; omega)
  have e1 : copied (vp_cell (G.2.2.2.1 0) (z0, .inl f)) (vp_cell (G.2.2.2.1 0) (z1, .inl g)) sp dp w = vp_cell (G.2.2.2.1 0) (z1, .inl (va_cpy f g sp.toNatClampNeg dp.toNatClampNeg w.toNatClampNeg)) := va_copied (fun z => .int z) (G.2.2.2.1 0) (G.2.2.2.1 0) f g g4
  rw [e1] at X' step
  have hlt : G.2.1 + a < H.size := (Array.getElem?_eq_some_iff.mp hc1).1
  generalize hH1 : H.setIfInBounds (G.2.1 + a) (vp_cell (G.2.2.2.1 0) (z1, .inl (va_cpy f g sp.toNatClampNeg dp.toNatClampNeg w.toNatClampNeg))) = H1
  have hheap : ((T.setVm vm').setCell (G.2.1 + a) (vp_cell (G.2.2.2.1 0) (z1, .inl (va_cpy f g sp.toNatClampNeg dp.toNatClampNeg w.toNatClampNeg)))).heap = H1 := by rw [← hH1, ← hT]; rfl
  have oq : ∀ q : Nat, q ≠ G.2.1 + a → H1[q]? = H[q]? := fun q hq => by rw [← hH1]; simp [Array.getElem?_setIfInBounds, Ne.symm hq]
  have zq : H1.size = H.size := by rw [← hH1]; simp
  have eq1 : H1[G.2.1 + a]? = some (vp_cell (G.2.2.2.1 0) (z1, .inl (va_cpy f g sp.toNatClampNeg dp.toNatClampNeg w.toNatClampNeg))) := by rw [← hH1]; simp [Array.getElem?_setIfInBounds, hlt]
  obtain ⟨t, a1, b1⟩ := k ok p e R s m args below meth c Z F0' hend H1 _ cells slots ls (ab_wr (e1 := .inl (0, z1, .inl (va_cpy f g sp.toNatClampNeg dp.toNatClampNeg w.toNatClampNeg))) hw eq1 zq oq) ⟨by rw [zq]; exact hS.1, fun q q1 q2 => by
      rw [oq q (fun e => q2 (by rw [e]; exact ab_hA))]
      exact hS.2.1 q q1 q2, fun q hq => by
      rcases List.mem_append.mp hq with h | h
      · exact hS.2.2 q h
      · obtain ⟨z, -, hz⟩ := List.mem_map.mp h
        rw [← hz]
        exact ab_hA⟩ hc hs hl _ hheap X'
  exact ⟨t, step t a1, b1⟩
theorem ab_mini : Cond.initialized "java/lang/Math" ∈ ab_tbl := ab_mem 121 (by decide +kernel) rfl
theorem ab_mmaxc : Cond.code Lib.Math.max.name Lib.Math.max.code 2 (some .int) ∈ ab_tbl := ab_mem 783 (by decide +kernel) rfl
theorem ab_mminc : Cond.code Lib.Math.min.name Lib.Math.min.code 2 (some .int) ∈ ab_tbl := ab_mem 516 (by decide +kernel) rfl
theorem ab_mabsc : Cond.code Lib.Math.abs.name Lib.Math.abs.code 1 (some .int) ∈ ab_tbl := ab_mem 900 (by decide +kernel) rfl
theorem r_mmax {i : Nat} {a b : Int32} (ho : ab_op M pc = some (.invokestatic i, n, 0, y, cv, yJ9_max_7cf53)) (hrs : (st.map fun v => v.category).sum ≤ 8) (k : ab_C G d kc ks M n L (.int (if a < b then b else a) :: st) h Q) : ab_C G d kc ks M pc L (.int b :: .int a :: st) h Q := by
  intro ok p e R s m args below meth c Z F hend H locs cells slots ls hw hS hc hs hl
  have h1 := ok _ _ ho
  have hn' : pc + 3 = n := h1.2.1
  have hd := ab_dc 3 h1 hn'
  subst hn'
  have F0' := F
  obtain ⟨f1, f2, f3, f4, f5, f6, f7, f8, f9, f10, f11, f12⟩ := F
  have hlk := h1.2.2.2.2.1
  exact va_mmax f1 f2 (f3.trans hl.1.symm) f4 (f8 _ (hlk _ List.mem_cons_self)) (f8 _ (hlk _ (List.mem_cons_of_mem _ List.mem_cons_self))) (f8 _ ab_mini) (f8 _ ab_mmaxc) (by omega) (by rw [ab_sum]; omega) (by omega) (by omega) hd (k ok p e R s m args below meth c Z F0' hend H locs cells slots ls hw hS hc hs hl)
theorem r_mmin {i : Nat} {a b : Int32} (ho : ab_op M pc = some (.invokestatic i, n, 0, y, cv, yJ9_min_7cf53)) (hrs : (st.map fun v => v.category).sum ≤ 8) (k : ab_C G d kc ks M n L (.int (if b < a then b else a) :: st) h Q) : ab_C G d kc ks M pc L (.int b :: .int a :: st) h Q := by
  intro ok p e R s m args below meth c Z F hend H locs cells slots ls hw hS hc hs hl
  have h1 := ok _ _ ho
  have hn' : pc + 3 = n := h1.2.1
  have hd := ab_dc 3 h1 hn'
  subst hn'
  have F0' := F
  obtain ⟨f1, f2, f3, f4, f5, f6, f7, f8, f9, f10, f11, f12⟩ := F
  have hlk := h1.2.2.2.2.1
  exact va_mmin f1 f2 (f3.trans hl.1.symm) f4 (f8 _ (hlk _ List.mem_cons_self)) (f8 _ (hlk _ (List.mem_cons_of_mem _ List.mem_cons_self))) (f8 _ ab_mini) (f8 _ ab_mminc) (by omega) (by rw [ab_sum]; omega) (by omega) (by omega) hd (k ok p e R s m args below meth c Z F0' hend H locs cells slots ls hw hS hc hs hl)
theorem r_mabs {i : Nat} {a : Int32} (ho : ab_op M pc = some (.invokestatic i, n, 0, y, cv, yJ9_abs_0f7a4)) (hrs : (st.map fun v => v.category).sum ≤ 8) (k : ab_C G d kc ks M n L (.int (if 0 ≤ a then a else 0 - a) :: st) h Q) : ab_C G d kc ks M pc L (.int a :: st) h Q := by
  intro ok p e R s m args below meth c Z F hend H locs cells slots ls hw hS hc hs hl
  have h1 := ok _ _ ho
  have hn' : pc + 3 = n := h1.2.1
  have hd := ab_dc 3 h1 hn'
  subst hn'
  have F0' := F
  obtain ⟨f1, f2, f3, f4, f5, f6, f7, f8, f9, f10, f11, f12⟩ := F
  have hlk := h1.2.2.2.2.1
  exact va_mabs f1 f2 (f3.trans hl.1.symm) f4 (f8 _ (hlk _ List.mem_cons_self)) (f8 _ (hlk _ (List.mem_cons_of_mem _ List.mem_cons_self))) (f8 _ ab_mini) (f8 _ ab_mabsc) (by omega) (by rw [ab_sum]; omega) (by omega) (by omega) hd (k ok p e R s m args below meth c Z F0' hend H locs cells slots ls hw hS hc hs hl)
end ab_prims
