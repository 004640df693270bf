section ab_flds
variable {G : ab_G} {d kc ks : Nat} {M : ab_M} {pc n x y : Nat} {cv : Value} {nm : MethodName} {L : List (Option Value)} {st : List Value} {h : ab_H} {Q : Option Value → ab_H → Prop}
theorem r_getfield {a i : Nat} {fs : List Value} {v : Value} (ho : ab_op M pc = some (.getfield i, n, x, y, cv, nm)) (ha : h a = some (.inr (x, fs))) (hv : fs[y]? = some v) (k : ab_C G d kc ks M n L (v :: st) h Q) : ab_C G d kc ks M pc L (.ref a :: st) h Q := by
  intro ok p e R s m args below meth c Z F hend H locs cells slots ls hw hS hc hs hl
  have h1 := ok _ _ ho
  have hn : pc + 3 = n := h1.2.1
  have hd := ab_dc 3 h1 hn
  subst hn
  obtain ⟨ws, q0, hP, hD, hh, hk0⟩ := ab_w_at hw ha
  obtain ⟨r, hr, hy⟩ : ∃ r, vwCl[x]? = some r ∧ y < r.2.2 := h1.2.2.2.1
  have hts := F.2.2.2.2.2.2.2.1
  have hlk : Cond.fieldLink M.1.cls i (r.2.1 y).1 (r.2.1 y).2.1 (r.2.1 y).2.2.1 ∈ ab_tbl := h1.2.2.2.2.1 _ (by simp only [ab_need, hr]; exact List.mem_cons_self)
  exact va_get F.1 F.2.1 hts (ab_lays x r hr) F.2.2.2.1 F.2.2.2.2.2.2.2.2.1.1 hP q0 hk0 hr y hy (hts _ hlk) (fun _ h9 => h9) hv hd (k ok p e R s m args below meth c Z F hend H locs cells slots ls hw hS hc hs hl)
theorem r_putfield {a i : Nat} {fs : List Value} {v : Value} (ho : ab_op M pc = some (.putfield i, n, x, y, cv, nm)) (ha : h a = some (.inr (x, fs))) (hfin : ab_fin x y = false) (hnar : narrow (ab_ty x y) v = v) (hfit : fits (ab_ty x y) v = true) (hlen : y < fs.length) (k : ab_C G d kc ks M n L st (ab_u h a (.inr (x, fs.set y v))) Q) : ab_C G d kc ks M pc L (v :: .ref a :: st) h Q := by
  intro ok p e R s m args below meth c Z F hend H locs cells slots ls hw hS hc hs hl
  have h1 := ok _ _ ho
  have hn : pc + 3 = n := h1.2.1
  have hd := ab_dc 3 h1 hn
  subst hn
  obtain ⟨ws, q0, hP, hD, hh, hk0⟩ := ab_w_at hw ha
  obtain ⟨r, hr, hy⟩ : ∃ r, vwCl[x]? = some r ∧ y < r.2.2 := h1.2.2.2.1
  have hts := F.2.2.2.2.2.2.2.1
  have hlk : Cond.fieldLink M.1.cls i (r.2.1 y).1 (r.2.1 y).2.1 (r.2.1 y).2.2.1 ∈ ab_tbl := h1.2.2.2.2.1 _ (by simp only [ab_need, hr]; exact List.mem_cons_self)
  have hf : (r.2.1 y).2.2.2 = false := by simpa only [ab_fin, hr] using hfin
  exact va_put F.1 F.2.1 hts (ab_lays x r hr) (ab_ty x) (ab_tyok x r hr) (ab_nmok x r hr) F.2.2.2.1 F.2.2.2.2.2.2.2.2.1.1 hP hD hS q0 hk0 hr y hy (hts _ hlk) (fun _ h9 => h9) hf (ab_tyok x r hr y hy) hnar hfit hlen hd
    (fun H1 locs1 hP1 hD1 hS1 => k ok p e R s m args below meth c Z F hend H1 locs1 cells slots ls (ab_w_set (e1 := .inr (x, fs.set y v)) hD hh hk0 hP1 hD1) hS1 hc hs hl)
theorem r_putfieldF {a i : Nat} {fs : List Value} {v : Value} (ho : ab_op M pc = some (.putfield i, n, x, y, cv, nm)) (ha : h a = some (.inr (x, fs))) (hfin : ab_fin x y = true) (hini : M.1.name = "<init>") (hdcl : ab_dcl x y = M.1.cls) (hnar : narrow (ab_ty x y) v = v) (hfit : fits (ab_ty x y) v = true) (hlen : y < fs.length) (k : ab_C G d kc ks M n L st (ab_u h a (.inr (x, fs.set y v))) Q) : ab_C G d kc ks M pc L (v :: .ref a :: st) h Q := by
  intro ok p e R s m args below meth c Z F hend H locs cells slots ls hw hS hc hs hl
  have h1 := ok _ _ ho
  have hn : pc + 3 = n := h1.2.1
  have hd := ab_dc 3 h1 hn
  subst hn
  obtain ⟨ws, q0, hP, hD, hh, hk0⟩ := ab_w_at hw ha
  obtain ⟨r, hr, hy⟩ : ∃ r, vwCl[x]? = some r ∧ y < r.2.2 := h1.2.2.2.1
  have hts := F.2.2.2.2.2.2.2.1
  have hlk : Cond.fieldLink M.1.cls i (r.2.1 y).1 (r.2.1 y).2.1 (r.2.1 y).2.2.1 ∈ ab_tbl := h1.2.2.2.2.1 _ (by simp only [ab_need, hr]; exact List.mem_cons_self)
  have hf : (r.2.1 y).2.2.2 = true := by simpa only [ab_fin, hr] using hfin
  have hdc : (r.2.1 y).1 = M.1.cls := by simpa only [ab_dcl, hr] using hdcl
  exact va_putF F.1 F.2.1 hts (ab_lays x r hr) (ab_ty x) (ab_tyok x r hr) (ab_nmok x r hr) F.2.2.2.1 F.2.2.2.2.2.2.2.2.1.1 hP hD hS q0 hk0 hr y hy (hts _ hlk) (fun _ h9 => h9) hf (F.2.2.2.2.1.trans hini) hdc (ab_tyok x r hr y hy) hnar hfit hlen hd
    (fun H1 locs1 hP1 hD1 hS1 => k ok p e R s m args below meth c Z F hend H1 locs1 cells slots ls (ab_w_set (e1 := .inr (x, fs.set y v)) hD hh hk0 hP1 hD1) hS1 hc hs hl)
theorem r_new {i : Nat} {fs : List Value} {N : Nat} (ho : ab_op M pc = some (.new i, n, x, y, cv, nm)) (hfs : ab_df x = fs) (hN : (vwCl[x]?).map (fun r => r.2.2) = some N) (k : ∀ q : Nat, h q = none → ab_C G d kc ks M n L (.ref q :: st) (ab_u h q (.inr (x, fs))) Q) : ab_C G d (kc + 1) (ks + N) M pc L st h Q := by
  intro ok p e R s m args below meth c Z F hend H locs cells slots ls hw hS hc hs hl
  have h1 := ok _ _ ho
  have hn : pc + 3 = n := h1.2.1
  have hd := ab_dc 3 h1 hn
  subst hn
  obtain ⟨ws, hP, hD, hh⟩ := hw
  have hts := F.2.2.2.2.2.2.2.1
  cases hr : vwCl[x]? with
  | none => rw [hr] at hN; cases hN
  | some r =>
    rw [hr] at hN
    have hN : r.2.2 = N := Option.some.inj hN
    subst hN
    have hnd : ∀ w ∈ ([.classLink M.1.cls i r.1, .instantiable r.1 r.2.2, .initialized r.1] : List Cond), w ∈ ab_tbl := fun w hw => h1.2.2.2.2.1 _ (by simp only [ab_need, hr]; exact hw)
    have hV : ∀ j, j < r.2.2 → defaultValue (ab_ty x j) = vp_V fs j := by
      intro j hj
      rw [← hfs]
      simp [ab_df, hr, vp_V, hj]
    exact va_new F.1 F.2.1 hts (ab_lays x r hr) (ab_ty x) (ab_tyok x r hr) F.2.2.2.1 (hts _ (hnd _ List.mem_cons_self)) (hts _ (hnd _ (List.mem_cons_of_mem _ List.mem_cons_self))) (hts _ (hnd _ (List.mem_cons_of_mem _ (List.mem_cons_of_mem _ List.mem_cons_self)))) F.2.2.2.2.2.2.2.2.1.1 hP hD hS (fun q hq => Nat.le_trans F.2.2.2.2.2.2.2.2.2.1 hq) hr hV (by omega) (by omega) hd
      (fun q H1 hP1 hD1 hS1 => by
        obtain ⟨hq, hw1⟩ := ab_w_new (e1 := .inr (x, fs)) hh hP1 hD1
        exact k q hq ok p e R s m args below meth c Z F hend H1 locs (cells + 1) (slots + r.2.2) ls hw1 hS1 (by omega) (by omega) hl)
theorem ab_kind {G : ab_G} {U : State} {cA : ClassId} {ty : FieldType} {kd : Nat} (hK : va_K G.2.2.1 vwCl (ab_tys G.2.2.2.1) U) (hkd : (ab_tys G.2.2.2.1)[kd]? = some (G.2.2.2.1 kd, ty)) (hprim : va_RA U cA ty → va_RA U (G.2.2.2.1 kd) ty → cA = G.2.2.2.1 kd) (hA : va_K G.2.2.1 vwCl (ab_tys G.2.2.2.1 ++ [(cA, ty)]) U) : cA = G.2.2.2.1 kd :=
  hprim (hA.2 5 _ rfl).2 (hK.2 kd _ hkd).2
theorem r_newarray {t : ArrayType} {ty : FieldType} {kd N : Nat} {a0 : vp_A} {z : Int32} (ho : ab_op M pc = some (.newarray t, n, x, y, cv, nm)) (hty : Op.newarray.typeOf t = ty) (hkd : ∀ dA : Nat → ClassId, (ab_tys dA)[kd]? = some (dA kd, ty)) (hne : ∀ C, ty ≠ .object C) (ha : ∀ cA : ClassId, vp_cell cA a0 = arrV cA N (fun _ => defaultValue ty)) (hz : ¬ z < 0) (hN : z.toNatClampNeg = N) (hby : N * componentBytes ty ≤ 536870912)
    (k : ∀ q : Nat, h q = none → ab_C G d kc ks M n L (.ref q :: st) (ab_u h q (.inl (kd, a0))) Q) : ab_C G d (kc + 1) (ks + N) M pc L (.int z :: st) h Q := by
  intro ok p e R s m args below meth c Z F hend H locs cells slots ls hw hS hc hs hl
  have h1 := ok _ _ ho
  have hn : pc + 2 = n := h1.2.1
  have hd := ab_dc 2 h1 hn
  subst hn
  obtain ⟨ws, hP, hD, hh⟩ := hw
  have hts := F.2.2.2.2.2.2.2.1
  have hK := F.2.2.2.2.2.2.2.2.1.1
  exact va_newa F.1 F.2.1 (hts _ (h1.2.2.2.2.1 _ List.mem_cons_self)) hty hK hP hD hS (fun q hq => Nat.le_trans F.2.2.2.2.2.2.2.2.2.1 hq) ha hz hN hby (by omega) (by omega) hd
    (fun q cA H1 hA hP1 hD1 hS1 => by
      have hcA : cA = G.2.2.2.1 kd := ab_kind hK (hkd _) (fun a b => by
        cases ty with
        | object C => exact absurd rfl (hne C)
        | _ => exact Option.some.inj (Eq.trans (Eq.symm (show s.vm.findClass _ = some cA from a)) (show s.vm.findClass _ = some _ from b))) hA
      subst hcA
      obtain ⟨hq, hw1⟩ := ab_w_new (e1 := .inl (kd, a0)) hh hP1 hD1
      exact k q hq ok p e R s m args below meth c Z F hend H1 locs (cells + 1) (slots + N) ls hw1 hS1 (by omega) (by omega) hl)
theorem r_anew {i N : Nat} {z : Int32} (ho : ab_op M pc = some (.anewarray i, n, x, y, cv, nm)) (hz : ¬ z < 0) (hN : z.toNatClampNeg = N) (hby : N * 4 ≤ 536870912)
    (k : ∀ q : Nat, h q = none → ab_C G d kc ks M n L (.ref q :: st) (ab_u h q (.inl (4, N, .inr (.inr (.inr (.inr (fun _ => none))))))) Q) : ab_C G d (kc + 1) (ks + N) M pc L (.int z :: st) h Q := by
  intro ok p e R s m args below meth c Z F hend H locs cells slots ls hw hS hc hs hl
  have h1 := ok _ _ ho
  have hn : pc + 3 = n := h1.2.1
  have hd := ab_dc 3 h1 hn
  subst hn
  obtain ⟨ws, hP, hD, hh⟩ := hw
  have hts := F.2.2.2.2.2.2.2.1
  have hK := F.2.2.2.2.2.2.2.2.1.1
  exact va_newq F.1 F.2.1 F.2.2.2.1 (hts _ (h1.2.2.2.2.1 _ List.mem_cons_self)) F.2.2.2.2.2.2.2.2.1.2.2 hK hP hD hS (fun q hq => Nat.le_trans F.2.2.2.2.2.2.2.2.2.1 hq) hz hN hby (by omega) (by omega) hd
    (fun q cA H1 hA hP1 hD1 hS1 => by
      have hcA : cA = G.2.2.2.1 4 := ab_kind hK rfl (fun a b => by
        obtain ⟨_, _, _, _, _, a4⟩ := a
        obtain ⟨_, _, _, _, _, b4⟩ := b
        exact Option.some.inj (a4.symm.trans b4)) hA
      subst hcA
      obtain ⟨hq, hw1⟩ := ab_w_new (e1 := .inl (4, N, .inr (.inr (.inr (.inr (fun _ => none)))))) hh hP1 hD1
      exact k q hq ok p e R s m args below meth c Z F hend H1 locs (cells + 1) (slots + N) ls hw1 hS1 (by omega) (by omega) hl)
/-! returns -/
theorem r_ret (ho : ab_op M pc = some (.return_, n, x, y, cv, nm)) (hr : M.2.2.2.1 = none) (hq : Q none h) : ab_C G d kc ks M pc L [] h Q := by
  intro ok p e R s m args below meth c Z F hend H locs cells slots ls hw hS hc hs hl
  have h1 := ok _ _ ho
  have hd := ab_dc 1 h1 h1.2.1
  exact hend none h H locs cells slots pc ls hq hw hS (by omega) (by omega) hd hr
theorem r_iret {v : Int32} (ho : ab_op M pc = some (.ireturn, n, x, y, cv, nm)) {ty : FieldType} (hr : M.2.2.2.1 = some ty) (hnar : narrow ty (.int v) = .int v) (hq : Q (some (.int v)) h) : ab_C G d kc ks M pc L [.int v] h Q := by
  intro ok p e R s m args below meth c Z F hend H locs cells slots ls hw hS hc hs hl
  have h1 := ok _ _ ho
  have hd := ab_dc 1 h1 h1.2.1
  exact hend (some (.int v)) h H locs cells slots pc ls hq hw hS (by omega) (by omega) hd ⟨ty, hr, hnar⟩
theorem r_lret {v : Int64} (ho : ab_op M pc = some (.lreturn, n, x, y, cv, nm)) (hr : M.2.2.2.1 = some .long) (hq : Q (some (.long v)) h) : ab_C G d kc ks M pc L [.long v] h Q := by
  intro ok p e R s m args below meth c Z F hend H locs cells slots ls hw hS hc hs hl
  have h1 := ok _ _ ho
  have hd := ab_dc 1 h1 h1.2.1
  exact hend (some (.long v)) h H locs cells slots pc ls hq hw hS (by omega) (by omega) hd hr
/-! what is known may be less; what comes out may be more; the room may be less -/
theorem r_weak {L1 : List (Option Value)} (hL : ab_wk L1 L) (k : ab_C G d kc ks M pc L1 st h Q) : ab_C G d kc ks M pc L st h Q := by
  intro ok p e R s m args below meth c Z F hend H locs cells slots ls hw hS hc hs hl
  exact k ok p e R s m args below meth c Z F hend H locs cells slots ls hw hS hc hs ⟨hl.1, hl.2.1, fun i v hi => hl.2.2 i v (ab_wk_get _ _ hL i v hi)⟩
theorem r_post {Q1 : Option Value → ab_H → Prop} (k : ab_C G d kc ks M pc L st h Q1) (hQ : ∀ r h', Q1 r h' → Q r h') : ab_C G d kc ks M pc L st h Q := by
  intro ok p e R s m args below meth c Z F hend H locs cells slots ls hw hS hc hs hl
  exact k ok p e R s m args below meth c Z F (fun r h' H' l' c' s' pc' ls' hq => hend r h' H' l' c' s' pc' ls' (hQ r h' hq)) H locs cells slots ls hw hS hc hs hl
theorem r_room {kc1 ks1 : Nat} (k : ab_C G d kc1 ks1 M pc L st h Q) (h1 : kc1 ≤ kc) (h2 : ks1 ≤ ks) : ab_C G d kc ks M pc L st h Q := by
  intro ok p e R s m args below meth c Z F hend H locs cells slots ls hw hS hc hs hl
  exact k ok p e R s m args below meth c Z F hend H locs cells slots ls hw hS (by omega) (by omega) hl
theorem r_deep {d1 : Nat} (k : ab_C G d1 kc ks M pc L st h Q) (h1 : d1 ≤ d) : ab_C G d kc ks M pc L st h Q := by
  intro ok p e R s m args below meth c Z F hend H locs cells slots ls hw hS hc hs hl
  obtain ⟨f1, f2, f3, f4, f5, f6, f7, f8, f9, f10, f11, f12⟩ := F
  exact k ok p e R s m args below meth c Z ⟨f1, f2, f3, f4, f5, f6, f7, f8, f9, f10, by omega, by omega⟩ hend H locs cells slots ls hw hS hc hs hl
end ab_flds
