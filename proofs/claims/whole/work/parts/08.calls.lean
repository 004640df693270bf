section ab_flds
variable {G : ab_G} {d kc ks : Nat} {M : ab_M} {pc n x y : Nat} {cv : Value} {nm : MethodName} {L : List (Option Value)} {st : List Value} {h : ab_H} {Q : Option Value → ab_H → Prop}
theorem r_getfield {a i : Nat} {fs : List Value} {v : Value} (ho : ab_op M pc = some (.getfield i, n, x, y, cv, nm)) (ha : h.1 a = some (.inr (x, fs))) (hv : fs[y]? = some v) (k : ab_C G d kc ks M n L (v :: st) h Q) : ab_C G d kc ks M pc L (.ref a :: st) h Q := by
  intro ok p e R s m args below meth c Z F hend H locs cells slots ls hw hS hc hs hl
  have h1 := ok _ _ ho
  have hn : pc + 3 = n := h1.2.1
  have hd := ab_dc 3 h1 hn
  subst hn
  have hat := hw.2 _ _ ha
  obtain ⟨r, hr, hy⟩ : ∃ r, vwCl[x]? = some r ∧ y < r.2.2 := h1.2.2.2.1
  have hts := F.2.2.2.2.2.2.2.1
  have hlk : Cond.fieldLink M.1.cls i (r.2.1 y).1 (r.2.1 y).2.1 (r.2.1 y).2.2.1 ∈ ab_tbl := h1.2.2.2.2.1 _ (by simp only [ab_need, hr]; exact List.mem_cons_self)
  exact va_get F.1 F.2.1 hts (ab_lays x r hr) F.2.2.2.1 F.2.2.2.2.2.2.2.2.1.1 (ab_one hat) 0 rfl hr y hy (hts _ hlk) (fun _ h9 => h9) (by simp [hv]) hd (k ok p e R s m args below meth c Z F hend H locs cells slots ls hw hS hc hs hl)
theorem r_putfield {a i : Nat} {fs fs1 : List Value} {v : Value} {ty : FieldType} (ho : ab_op M pc = some (.putfield i, n, x, y, cv, nm)) (ha : h.1 a = some (.inr (x, fs))) (hfin : ab_fin x y = false) (hty : ab_ty x y = ty) (hnar : narrow ty (ab_v G v) = ab_v G v) (hfit : fits ty (ab_v G v) = true) (hlen : y < fs.length) (hset : fs.set y v = fs1) (k : ab_C G d kc ks M n L st (ab_u h a (.inr (x, fs1))) Q) : ab_C G d kc ks M pc L (v :: .ref a :: st) h Q := by
  intro ok p e R s m args below meth c Z F hend H locs cells slots ls hw hS hc hs hl
  have h1 := ok _ _ ho
  have hn : pc + 3 = n := h1.2.1
  have hd := ab_dc 3 h1 hn
  subst hn
  obtain ⟨r, hr, hy⟩ : ∃ r, vwCl[x]? = some r ∧ y < r.2.2 := h1.2.2.2.1
  obtain ⟨r', hr', cell, q1, q2, q3, q4⟩ := hw.2 _ _ ha
  have e0 : r' = r := Option.some.inj (hr'.symm.trans hr)
  subst e0
  have hts := F.2.2.2.2.2.2.2.1
  have hK := F.2.2.2.2.2.2.2.2.1.1
  have hap := va_apart (own := M.1.cls) hts (ab_lays x r' hr) (ab_ty x) (ab_tyok x r' hr) (ab_nmok x r' hr) hK hr
  have hlk : Cond.fieldLink M.1.cls i (r'.2.1 y).1 (r'.2.1 y).2.1 (r'.2.1 y).2.2.1 ∈ ab_tbl := h1.2.2.2.2.1 _ (by simp only [ab_need, hr]; exact List.mem_cons_self)
  have hf : (r'.2.1 y).2.2.2 = false := by simpa only [ab_fin, hr] using hfin
  obtain ⟨hSl, hfc, kC, hkC, hkind⟩ := hK.1 x _ hr
  obtain ⟨cf, kf, fi, f, hi, hsl⟩ := hSl y hy
  have hlay := hts _ (ab_lays x r' hr _ (u_in_lay hy))
  unfold u_lay at hlay
  rw [if_neg (by rw [hf]; decide)] at hlay
  have hst := (u_facts hfc hkC (u_lays hts (ab_lays x r' hr) hy) hi).1
  have h6 := u_store hfc hkC hkind hlay hi (ab_tyok x r' hr y hy) (hty ▸ hnar) (hty ▸ hfit)
  refine W.putK F.1 F.2.1 (f := f) ⟨F.2.2.2.1, hts _ hlk, ⟨_, _, _, hi⟩, hst⟩ (by rw [q2]; exact h6) q1 q3 (by rw [hsl]; exact k2_hasslot (q4 y hy)) rfl rfl hd fun H1 e1 z1 o1 => ?_
  rw [hsl] at e1 ⊢
  refine k ok p e R s m args below meth c Z F hend H1 _ cells slots ls (ab_wr hw ?_ z1 o1) (hS.put z1 o1 ab_hA) hc hs hl
  refine ⟨r', hr, ?_⟩
  rw [← hset]
  show t_OB _ _ _ _ H1 (vp_V ((fs.set y v).map (ab_v G)))
  rw [List.map_set]
  exact t_OB.to (V := updV (vp_V (fs.map (ab_v G))) y (ab_v G v)) ⟨_, e1, q2, q3, t_set q4 hap hy _⟩ (fun j _ => vp_updV_set (by simpa using hlen) _ j)
theorem r_putfieldF {a i : Nat} {fs fs1 : List Value} {v : Value} {ty : FieldType} (ho : ab_op M pc = some (.putfield i, n, x, y, cv, nm)) (ha : h.1 a = some (.inr (x, fs))) (hfin : ab_fin x y = true) (hini : M.1.name = "<init>") (hdcl : ab_dcl x y = M.1.cls) (hty : ab_ty x y = ty) (hnar : narrow ty (ab_v G v) = ab_v G v) (hfit : fits ty (ab_v G v) = true) (hlen : y < fs.length) (hset : fs.set y v = fs1) (k : ab_C G d kc ks M n L st (ab_u h a (.inr (x, fs1))) Q) : ab_C G d kc ks M pc L (v :: .ref a :: st) h Q := by
  intro ok p e R s m args below meth c Z F hend H locs cells slots ls hw hS hc hs hl
  have h1 := ok _ _ ho
  have hn : pc + 3 = n := h1.2.1
  have hd := ab_dc 3 h1 hn
  subst hn
  obtain ⟨r, hr, hy⟩ : ∃ r, vwCl[x]? = some r ∧ y < r.2.2 := h1.2.2.2.1
  obtain ⟨r', hr', cell, q1, q2, q3, q4⟩ := hw.2 _ _ ha
  have e0 : r' = r := Option.some.inj (hr'.symm.trans hr)
  subst e0
  have hts := F.2.2.2.2.2.2.2.1
  have hK := F.2.2.2.2.2.2.2.2.1.1
  have hap := va_apart (own := M.1.cls) hts (ab_lays x r' hr) (ab_ty x) (ab_tyok x r' hr) (ab_nmok x r' hr) hK hr
  have hlk : Cond.fieldLink M.1.cls i (r'.2.1 y).1 (r'.2.1 y).2.1 (r'.2.1 y).2.2.1 ∈ ab_tbl := h1.2.2.2.2.1 _ (by simp only [ab_need, hr]; exact List.mem_cons_self)
  have hf : (r'.2.1 y).2.2.2 = true := by simpa only [ab_fin, hr] using hfin
  have hdc : (r'.2.1 y).1 = M.1.cls := by simpa only [ab_dcl, hr] using hdcl
  obtain ⟨hSl, hfc, kC, hkC, hkind⟩ := hK.1 x _ hr
  obtain ⟨cf, kf, fi, f, hi, hsl⟩ := hSl y hy
  have hlay := hts _ (ab_lays x r' hr _ (u_in_lay hy))
  unfold u_lay at hlay
  rw [if_pos hf] at hlay
  have hst := (u_facts hfc hkC (u_lays hts (ab_lays x r' hr) hy) hi).1
  have hcf : m.cls = cf := by
    obtain ⟨_, _, c', _, _, _, -, -, hf', -, -, -, hown2, -⟩ := Cond.laysFinal_spec hlay
    have e1 : c' = cf := by have := hi.symm.trans hf'; simp at this; exact this.1.symm
    rw [hdc] at hown2
    rw [← e1]; exact Option.some.inj (F.2.2.2.1.symm.trans hown2)
  have h6 := u_fits hfc hkC hkind (Or.inr hlay) hi (ab_tyok x r' hr y hy) (hty ▸ hnar) (hty ▸ hfit)
  refine W.putFinK F.1 F.2.1 F.2.2.2.1 (hts _ hlk) hi hst hcf (F.2.2.2.2.1.trans hini) (by rw [q2]; exact h6) q1 q3 (by rw [hsl]; exact k2_hasslot (q4 y hy)) rfl rfl hd fun H1 e1 z1 o1 => ?_
  rw [hsl] at e1 ⊢
  refine k ok p e R s m args below meth c Z F hend H1 _ cells slots ls (ab_wr hw ?_ z1 o1) (hS.put z1 o1 ab_hA) hc hs hl
  refine ⟨r', hr, ?_⟩
  rw [← hset]
  show t_OB _ _ _ _ H1 (vp_V ((fs.set y v).map (ab_v G)))
  rw [List.map_set]
  exact t_OB.to (V := updV (vp_V (fs.map (ab_v G))) y (ab_v G v)) ⟨_, e1, q2, q3, t_set q4 hap hy _⟩ (fun j _ => vp_updV_set (by simpa using hlen) _ j)
theorem ab_S_new {G : ab_G} {s : State} {H H1 : Heap} {locs : List Loc} (hS : va_S (ab_A G) s.heap H locs) (z : H1.size = H.size + 1) (o : ∀ q : Nat, q < H.size → H1[q]? = H[q]?) : va_S (ab_A G) s.heap H1 locs :=
  ⟨Nat.le_trans hS.1 (by omega), fun q h1 h2 => (o q (Nat.lt_of_lt_of_le h1 hS.1)).trans (hS.2.1 q h1 h2), hS.2.2⟩
theorem ab_dfv (G : ab_G) (ty : FieldType) : ab_v G (defaultValue ty) = defaultValue ty := by cases ty <;> rfl
theorem r_new {i : Nat} {fs : List Value} {N : Nat} (ho : ab_op M pc = some (.new i, n, x, y, cv, nm)) (hfs : ab_df x = fs) (hN : (vwCl[x]?).map (fun r => r.2.2) = some N) (k : ab_C G d kc ks M n L (.ref h.2 :: st) (ab_n h (.inr (x, fs))) Q) : ab_C G d (kc + 1) (ks + N) M pc L st h Q := by
  intro ok p e R s m args below meth c Z F hend H locs cells slots ls hw hS hc hs hl
  have h1 := ok _ _ ho
  have hn : pc + 3 = n := h1.2.1
  have hd := ab_dc 3 h1 hn
  subst hn
  have hts := F.2.2.2.2.2.2.2.1
  have hK := F.2.2.2.2.2.2.2.2.1.1
  cases hr : vwCl[x]? with
  | none => rw [hr] at hN; cases hN
  | some r =>
    rw [hr] at hN
    have hN : r.2.2 = N := Option.some.inj hN
    subst hN
    have hnd : ∀ w ∈ ([.classLink M.1.cls i r.1, .instantiable r.1 r.2.2, .initialized r.1] : List Cond), w ∈ ab_tbl := fun w hw => h1.2.2.2.2.1 _ (by simp only [ab_need, hr]; exact hw)
    have hV : ∀ j, j < r.2.2 → defaultValue (ab_ty x j) = vp_V (fs.map (ab_v G)) j := by
      intro j hj
      rw [← hfs]
      simp [ab_df, hr, vp_V, hj, ab_dfv]
    have hKn := hK.1 x _ hr
    refine W.newcK F.1 F.2.1 F.2.2.2.1 (hts _ (hnd _ List.mem_cons_self)) (hts _ (hnd _ (List.mem_cons_of_mem _ List.mem_cons_self))) (hts _ (hnd _ (List.mem_cons_of_mem _ (List.mem_cons_of_mem _ List.mem_cons_self)))) rfl hd (by omega) (by omega) hKn.2.1 rfl fun H1 kC hkC e1 z1 o1 => ?_
    have hw1 : ab_w G (ab_n h (.inr (x, fs))) H1 := ab_wn hw ⟨r, hr, (u_born (ab_ty x) hts (ab_lays x r hr) hKn hkC e1 (ab_tyok x r hr)).to hV⟩ z1 o1
    have k1 := k ok p e R s m args below meth c Z F hend H1 locs (cells + 1) (slots + r.2.2) ls hw1 (ab_S_new hS z1 o1) (by omega) (by omega) hl
    rw [hw.1]
    exact k1
theorem r_newarray {t : ArrayType} {ty : FieldType} {kd N : Nat} {a0 : vp_A} {z : Int32} (ho : ab_op M pc = some (.newarray t, n, x, y, cv, nm)) (hty : Op.newarray.typeOf t = ty) (hkd : ∀ dA : Nat → ClassId, (ab_tys dA)[kd]? = some (dA kd, ty)) (hne : ∀ C, ty ≠ .object C) (ha : ∀ cA : ClassId, vp_cell cA (ab_la G a0) = arrV cA N (fun _ => defaultValue ty)) (hz : ¬ z < 0) (hN : z.toNatClampNeg = N) (hby : N * componentBytes ty ≤ 536870912)
    (k : ab_C G d kc ks M n L (.ref h.2 :: st) (ab_n h (.inl (kd, a0))) Q) : ab_C G d (kc + 1) (ks + N) M pc L (.int z :: st) h Q := by
  intro ok p e R s m args below meth c Z F hend H locs cells slots ls hw hS hc hs hl
  have h1 := ok _ _ ho
  have hn : pc + 2 = n := h1.2.1
  have hd := ab_dc 2 h1 hn
  subst hn
  subst hty
  have hts := F.2.2.2.2.2.2.2.1
  have hK := F.2.2.2.2.2.2.2.2.1.1
  refine va_newaK F.1 F.2.1 (hts _ (h1.2.2.2.2.1 _ List.mem_cons_self)) rfl hd rfl hz hN hby (by omega) (by omega) rfl fun H1 cA e1 z1 o1 hAr hNm => ?_
  have hcA : cA = G.2.2.2.1 kd := by
    have hb := (hK.2 kd _ (hkd _)).2
    have hb2 : s.vm.findClass ("[" ++ (Op.newarray.typeOf t).toString) = some (G.2.2.2.1 kd) := by
      cases t <;> exact hb
    exact Option.some.inj (hNm.symm.trans hb2)
  subst hcA
  have hw1 : ab_w G (ab_n h (.inl (kd, a0))) H1 := ab_wn hw (show H1[H.size]? = some (vp_cell _ _) by rw [ha]; exact e1) z1 o1
  have k1 := k ok p e R s m args below meth c Z F hend H1 locs (cells + 1) (slots + N) ls hw1 (ab_S_new hS z1 o1) (by omega) (by omega) hl
  rw [hw.1]
  exact k1
theorem r_anew {i N : Nat} {z : Int32} (ho : ab_op M pc = some (.anewarray i, n, x, y, cv, nm)) (hz : ¬ z < 0) (hN : z.toNatClampNeg = N) (hby : N * 4 ≤ 536870912)
    (k : ab_C G d kc ks M n L (.ref h.2 :: st) (ab_n h (.inl (4, N, .inr (.inr (.inr (.inr (fun _ => none))))))) Q) : ab_C G d (kc + 1) (ks + N) M pc L (.int z :: st) h Q := by
  intro ok p e R s m args below meth c Z F hend H locs cells slots ls hw hS hc hs hl
  have h1 := ok _ _ ho
  have hn : pc + 3 = n := h1.2.1
  have hd := ab_dc 3 h1 hn
  subst hn
  subst hN
  have hts := F.2.2.2.2.2.2.2.1
  have hK := F.2.2.2.2.2.2.2.2.1.1
  refine W.anew F.1 F.2.1 F.2.2.2.1 (hts _ (h1.2.2.2.2.1 _ List.mem_cons_self)) (va_AO.use F.2.2.2.2.2.2.2.2.1.2.2.1) rfl hd rfl hz hby (by omega) (by omega) fun cA kA comp f1 f2 f3 f4 => ?_
  have hcA : cA = G.2.2.2.1 4 := by
    obtain ⟨_, _, _, _, _, b4⟩ := (hK.2 4 _ rfl).2
    exact Option.some.inj (f1.symm.trans b4)
  subst hcA
  generalize hH1 : H.push ({ cls := G.2.2.2.1 4, slots := Array.replicate z.toNatClampNeg .null, vm := .none } : Cell) = H1
  have z1 : H1.size = H.size + 1 := by rw [← hH1, Array.size_push]
  have e1 : H1[H.size]? = some (arrV (G.2.2.2.1 4) z.toNatClampNeg (fun _ => .null)) := by rw [← hH1, Array.getElem?_push_size, ← arrV_new]
  have o1 : ∀ q : Nat, q < H.size → H1[q]? = H[q]? := fun q hq => by rw [← hH1, Array.getElem?_push, if_neg (Nat.ne_of_lt hq)]
  have hw1 : ab_w G (ab_n h (.inl (4, z.toNatClampNeg, .inr (.inr (.inr (.inr (fun _ => none))))))) H1 := ab_wn hw (show H1[H.size]? = some (vp_cell _ _) from e1) z1 o1
  have k1 := k ok p e R s m args below meth c Z F hend H1 locs (cells + 1) (slots + z.toNatClampNeg) ls hw1 (ab_S_new hS z1 o1) (by omega) (by omega) hl
  rw [hw.1]
  exact k1
/-! returns -/
theorem r_ret (ho : ab_op M pc = some (.return_, n, x, y, cv, nm)) (hr : M.2.2.2.1 = none) (hq : Q none h) : ab_C G d kc ks M pc L [] h Q := by
  intro ok p e R s m args below meth c Z F hend H locs cells slots ls hw hS hc hs hl
  have h1 := ok _ _ ho
  have hd := ab_dc 1 h1 h1.2.1
  exact hend none h H locs cells slots pc ls hq hw hS (by omega) (by omega) hd hr
theorem r_iret {v : Int32} (ho : ab_op M pc = some (.ireturn, n, x, y, cv, nm)) {ty : FieldType} (hr : M.2.2.2.1 = some ty) (hnar : narrow ty (.int v) = .int v) (hq : Q (some (.int v)) h) : ab_C G d kc ks M pc L [.int v] h Q := by
  intro ok p e R s m args below meth c Z F hend H locs cells slots ls hw hS hc hs hl
  have h1 := ok _ _ ho
  have hd := ab_dc 1 h1 h1.2.1
  exact hend (some (.int v)) h H locs cells slots pc ls hq hw hS (by omega) (by omega) hd ⟨ty, hr, hnar⟩
theorem r_lret {v : Int64} (ho : ab_op M pc = some (.lreturn, n, x, y, cv, nm)) (hr : M.2.2.2.1 = some .long) (hq : Q (some (.long v)) h) : ab_C G d kc ks M pc L [.long v] h Q := by
  intro ok p e R s m args below meth c Z F hend H locs cells slots ls hw hS hc hs hl
  have h1 := ok _ _ ho
  have hd := ab_dc 1 h1 h1.2.1
  exact hend (some (.long v)) h H locs cells slots pc ls hq hw hS (by omega) (by omega) hd hr
/-! what is known may be less; what comes out may be more; the room may be less -/
theorem r_weak {L1 : List (Option Value)} (hL : ab_wk L1 L) (k : ab_C G d kc ks M pc L1 st h Q) : ab_C G d kc ks M pc L st h Q := by
  intro ok p e R s m args below meth c Z F hend H locs cells slots ls hw hS hc hs hl
  exact k ok p e R s m args below meth c Z F hend H locs cells slots ls hw hS hc hs (ab_lm_wk hL hl)
theorem r_post {Q1 : Option Value → ab_H → Prop} (k : ab_C G d kc ks M pc L st h Q1) (hQ : ∀ r h', Q1 r h' → Q r h') : ab_C G d kc ks M pc L st h Q := by
  intro ok p e R s m args below meth c Z F hend H locs cells slots ls hw hS hc hs hl
  exact k ok p e R s m args below meth c Z F (fun r h' H' l' c' s' pc' ls' hq => hend r h' H' l' c' s' pc' ls' (hQ r h' hq)) H locs cells slots ls hw hS hc hs hl
theorem r_room {kc1 ks1 : Nat} (k : ab_C G d kc1 ks1 M pc L st h Q) (h1 : kc1 ≤ kc) (h2 : ks1 ≤ ks) : ab_C G d kc ks M pc L st h Q := by
  intro ok p e R s m args below meth c Z F hend H locs cells slots ls hw hS hc hs hl
  exact k ok p e R s m args below meth c Z F hend H locs cells slots ls hw hS (by omega) (by omega) hl
theorem r_deep {d1 : Nat} (k : ab_C G d1 kc ks M pc L st h Q) (h1 : d1 ≤ d) : ab_C G d kc ks M pc L st h Q := by
  intro ok p e R s m args below meth c Z F hend H locs cells slots ls hw hS hc hs hl
  obtain ⟨f1, f2, f3, f4, f5, f6, f7, f8, f9, f10, f11, f12⟩ := F
  exact k ok p e R s m args below meth c Z ⟨f1, f2, f3, f4, f5, f6, f7, f8, f9, f10, by omega, by omega⟩ hend H locs cells slots ls hw hS hc hs hl
end ab_flds
