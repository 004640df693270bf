/-- the locals with which a method begins -/
def ab_ent : List Value → List (Option Value)
  | [] => []
  | v :: vs => if v.category = 2 then some v :: none :: ab_ent vs else some v :: ab_ent vs
theorem ab_ent_args : ∀ (vs : List Value) (o i : Nat) (v : Value), (ab_ent vs)[i]? = some (some v) → (o + i, v) ∈ lv_args o vs
  | [], o, i, v, h => by simp [ab_ent] at h
  | w :: vs, o, i, v, h => by
    unfold ab_ent at h
    unfold lv_args
    by_cases hc : w.category = 2
    · rw [if_pos hc] at h
      rw [if_pos hc]
      match i, h with
      | 0, h =>
        simp at h
        subst h
        exact List.mem_cons_self
      | 1, h => simp at h
      | i + 2, h =>
        have := ab_ent_args vs (o + 2) i v (by simpa using h)
        rw [show o + (i + 2) = o + 2 + i by omega]
        exact List.mem_cons_of_mem _ this
    · rw [if_neg hc] at h
      rw [if_neg hc]
      match i, h with
      | 0, h =>
        simp at h
        subst h
        exact List.mem_cons_self
      | i + 1, h =>
        have := ab_ent_args vs (o + 1) i v (by simpa using h)
        rw [show o + (i + 1) = o + 1 + i by omega]
        exact List.mem_cons_of_mem _ this
theorem ab_ent_map (G : ab_G) : ∀ vs : List Value, ab_ent (vs.map (ab_v G)) = ab_lm G (ab_ent vs)
  | [] => rfl
  | v :: vs => by
    show (if (ab_v G v).category = 2 then some (ab_v G v) :: none :: ab_ent (vs.map (ab_v G)) else some (ab_v G v) :: ab_ent (vs.map (ab_v G))) = ab_lm G (if v.category = 2 then some v :: none :: ab_ent vs else some v :: ab_ent vs)
    rw [ab_v_cat, ab_ent_map G vs]
    by_cases h : v.category = 2 <;> simp [h, ab_lm]
theorem ab_sl_map (G : ab_G) (vs : List Value) : (lg_sl (vs.map (ab_v G))).length = (lg_sl vs).length := by
  induction vs with
  | nil => rfl
  | cons v vs ih =>
    have e1 : lg_sl ((v :: vs).map (ab_v G)) = (if (ab_v G v).category = 2 then [.val (ab_v G v), .second] else [.val (ab_v G v)]) ++ lg_sl (vs.map (ab_v G)) := rfl
    have e2 : lg_sl (v :: vs) = (if v.category = 2 then [.val v, .second] else [.val v]) ++ lg_sl vs := rfl
    rw [e1, e2, List.length_append, List.length_append, ih, ab_v_cat]
    by_cases h : v.category = 2 <;> simp [h]
/-- what comes back is no reference -/
theorem ab_rk_map {G : ab_G} {ret : Option FieldType} {r : Option Value} (h : ab_rk ret r) : r.toList.map (ab_v G) = r.toList := by
  match r, h with
  | none, _ => rfl
  | some (.int _), _ => rfl
  | some (.long _), _ => rfl
abbrev ab_rm (d kc ks : Nat) : Room := { frames := d + 1, cells := kc, slots := ks, locals := 60 * (d + 1) }
def ab_Pc (G : ab_G) (As : List Value) (h : ab_H) : Array Value → State → Prop := fun v U => v = (As.map (ab_v G)).toArray ∧ ab_w G h U.heap ∧ ab_K G U ∧ G.2.1 ≤ U.heap.size
def ab_Qc (G : ab_G) (Q : Option Value → ab_H → Prop) : Array Value → State → Outcome → State → Prop := fun _ st oc t => (∃ r h', oc = .returned r ∧ r.toList.map (ab_v G) = r.toList ∧ Q r h' ∧ ab_w G h' t.heap) ∧ va_F (ab_A G) st t
abbrev ab_ws (M : ab_M) : List Cond := .code M.1 M.2.1 M.2.2.1 M.2.2.2.1 :: ab_tbl
theorem ab_met {G : ab_G} {d kc ks : Nat} {M : ab_M} {h : ab_H} {Q : Option Value → ab_H → Prop} {As : List Value} (okY : ab_okY M) (okT : ab_okT M) (hAs : (lg_sl As).length ≤ M.2.2.1) (hC : ab_C G d kc ks M 0 (ab_ent As) [] h Q) :
    Met G.1 M.1 (ab_ws M) (ab_rm d kc ks) (ab_Pc G As h) (ab_Qc G Q) kc ks (ab_A G) := by
  refine Met.ofW (cc := M.2.1) (maxL := M.2.2.1) (ret := M.2.2.2.1) okY.1 rfl ?_
  intro p e s m args below meth c s₁ B hml hv
  obtain ⟨rfl, hw, hK, hB⟩ := hv
  have hts := atoms_spec (ws := ab_ws M) B.pre
  have hlocks := B.notSynchronized
  have hl := lv_entry (As.map (ab_v G)) (n := M.2.2.1) (by rw [ab_sl_map]; exact hAs)
  rw [lg_entry_eq]
  refine hC okT p e (ab_rm d kc ks) s m (As.map (ab_v G)).toArray below meth c _ ⟨B.exec, B.bytes, hml, findClass_of_methodNamed B.named, (name_of_methodNamed B.named B.method).1, B.returns, hlocks, fun w hw => hts w (List.mem_cons_of_mem _ hw), hK, hB, Nat.le_refl _, Nat.le_refl _⟩ ?_ s.heap [] 0 0 _ hw va_S.rf (by simp) (by simp) (ab_l_of (L := ab_lm G (ab_ent As)) hl fun i v hi => by rw [← ab_ent_map] at hi; simpa using ab_ent_args (As.map (ab_v G)) 0 i v hi)
  intro r h' H' locs' cells' slots' pc' ls' hQ hw' hS' hc' hs' hd hrk
  refine W.widen (k := kc) (n := ks) hc' hs' ?_
  match r, hd, hrk with
  | none, hd, hrk => exact W.vret B.exec B.bytes (B.returns.trans hrk) (fun t ht _ => ⟨⟨none, h', rfl, rfl, hQ, by rw [ht]; exact hw'⟩, hS'.F ht⟩) hS'.2.2 hd hlocks
  | some (.int v), hd, hrk =>
    obtain ⟨ty, h1, h2⟩ := hrk
    exact W.zret B.exec B.bytes (B.returns.trans h1) h2 (fun t ht _ => ⟨⟨some (.int v), h', rfl, rfl, hQ, by rw [ht]; exact hw'⟩, hS'.F ht⟩) hS'.2.2 hd hlocks
  | some (.long v), hd, hrk => exact W.lret B.exec B.bytes (B.returns.trans hrk) (fun t ht _ => ⟨⟨some (.long v), h', rfl, rfl, hQ, by rw [ht]; exact hw'⟩, hS'.F ht⟩) hS'.2.2 hd hlocks
theorem ab_X_moved {u U : State} {b L : Nat} {xs : Nat → Int32} (hvm : u.vm.Alike U.vm) {H H1 : Heap} (e : H1[b]? = H[b]?) (h : va_X b L xs u H) : va_X b L xs U H1 := by
  obtain ⟨scr, h1, h2, h3, h4, h5⟩ := h
  exact ⟨scr, e.trans h1, State.isArrayOf_alike hvm h2, h3, h4, h5⟩
theorem ab_blind {G : ab_G} {As : List Value} {h : ab_H} : FrameBlind (ab_Pc G As h) := by
  intro a U g mk q
  obtain ⟨q0, q1, q2, q3⟩ := q
  refine ⟨q0, q1, ⟨va_K.moved (u := U) (U := U.calling g mk a) (Vm.Alike.refl U.vm) q2.1, fun w hw => ?_, va_AO.moved (u := U) (U := U.calling g mk a) (Vm.Alike.refl U.vm) q2.2.2.1, ab_X_moved (U := U.calling g mk a) (Vm.Alike.refl U.vm) rfl q2.2.2.2.1, q2.2.2.2.2.1, ab_str_same (U := U.calling g mk a) rfl rfl q2.2.2.2.2.2⟩, q3⟩
  have h1 := List.mem_filter.mp hw
  cases w with
  | methodLinkNest a1 i1 x1 h1 => exact va_Nw.same rfl rfl (q2.2.1 _ hw)
  | _ => simp [ab_isNest] at h1
theorem ab_good {M : ab_M} (hc : Cond.code M.1 M.2.1 M.2.2.1 M.2.2.2.1 ∈ ab_tbl) : GoodIn ab_tbl (ab_ws M) := by
  intro w hw
  have hm : w ∈ ab_tbl := by
    rcases List.mem_cons.mp hw with h | h
    · rw [h]; exact hc
    · exact h
  exact ⟨hm, good_of_word (List.mem_filter.mp hm).2⟩
section ab_calls
variable {G : ab_G} {d kc ks : Nat} {M : ab_M} {pc n x y : Nat} {cv : Value} {nm : MethodName} {L : List (Option Value)} {st : List Value} {h : ab_H} {Q : Option Value → ab_H → Prop}
variable {p : Program} {e : Env} {R : Room} {s : State} {m : MethodId} {args : Array Value} {below : List Frame} {meth : Method} {c : Code} {H : Heap} {locs : List Loc} {cells slots : Nat} {Z : State → Prop}
theorem ab_run {kc1 ks1 : Nat} {Q1 : Option Value → ab_H → Prop} {a : Array Value} {ls : Array Slot} {st0 rest : List Value} (hr : va_Run p G.1 e R s m args below meth c H locs cells slots kc1 ks1 (F0 m pc ls st0) (rest.map (ab_v G)) (ab_Qc G Q1 a) (ab_A G)) (hS : va_S (ab_A G) s.heap H locs)
    (kk : ∀ (r : Option Value) (h' : ab_H) (H1 : Heap) (locs1 : List Loc), Q1 r h' → ab_w G h' H1 → va_S (ab_A G) s.heap H1 locs1 → W p G.1 e R s m args below meth c H1 locs1 (cells + kc1) (slots + ks1) Z (F0 m (pc + 3) ls ((r.toList ++ rest).map (ab_v G)))) : W p G.1 e R s m args below meth c H locs cells slots Z (F0 m pc ls st0) := by
  intro T hT X
  obtain ⟨v, st₀, t, T', L, h0, X', hL, e1, e2, ⟨⟨r, h', hv, hm, hq, hw⟩, hz, hk⟩, stp⟩ := hr T hT X
  cases hv
  rw [h0] at hz hk
  obtain ⟨t2, a1, b1⟩ := kk v h' T'.heap (locs ++ L) hq (by rw [e1]; exact hw)
    ⟨Nat.le_trans hS.1 (by rw [e1]; exact hz), fun q h1 h2 => by rw [e1, hk q (Nat.lt_of_lt_of_le h1 hS.1) h2]; exact hS.2.1 q h1 h2, fun q hq => by
      rcases List.mem_append.mp hq with h | h
      · exact hS.2.2 q h
      · exact hL q h⟩ T' rfl X'
  rw [List.map_append, hm] at a1
  exact ⟨t2, stp t2 a1, b1⟩
theorem ab_nested {w : Cond} {U : State} (hW : s.WarmedH U.vm) (hw : w ∈ ab_nest) (h : va_Nw w s) : va_Nw w U := by
  have h1 := (List.mem_filter.mp hw).2
  cases w with
  | methodLinkNest a1 i1 x1 h1 => exact va_Nw.warmM hW h
  | _ => simp [ab_isNest] at h1
theorem ab_pre {As : List Value} (hK : ab_K G s) (hB : G.2.1 ≤ s.heap.size) (hw : ab_w G h H) (hS : va_S (ab_A G) s.heap H locs) : ∀ U : State, U.heap = H → s.WarmedH U.vm → ab_Pc G As h (As.map (ab_v G)).toArray U := by
  intro U hU hW
  exact ⟨rfl, by rw [hU]; exact hw, ⟨va_K.moved hW.alike hK.1, fun w hw => ab_nested hW hw (hK.2.1 w hw), va_AO.moved hW.alike hK.2.2.1, ab_X_moved hW.alike (by rw [hU]; exact hS.2.1 _ (Nat.lt_of_lt_of_le hK.2.2.2.2.1 hB) (Nat.not_le.mpr hK.2.2.2.2.1)) hK.2.2.2.1, hK.2.2.2.2.1, ab_str_call hW (fun q h1 h2 => by rw [hU]; exact hS.2.1 q h1 h2) hK.2.2.2.2.2⟩, by rw [hU]; exact Nat.le_trans hB hS.1⟩
theorem ab_cB {M1 : ab_M} {i kc1 ks1 : Nat} (okY : ab_okY M1) (hts : ∀ w ∈ ab_tbl, w.before args s = true) (hlk : Cond.methodLink M.1.cls i M1.1 ∈ ab_tbl) (hf : d + 1 + 1 ≤ R.frames) (hlo : 60 * (d + 1 + 1) ≤ R.locals) :
    CallB R s args M.1.cls i M1.1 M1.2.1 M1.2.2.1 M1.2.2.2.1 (ab_ws M1) (ab_rm d kc1 ks1) kc1 ks1 M1.2.2.2.2.2.1 :=
  callB_of _ hts (ab_good okY.2.1) rfl rfl rfl (hts _ okY.2.2.1) (hts _ hlk) okY.2.2.2.1 ⟨hf, by have := okY.2.2.2.2.1; show 8 + (M1.2.2.1 + 11) + 60 * (d + 1) ≤ R.locals; omega⟩
theorem ab_cN {M1 : ab_M} {i kc1 ks1 : Nat} (okY : ab_okY M1) (hts : ∀ w ∈ ab_tbl, w.before args s = true) (hlk : va_Nw (.methodLinkNest M.1.cls i M1.1 "ConfettiRound") s) (hf : d + 1 + 1 ≤ R.frames) (hlo : 60 * (d + 1 + 1) ≤ R.locals) :
    va_CN R s args M.1.cls i M1.1 "ConfettiRound" M1.2.1 M1.2.2.1 M1.2.2.2.1 (ab_ws M1) (ab_rm d kc1 ks1) kc1 ks1 M1.2.2.2.2.2.1 :=
  va_cnB _ hts (ab_good okY.2.1) rfl rfl rfl hlk (hts _ okY.2.2.1) okY.2.2.2.1 ⟨hf, by have := okY.2.2.2.2.1; show 8 + (M1.2.2.1 + 11) + 60 * (d + 1) ≤ R.locals; omega⟩
/-- a call of an instance method; 'rest' is what stays on the stack -/
theorem r_callV {M1 : ab_M} {i kc1 ks1 b : Nat} {fs : List Value} {Q1 : Option Value → ab_H → Prop} (As rest : List Value) (ho : ab_op M pc = some (.invokevirtual i, n, x, y, cv, M1.1)) (okY : ab_okY M1) (okT : ab_okT M1) (hst : st = As.reverse ++ .ref b :: rest) (hn : As.length = M1.2.2.2.2.2.1) (hAs : (lg_sl (.ref b :: As)).length ≤ M1.2.2.1) (hrs : (rest.map fun v => v.category).sum ≤ 8)
    (hb : h.1 b = some (.inr (M1.2.2.2.2.1, fs))) (hC : ab_C G d kc1 ks1 M1 0 (ab_ent (.ref b :: As)) [] h Q1) (kk : ∀ r h', Q1 r h' → ab_C G (d + 1) kc ks M n L (r.toList ++ rest) h' Q) : ab_C G (d + 1) (kc + kc1) (ks + ks1) M pc L st h Q := by
  intro ok p e R s m args below meth c Z F hend H locs cells slots ls hw hS hc hs hl
  have h1 := ok _ _ ho
  have hn' : pc + 3 = n := h1.2.1
  have hd := ab_dc 3 h1 hn'
  subst hn'
  subst hst
  have F0' := F
  obtain ⟨f1, f2, f3, f4, f5, f6, f7, f8, f9, f10, f11, f12⟩ := F
  have hlk := h1.2.2.2.2.1
  have hat := hw.2 _ _ hb
  have hcl : ∃ r, vwCl[M1.2.2.2.2.1]? = some r ∧ r.1 = M1.1.cls := by
    rcases okY.2.2.2.2.2 with h9 | h9
    · obtain ⟨r, hr, -⟩ := hat
      rw [h9] at hr
      cases hr
    · cases hr : vwCl[M1.2.2.2.2.1]? with
      | none => rw [hr] at h9; cases h9
      | some r => rw [hr] at h9; exact ⟨r, rfl, Option.some.inj h9⟩
  obtain ⟨r, hr, hrn⟩ := hcl
  have hrec := va_recv f9.1 (ab_one hat) (q0 := 0) hr rfl
  rw [hrn] at hrec
  exact ab_run (va_runV (As := As.map (ab_v G)) (b := G.2.1 + b) (rest := rest.map (ab_v G)) ⟨f1, f2, f3, f4, f8⟩ (ab_met okY okT hAs hC) ⟨ab_cB okY f8 (hlk _ List.mem_cons_self) f11 f12, f8 _ (hlk _ (List.mem_cons_of_mem _ List.mem_cons_self)), f8 _ (hlk _ (List.mem_cons_of_mem _ (List.mem_cons_of_mem _ List.mem_cons_self)))⟩ ⟨ab_blind, hrec, ab_pre (As := .ref b :: As) f9 f10 hw hS⟩ rfl ((List.length_map _).trans hn) hl.1 (by simp [List.map_append, List.map_reverse, ab_v]) (lv_room (by rw [ab_sum]; exact hrs)) hd ⟨by omega, by omega⟩) hS
    (fun r h' H1 locs1 hq hw1 hS1 => kk r h' hq ok p e R s m args below meth c Z F0' hend H1 locs1 (cells + kc1) (slots + ks1) ls hw1 hS1 (by omega) (by omega) hl)
/-- a call of a static method -/
theorem r_callS {M1 : ab_M} {i kc1 ks1 : Nat} {Q1 : Option Value → ab_H → Prop} (As rest : List Value) (ho : ab_op M pc = some (.invokestatic i, n, 0, y, cv, M1.1)) (okY : ab_okY M1) (okT : ab_okT M1) (hst : st = As.reverse ++ rest) (hn : As.length = M1.2.2.2.2.2.1) (hAs : (lg_sl As).length ≤ M1.2.2.1) (hrs : (rest.map fun v => v.category).sum ≤ 8)
    (hC : ab_C G d kc1 ks1 M1 0 (ab_ent As) [] h Q1) (kk : ∀ r h', Q1 r h' → ab_C G (d + 1) kc ks M n L (r.toList ++ rest) h' Q) : ab_C G (d + 1) (kc + kc1) (ks + ks1) M pc L st h Q := by
  intro ok p e R s m args below meth c Z F hend H locs cells slots ls hw hS hc hs hl
  have h1 := ok _ _ ho
  have hn' : pc + 3 = n := h1.2.1
  have hd := ab_dc 3 h1 hn'
  subst hn'
  subst hst
  have F0' := F
  obtain ⟨f1, f2, f3, f4, f5, f6, f7, f8, f9, f10, f11, f12⟩ := F
  have hlk := h1.2.2.2.2.1
  exact ab_run (va_runS (As := As.map (ab_v G)) (rest := rest.map (ab_v G)) ⟨f1, f2, f3, f4, f8⟩ (ab_met okY okT hAs hC) ⟨ab_cB okY f8 (hlk _ List.mem_cons_self) f11 f12, f8 _ (hlk _ (List.mem_cons_of_mem _ List.mem_cons_self))⟩ ⟨ab_blind, ab_pre f9 f10 hw hS⟩ rfl ((List.length_map _).trans hn) hl.1 (by simp [List.map_append, List.map_reverse, ab_v]) (lv_room (by rw [ab_sum]; exact hrs)) hd ⟨by omega, by omega⟩) hS
    (fun r h' H1 locs1 hq hw1 hS1 => kk r h' hq ok p e R s m args below meth c Z F0' hend H1 locs1 (cells + kc1) (slots + ks1) ls hw1 hS1 (by omega) (by omega) hl)
/-- a call of a nest mate's private static method -/
theorem r_callSN {M1 : ab_M} {i kc1 ks1 : Nat} {Q1 : Option Value → ab_H → Prop} (As rest : List Value) (ho : ab_op M pc = some (.invokestatic i, n, 1, y, cv, M1.1)) (okY : ab_okY M1) (okT : ab_okT M1) (hst : st = As.reverse ++ rest) (hn : As.length = M1.2.2.2.2.2.1) (hAs : (lg_sl As).length ≤ M1.2.2.1) (hrs : (rest.map fun v => v.category).sum ≤ 8)
    (hC : ab_C G d kc1 ks1 M1 0 (ab_ent As) [] h Q1) (kk : ∀ r h', Q1 r h' → ab_C G (d + 1) kc ks M n L (r.toList ++ rest) h' Q) : ab_C G (d + 1) (kc + kc1) (ks + ks1) M pc L st h Q := by
  intro ok p e R s m args below meth c Z F hend H locs cells slots ls hw hS hc hs hl
  have h1 := ok _ _ ho
  have hn' : pc + 3 = n := h1.2.1
  have hd := ab_dc 3 h1 hn'
  subst hn'
  subst hst
  have F0' := F
  obtain ⟨f1, f2, f3, f4, f5, f6, f7, f8, f9, f10, f11, f12⟩ := F
  have hlk := h1.2.2.2.2.1
  exact ab_run (va_runSN (As := As.map (ab_v G)) (rest := rest.map (ab_v G)) ⟨f1, f2, f3, f4, f8⟩ (ab_met okY okT hAs hC) ⟨ab_cN okY f8 (f9.2.1 _ (h1.2.2.2.2.2 _ List.mem_cons_self)) f11 f12, f8 _ (hlk _ List.mem_cons_self), trivial⟩ ⟨ab_blind, ab_pre f9 f10 hw hS⟩ rfl ((List.length_map _).trans hn) hl.1 (by simp [List.map_append, List.map_reverse, ab_v]) (lv_room (by rw [ab_sum]; exact hrs)) hd ⟨by omega, by omega⟩) hS
    (fun r h' H1 locs1 hq hw1 hS1 => kk r h' hq ok p e R s m args below meth c Z F0' hend H1 locs1 (cells + kc1) (slots + ks1) ls hw1 hS1 (by omega) (by omega) hl)
/-- a constructor -/
theorem r_callI {M1 : ab_M} {i kc1 ks1 b : Nat} {Q1 : Option Value → ab_H → Prop} (As rest : List Value) (ho : ab_op M pc = some (.invokespecial i, n, 0, y, cv, M1.1)) (okY : ab_okY M1) (okT : ab_okT M1) (hin : M1.1.name = "<init>") (hrt : M1.2.2.2.1 = none) (hst : st = As.reverse ++ .ref b :: rest) (hn : As.length = M1.2.2.2.2.2.1) (hAs : (lg_sl (.ref b :: As)).length ≤ M1.2.2.1) (hrs : (rest.map fun v => v.category).sum ≤ 8)
    (hC : ab_C G d kc1 ks1 M1 0 (ab_ent (.ref b :: As)) [] h Q1) (kk : ∀ r h', Q1 r h' → ab_C G (d + 1) kc ks M n L (r.toList ++ rest) h' Q) : ab_C G (d + 1) (kc + kc1) (ks + ks1) M pc L st h Q := by
  intro ok p e R s m args below meth c Z F hend H locs cells slots ls hw hS hc hs hl
  have h1 := ok _ _ ho
  have hn' : pc + 3 = n := h1.2.1
  have hd := ab_dc 3 h1 hn'
  subst hn'
  subst hst
  have F0' := F
  obtain ⟨f1, f2, f3, f4, f5, f6, f7, f8, f9, f10, f11, f12⟩ := F
  have hlk := h1.2.2.2.2.1
  have hcb := ab_cB (M := M) (kc1 := kc1) (ks1 := ks1) okY f8 (hlk _ List.mem_cons_self) f11 f12
  rw [hrt] at hcb
  exact ab_run (va_runI (As := As.map (ab_v G)) (b := G.2.1 + b) (rest := rest.map (ab_v G)) ⟨f1, f2, f3, f4, f8⟩ (ab_met okY okT hAs hC) ⟨hcb, hin, f8 _ (hlk _ (List.mem_cons_of_mem _ List.mem_cons_self))⟩ ⟨ab_blind, ab_pre (As := .ref b :: As) f9 f10 hw hS⟩ rfl ((List.length_map _).trans hn) hl.1 (by simp [List.map_append, List.map_reverse, ab_v]) (lv_room (by rw [ab_sum]; exact hrs)) hd ⟨by omega, by omega⟩) hS
    (fun r h' H1 locs1 hq hw1 hS1 => kk r h' hq ok p e R s m args below meth c Z F0' hend H1 locs1 (cells + kc1) (slots + ks1) ls hw1 hS1 (by omega) (by omega) hl)
theorem r_callIN {M1 : ab_M} {i kc1 ks1 b : Nat} {Q1 : Option Value → ab_H → Prop} (As rest : List Value) (ho : ab_op M pc = some (.invokespecial i, n, 1, y, cv, M1.1)) (okY : ab_okY M1) (okT : ab_okT M1) (hin : M1.1.name = "<init>") (hrt : M1.2.2.2.1 = none) (hst : st = As.reverse ++ .ref b :: rest) (hn : As.length = M1.2.2.2.2.2.1) (hAs : (lg_sl (.ref b :: As)).length ≤ M1.2.2.1) (hrs : (rest.map fun v => v.category).sum ≤ 8)
    (hC : ab_C G d kc1 ks1 M1 0 (ab_ent (.ref b :: As)) [] h Q1) (kk : ∀ r h', Q1 r h' → ab_C G (d + 1) kc ks M n L (r.toList ++ rest) h' Q) : ab_C G (d + 1) (kc + kc1) (ks + ks1) M pc L st h Q := by
  intro ok p e R s m args below meth c Z F hend H locs cells slots ls hw hS hc hs hl
  have h1 := ok _ _ ho
  have hn' : pc + 3 = n := h1.2.1
  have hd := ab_dc 3 h1 hn'
  subst hn'
  subst hst
  have F0' := F
  obtain ⟨f1, f2, f3, f4, f5, f6, f7, f8, f9, f10, f11, f12⟩ := F
  have hlk := h1.2.2.2.2.1
  have hcb := ab_cN (M := M) (kc1 := kc1) (ks1 := ks1) okY f8 (f9.2.1 _ (h1.2.2.2.2.2 _ List.mem_cons_self)) f11 f12
  rw [hrt] at hcb
  exact ab_run (va_runIN (As := As.map (ab_v G)) (b := G.2.1 + b) (rest := rest.map (ab_v G)) ⟨f1, f2, f3, f4, f8⟩ (ab_met okY okT hAs hC) ⟨hcb, hin, f8 _ (hlk _ List.mem_cons_self)⟩ ⟨ab_blind, ab_pre (As := .ref b :: As) f9 f10 hw hS⟩ rfl ((List.length_map _).trans hn) hl.1 (by simp [List.map_append, List.map_reverse, ab_v]) (lv_room (by rw [ab_sum]; exact hrs)) hd ⟨by omega, by omega⟩) hS
    (fun r h' H1 locs1 hq hw1 hS1 => kk r h' hq ok p e R s m args below meth c Z F0' hend H1 locs1 (cells + kc1) (slots + ks1) ls hw1 hS1 (by omega) (by omega) hl)
end ab_calls
