def hg (C : Nat → (Nat → Int32) → (Nat → Int64) → Option ab_E) (N : Nat) (s : fl_I) (l : fl_L) : ab_H := (fun q => C q (s q) (l q), N)
theorem hg_u {C : Nat → (Nat → Int32) → (Nat → Int64) → Option ab_E} {N : Nat} {s : fl_I} {l : fl_L} {q : Nat} {f : Nat → Int32} {e : ab_E} (h : C q f (l q) = some e) : ab_u (hg C N s l) q e = hg C N (su s q f) l := by
  unfold ab_u hg
  congr 1
  funext j
  by_cases hj : j = q
  · subst hj; rw [if_pos rfl, su_same]; exact h.symm
  · rw [if_neg hj, su_ne _ _ hj]
theorem hg_l {C : Nat → (Nat → Int32) → (Nat → Int64) → Option ab_E} {N : Nat} {s : fl_I} {l : fl_L} {q : Nat} {g : Nat → Int64} {e : ab_E} (h : C q (s q) g = some e) : ab_u (hg C N s l) q e = hg C N s (sl l q g) := by
  unfold ab_u hg
  congr 1
  funext j
  by_cases hj : j = q
  · subst hj; rw [if_pos rfl, sl_same]; exact h.symm
  · rw [if_neg hj, sl_ne _ _ hj]

section gn_rules
variable {G : ab_G} {d kc ks : Nat} {M : ab_M} {pc n x y : Nat} {cv : Value} {nm : MethodName} {L : List (Option Value)} {st : List Value} {C : Nat → (Nat → Int32) → (Nat → Int64) → Option ab_E} {N : Nat} {s : fl_I} {l : fl_L} {Q : Option Value → ab_H → Prop}
theorem gw_iast {q z : Nat} {i w : Int32} (ho : ab_op M pc = some (.iastore, n, x, y, cv, nm)) (hc : ∀ f g, C q f g = some (.inl (0, z, .inl f))) (hi : vp_in i z) (k : ab_C G d kc ks M n L st (hg C N (wi s q i.toNatClampNeg w) l) Q) : ab_C G d kc ks M pc L (.int w :: .int i :: .ref q :: st) (hg C N s l) Q := by
  refine r_iast ho (hc (s q) (l q)) hi ?_
  rw [hg_u (f := upd (s q) i.toNatClampNeg w) (hc _ _)]
  exact k
theorem gw_bast {q z : Nat} {i w : Int32} (ho : ab_op M pc = some (.bastore, n, x, y, cv, nm)) (hc : ∀ f g, C q f g = some (.inl (2, z, .inl f))) (hi : vp_in i z) (k : ab_C G d kc ks M n L st (hg C N (wi s q i.toNatClampNeg (vp_nar .byte w)) l) Q) : ab_C G d kc ks M pc L (.int w :: .int i :: .ref q :: st) (hg C N s l) Q := by
  refine r_bast ho (hc (s q) (l q)) hi ?_
  rw [hg_u (f := upd (s q) i.toNatClampNeg (vp_nar .byte w)) (hc _ _)]
  exact k
theorem gw_zast {q z : Nat} {i w : Int32} (ho : ab_op M pc = some (.bastore, n, x, y, cv, nm)) (hc : ∀ f g, C q f g = some (.inl (3, z, .inl f))) (hi : vp_in i z) (k : ab_C G d kc ks M n L st (hg C N (wi s q i.toNatClampNeg (vp_nar .boolean w)) l) Q) : ab_C G d kc ks M pc L (.int w :: .int i :: .ref q :: st) (hg C N s l) Q := by
  refine r_zast ho (hc (s q) (l q)) hi ?_
  rw [hg_u (f := upd (s q) i.toNatClampNeg (vp_nar .boolean w)) (hc _ _)]
  exact k
theorem gw_last {q z : Nat} {i : Int32} {w : Int64} (ho : ab_op M pc = some (.lastore, n, x, y, cv, nm)) (hc : ∀ f g, C q f g = some (.inl (1, z, .inr (.inl g)))) (hi : vp_in i z) (k : ab_C G d kc ks M n L st (hg C N s (wl l q i.toNatClampNeg w)) Q) : ab_C G d kc ks M pc L (.long w :: .int i :: .ref q :: st) (hg C N s l) Q := by
  refine r_last ho (hc (s q) (l q)) hi ?_
  rw [hg_l (g := vp_updL (l q) i.toNatClampNeg w) (hc _ _)]
  exact k
theorem gw_copy {i q0 q z0 z1 : Nat} {sp dp w : Int32} (ho : ab_op M pc = some (.invokestatic i, n, 0, y, cv, arraycopyName)) (h0 : ∀ f g, C q0 f g = some (.inl (0, z0, .inl f))) (h1 : ∀ f g, C q f g = some (.inl (0, z1, .inl f))) (g1 : ¬ sp < 0) (g2 : ¬ dp < 0) (g3 : ¬ w < 0) (g4 : sp.toNatClampNeg + w.toNatClampNeg ≤ z0) (g5 : dp.toNatClampNeg + w.toNatClampNeg ≤ z1) (hrs : (st.map fun v => v.category).sum ≤ 8)
    (k : ab_C G d kc ks M n L st (hg C N (wc s q0 q sp.toNatClampNeg dp.toNatClampNeg w.toNatClampNeg) l) Q) : ab_C G d kc ks M pc L (.int w :: .int dp :: .ref q :: .int sp :: .ref q0 :: st) (hg C N s l) Q := by
  refine r_copy ho (h0 (s q0) (l q0)) (h1 (s q) (l q)) g1 g2 g3 g4 g5 hrs ?_
  rw [hg_u (f := va_cpy (s q0) (s q) sp.toNatClampNeg dp.toNatClampNeg w.toNatClampNeg) (h1 _ _)]
  exact k
/-- a number put into a field -/
theorem gw_put {q i : Nat} {w : Int32} {fl : (Nat → Int32) → (Nat → Int64) → List Value} (ho : ab_op M pc = some (.putfield i, n, x, y, cv, nm)) (hc : ∀ f g, C q f g = some (.inr (x, fl f g))) (hfin : ab_fin x y = false) (hty : ab_ty x y = .int) (hlen : ∀ f g, y < (fl f g).length) (hset : ∀ f g, (fl f g).set y (.int w) = fl (upd f y w) g) (k : ab_C G d kc ks M n L st (hg C N (wi s q y w) l) Q) : ab_C G d kc ks M pc L (.int w :: .ref q :: st) (hg C N s l) Q := by
  refine r_putfield ho (hc (s q) (l q)) hfin hty rfl rfl (hlen _ _) (hset _ _) ?_
  rw [hg_u (f := upd (s q) y w) (hc _ _)]
  exact k
theorem gw_putZ {q i : Nat} {w : Int32} {fl : (Nat → Int32) → (Nat → Int64) → List Value} (ho : ab_op M pc = some (.putfield i, n, x, y, cv, nm)) (hc : ∀ f g, C q f g = some (.inr (x, fl f g))) (hfin : ab_fin x y = false) (hty : ab_ty x y = .boolean) (hw : w = 0 ∨ w = 1) (hlen : ∀ f g, y < (fl f g).length) (hset : ∀ f g, (fl f g).set y (.int w) = fl (upd f y w) g) (k : ab_C G d kc ks M n L st (hg C N (wi s q y w) l) Q) : ab_C G d kc ks M pc L (.int w :: .ref q :: st) (hg C N s l) Q := by
  refine r_putfield ho (hc (s q) (l q)) hfin hty ?_ ?_ (hlen _ _) (hset _ _) ?_
  · rcases hw with rfl | rfl <;> rfl
  · rcases hw with rfl | rfl <;> rfl
  rw [hg_u (f := upd (s q) y w) (hc _ _)]
  exact k
theorem gw_putL {q i : Nat} {w : Int64} {fl : (Nat → Int32) → (Nat → Int64) → List Value} (ho : ab_op M pc = some (.putfield i, n, x, y, cv, nm)) (hc : ∀ f g, C q f g = some (.inr (x, fl f g))) (hfin : ab_fin x y = false) (hty : ab_ty x y = .long) (hlen : ∀ f g, y < (fl f g).length) (hset : ∀ f g, (fl f g).set y (.long w) = fl f (vp_updL g y w)) (k : ab_C G d kc ks M n L st (hg C N s (wl l q y w)) Q) : ab_C G d kc ks M pc L (.long w :: .ref q :: st) (hg C N s l) Q := by
  refine r_putfield ho (hc (s q) (l q)) hfin hty rfl rfl (hlen _ _) (hset _ _) ?_
  rw [hg_l (g := vp_updL (l q) y w) (hc _ _)]
  exact k
theorem gq_getfield {q i : Nat} {v : Value} {fl : (Nat → Int32) → (Nat → Int64) → List Value} (ho : ab_op M pc = some (.getfield i, n, x, y, cv, nm)) (hc : ∀ f g, C q f g = some (.inr (x, fl f g))) (hv : (fl (s q) (l q))[y]? = some v) (k : ab_C G d kc ks M n L (v :: st) (hg C N s l) Q) : ab_C G d kc ks M pc L (.ref q :: st) (hg C N s l) Q := r_getfield ho (hc (s q) (l q)) hv k
theorem gq_iald {q z : Nat} {i : Int32} (ho : ab_op M pc = some (.iaload, n, x, y, cv, nm)) (hc : ∀ f g, C q f g = some (.inl (0, z, .inl f))) (hi : vp_in i z) (k : ab_C G d kc ks M n L (.int (s q i.toNatClampNeg) :: st) (hg C N s l) Q) : ab_C G d kc ks M pc L (.int i :: .ref q :: st) (hg C N s l) Q := r_iald ho (hc (s q) (l q)) hi k
theorem gq_bald {q z : Nat} {i : Int32} (ho : ab_op M pc = some (.baload, n, x, y, cv, nm)) (hc : ∀ f g, C q f g = some (.inl (2, z, .inl f))) (hi : vp_in i z) (k : ab_C G d kc ks M n L (.int (s q i.toNatClampNeg) :: st) (hg C N s l) Q) : ab_C G d kc ks M pc L (.int i :: .ref q :: st) (hg C N s l) Q := r_bald ho (hc (s q) (l q)) hi k
theorem gq_zald {q z : Nat} {i : Int32} (ho : ab_op M pc = some (.baload, n, x, y, cv, nm)) (hc : ∀ f g, C q f g = some (.inl (3, z, .inl f))) (hi : vp_in i z) (k : ab_C G d kc ks M n L (.int (s q i.toNatClampNeg) :: st) (hg C N s l) Q) : ab_C G d kc ks M pc L (.int i :: .ref q :: st) (hg C N s l) Q := r_zald ho (hc (s q) (l q)) hi k
theorem gq_lald {q z : Nat} {i : Int32} (ho : ab_op M pc = some (.laload, n, x, y, cv, nm)) (hc : ∀ f g, C q f g = some (.inl (1, z, .inr (.inl g)))) (hi : vp_in i z) (k : ab_C G d kc ks M n L (.long (l q i.toNatClampNeg) :: st) (hg C N s l) Q) : ab_C G d kc ks M pc L (.int i :: .ref q :: st) (hg C N s l) Q := r_lald ho (hc (s q) (l q)) hi k
theorem gq_aald {q z : Nat} {i : Int32} {f : Nat → Option Nat} (ho : ab_op M pc = some (.aaload, n, x, y, cv, nm)) (hc : ∀ u g, C q u g = some (.inl (4, z, .inr (.inr (.inr (.inr f)))))) (hi : vp_in i z) (k : ab_C G d kc ks M n L (va_rf (f i.toNatClampNeg) :: st) (hg C N s l) Q) : ab_C G d kc ks M pc L (.int i :: .ref q :: st) (hg C N s l) Q := r_aald ho (hc (s q) (l q)) hi k
theorem gq_alen {q kd z : Nat} {w : (Nat → Int32) → (Nat → Int64) → ((Nat → Int32) ⊕ (Nat → Int64) ⊕ (Nat → UInt32) ⊕ (Nat → UInt64) ⊕ (Nat → Option Nat))} {v : Int32} (ho : ab_op M pc = some (.arraylength, n, x, y, cv, nm)) (hc : ∀ f g, C q f g = some (.inl (kd, z, w f g))) (hkd : kd < 5) (hv : Int32.ofNat z = v) (k : ab_C G d kc ks M n L (.int v :: st) (hg C N s l) Q) : ab_C G d kc ks M pc L (.ref q :: st) (hg C N s l) Q := r_alen ho (hc (s q) (l q)) hkd hv k
end gn_rules
theorem fin_iG {C : Nat → (Nat → Int32) → (Nat → Int64) → Option ab_E} {N : Nat} {v : Int32} {s : fl_I} {l : fl_L} {res : Int32 × fl_I × fl_L} (he : (v, s, l) = res) : rt (some (.int res.1)) (hg C N res.2.1 res.2.2) (some (.int v)) (hg C N s l) := by subst he; exact ⟨rfl, rfl⟩
theorem fin_lG {C : Nat → (Nat → Int32) → (Nat → Int64) → Option ab_E} {N : Nat} {v : Int64} {s : fl_I} {l : fl_L} {res : Int64 × fl_I × fl_L} (he : (v, s, l) = res) : rt (some (.long res.1)) (hg C N res.2.1 res.2.2) (some (.long v)) (hg C N s l) := by subst he; exact ⟨rfl, rfl⟩
theorem fin_vG {C : Nat → (Nat → Int32) → (Nat → Int64) → Option ab_E} {N : Nat} {s : fl_I} {l : fl_L} {res : fl_I × fl_L} (he : (s, l) = res) : rt none (hg C N res.1 res.2) none (hg C N s l) := by subst he; exact ⟨rfl, rfl⟩
theorem gq_callV0 {G : ab_G} {d kc ks : Nat} {M : ab_M} {pc n x y : Nat} {cv : Value} {L : List (Option Value)} {st : List Value} {Q : Option Value → ab_H → Prop} {C : Nat → (Nat → Int32) → (Nat → Int64) → Option ab_E} {N : Nat} {s : fl_I} {l : fl_L} {M1 : ab_M} {i b : Nat} {fl : (Nat → Int32) → (Nat → Int64) → List Value} {Q1 : Option Value → ab_H → Prop} (As rest : List Value) (ho : ab_op M pc = some (.invokevirtual i, n, x, y, cv, M1.1)) (okY : ab_okY M1) (okT : ab_okT M1) (hst : st = As.reverse ++ .ref b :: rest) (hn : As.length = M1.2.2.2.2.2.1) (hAs : (lg_sl (.ref b :: As)).length ≤ M1.2.2.1) (hrs : (rest.map fun v => v.category).sum ≤ 8)
    (hc : ∀ f g, C b f g = some (.inr (M1.2.2.2.2.1, fl f g))) (hC : ab_C G d 0 0 M1 0 (ab_ent (.ref b :: As)) [] (hg C N s l) Q1) (kk : ∀ r h', Q1 r h' → ab_C G (d + 1) kc ks M n L (r.toList ++ rest) h' Q) : ab_C G (d + 1) kc ks M pc L st (hg C N s l) Q :=
  r_callV0 As rest ho okY okT hst hn hAs hrs (hc (s b) (l b)) hC kk

set_option maxRecDepth 100000 in
set_option maxHeartbeats 4000000 in
theorem lp_fillG {G : ab_G} {d : Nat} {C : Nat → (Nat → Int32) → (Nat → Int64) → Option ab_E} {N : Nat} {s : fl_I} {l : fl_L} {q z : Nat} {v : Int32} (hc : ∀ f g, C q f g = some (.inl (0, z, .inl f))) (hz : z < 2 ^ 30) : ∀ (k n : Nat), n ≤ z → z < n + k → ab_C G d 0 0 M_J7_fill_53178 5 [some (.ref q), some (.int v), some (.int (nI n)), some (.int (nI z))] [] (hg C N (su s q (fun j => if j < n then v else s q j)) l) (rt none (hg C N (su s q (fun j => if j < z then v else s q j)) l)) := by
  intro k
  induction k with
  | zero => intro n h1 h2; omega
  | succ k ih =>
    intro n h1 h2
    refine r_iload_n rfl rfl ?_
    refine r_iload_n rfl rfl ?_
    refine r_icmp_ge rfl (fun c_7 => ?_) (fun c_7 => ?_)
    · refine r_ret rfl rfl ?_
      have e2 : n = z := by have := nI_le_of c_7; omega
      subst e2
      exact ⟨rfl, rfl⟩
    · refine r_aload_n rfl rfl ?_
      refine r_iload_n rfl rfl ?_
      refine r_iload_n rfl rfl ?_
      refine gw_iast rfl hc (vp_in_nI (nI_lt_of c_7) (by omega)) ?_
      refine r_iinc rfl rfl (nI_1 n) (Nat.le_of_ble_eq_true rfl) rfl ?_
      refine r_goto rfl ?_
      have e1 : wi (su s q (fun j => if j < n then v else s q j)) q (nI n).toNatClampNeg v = su s q (fun j => if j < n + 1 then v else s q j) := by
        unfold wi
        rw [su_su, su_same, nI_clamp (by omega)]
        congr 1
        funext j
        unfold upd
        by_cases hj : j = n
        · simp [hj]
        · by_cases hj2 : j < n
          · simp [hj, hj2, Nat.lt_succ_of_lt hj2]
          · simp [hj, hj2, show ¬ j < n + 1 by omega]
      rw [e1]
      exact r_weak (L1 := [some (.ref q), some (.int v), some (.int (nI (n + 1))), some (.int (nI z))]) ⟨rfl, rfl, rfl, rfl, trivial⟩ (ih (n + 1) (nI_lt_of c_7) (by omega))

set_option maxRecDepth 100000 in
set_option maxHeartbeats 4000000 in
/-- Arrays.fill -/
theorem s_fillG {G : ab_G} {d : Nat} {C : Nat → (Nat → Int32) → (Nat → Int64) → Option ab_E} {N : Nat} {s : fl_I} {l : fl_L} {q z : Nat} {v : Int32} (hc : ∀ f g, C q f g = some (.inl (0, z, .inl f))) (hz : z < 2 ^ 30) : ab_C G d 0 0 M_J7_fill_53178 0 (ab_ent [.ref q, .int v]) [] (hg C N s l) (rt none (hg C N (fl_fill v q z s l).1 (fl_fill v q z s l).2)) := by
  refine r_weak (L1 := [some (.ref q), some (.int v), none, none]) ⟨rfl, rfl, trivial⟩ ?_
  refine r_iconst_ (a := 0) rfl (by decide) ?_
  refine r_istore_n rfl (Nat.le_of_ble_eq_true rfl) rfl ?_
  refine r_aload_n rfl rfl ?_
  refine gq_alen (v := nI z) rfl hc (Nat.le_of_ble_eq_true rfl) rfl ?_
  refine r_istore_n rfl (Nat.le_of_ble_eq_true rfl) rfl ?_
  have e0 : su s q (fun j => if j < 0 then v else s q j) = s := by
    funext j
    by_cases hj : j = q
    · subst hj; simp [su]
    · simp [su, hj]
  have h0 := lp_fillG (G := G) (d := d) (N := N) (s := s) (l := l) (v := v) hc hz (z + 1) 0 (by omega) (by omega)
  rw [e0] at h0
  refine r_weak ?_ h0
  exact ⟨rfl, rfl, rfl, rfl, trivial⟩

def gT (C : Nat → (Nat → Int32) → (Nat → Int64) → Option ab_E) (t : Nat) : Prop := (∀ f g, C t f g = some (.inr (5, [.int (f 0), .int (f 1), .int (f 2), .int (f 3), .ref (t + 1), .ref (t + 2), .ref (t + 3), .ref (t + 4), .ref (t + 5), .ref (t + 6), .ref (t + 7), .ref (t + 8), .ref (t + 9), .ref (t + 10), .int (f 14), .int (f 15), .int (f 16), .int (f 17), .int (f 18)]))) ∧ (∀ f g, C (t + 1) f g = some (.inl (1, 4, .inr (.inl g)))) ∧ (∀ f g, C (t + 2) f g = some (.inl (1, 8, .inr (.inl g)))) ∧ (∀ f g, C (t + 3) f g = some (.inl (1, 4, .inr (.inl g)))) ∧ (∀ f g, C (t + 4) f g = some (.inl (0, 32, .inl f))) ∧ (∀ f g, C (t + 5) f g = some (.inl (0, 32, .inl f))) ∧ (∀ f g, C (t + 6) f g = some (.inl (0, 32, .inl f))) ∧ (∀ f g, C (t + 7) f g = some (.inl (0, 4, .inl f))) ∧ (∀ f g, C (t + 8) f g = some (.inl (0, 4, .inl f))) ∧ (∀ f g, C (t + 9) f g = some (.inl (0, 408, .inl f))) ∧ (∀ f g, C (t + 10) f g = some (.inl (0, 3, .inl f)))
theorem gT_0 {C : Nat → (Nat → Int32) → (Nat → Int64) → Option ab_E} {t : Nat} (h : gT C t) (f : Nat → Int32) (g : Nat → Int64) : C t f g = some (.inr (5, [.int (f 0), .int (f 1), .int (f 2), .int (f 3), .ref (t + 1), .ref (t + 2), .ref (t + 3), .ref (t + 4), .ref (t + 5), .ref (t + 6), .ref (t + 7), .ref (t + 8), .ref (t + 9), .ref (t + 10), .int (f 14), .int (f 15), .int (f 16), .int (f 17), .int (f 18)])) := h.1 f g
theorem gT_1 {C : Nat → (Nat → Int32) → (Nat → Int64) → Option ab_E} {t : Nat} (h : gT C t) (f : Nat → Int32) (g : Nat → Int64) : C (t + 1) f g = some (.inl (1, 4, .inr (.inl g))) := h.2.1 f g
theorem gT_2 {C : Nat → (Nat → Int32) → (Nat → Int64) → Option ab_E} {t : Nat} (h : gT C t) (f : Nat → Int32) (g : Nat → Int64) : C (t + 2) f g = some (.inl (1, 8, .inr (.inl g))) := h.2.2.1 f g
theorem gT_3 {C : Nat → (Nat → Int32) → (Nat → Int64) → Option ab_E} {t : Nat} (h : gT C t) (f : Nat → Int32) (g : Nat → Int64) : C (t + 3) f g = some (.inl (1, 4, .inr (.inl g))) := h.2.2.2.1 f g
theorem gT_4 {C : Nat → (Nat → Int32) → (Nat → Int64) → Option ab_E} {t : Nat} (h : gT C t) (f : Nat → Int32) (g : Nat → Int64) : C (t + 4) f g = some (.inl (0, 32, .inl f)) := h.2.2.2.2.1 f g
theorem gT_5 {C : Nat → (Nat → Int32) → (Nat → Int64) → Option ab_E} {t : Nat} (h : gT C t) (f : Nat → Int32) (g : Nat → Int64) : C (t + 5) f g = some (.inl (0, 32, .inl f)) := h.2.2.2.2.2.1 f g
theorem gT_6 {C : Nat → (Nat → Int32) → (Nat → Int64) → Option ab_E} {t : Nat} (h : gT C t) (f : Nat → Int32) (g : Nat → Int64) : C (t + 6) f g = some (.inl (0, 32, .inl f)) := h.2.2.2.2.2.2.1 f g
theorem gT_7 {C : Nat → (Nat → Int32) → (Nat → Int64) → Option ab_E} {t : Nat} (h : gT C t) (f : Nat → Int32) (g : Nat → Int64) : C (t + 7) f g = some (.inl (0, 4, .inl f)) := h.2.2.2.2.2.2.2.1 f g
theorem gT_8 {C : Nat → (Nat → Int32) → (Nat → Int64) → Option ab_E} {t : Nat} (h : gT C t) (f : Nat → Int32) (g : Nat → Int64) : C (t + 8) f g = some (.inl (0, 4, .inl f)) := h.2.2.2.2.2.2.2.2.1 f g
theorem gT_9 {C : Nat → (Nat → Int32) → (Nat → Int64) → Option ab_E} {t : Nat} (h : gT C t) (f : Nat → Int32) (g : Nat → Int64) : C (t + 9) f g = some (.inl (0, 408, .inl f)) := h.2.2.2.2.2.2.2.2.2.1 f g
theorem gT_10 {C : Nat → (Nat → Int32) → (Nat → Int64) → Option ab_E} {t : Nat} (h : gT C t) (f : Nat → Int32) (g : Nat → Int64) : C (t + 10) f g = some (.inl (0, 3, .inl f)) := h.2.2.2.2.2.2.2.2.2.2 f g
def gY (C : Nat → (Nat → Int32) → (Nat → Int64) → Option ab_E) (a : Nat) : Prop := (∀ f g, C a f g = some (.inr (10, [.int (f 0), .int (f 1), .int (f 2), .ref (a + 1), .ref (a + 2), .ref (a + 3), .ref (a + 4), .ref (a + 5)]))) ∧ (∀ f g, C (a + 1) f g = some (.inl (0, 32, .inl f))) ∧ (∀ f g, C (a + 2) f g = some (.inl (0, 32, .inl f))) ∧ (∀ f g, C (a + 3) f g = some (.inl (0, 4, .inl f))) ∧ (∀ f g, C (a + 4) f g = some (.inl (0, 4, .inl f))) ∧ (∀ f g, C (a + 5) f g = some (.inl (0, 4, .inl f)))
theorem gY_0 {C : Nat → (Nat → Int32) → (Nat → Int64) → Option ab_E} {a : Nat} (h : gY C a) (f : Nat → Int32) (g : Nat → Int64) : C a f g = some (.inr (10, [.int (f 0), .int (f 1), .int (f 2), .ref (a + 1), .ref (a + 2), .ref (a + 3), .ref (a + 4), .ref (a + 5)])) := h.1 f g
theorem gY_1 {C : Nat → (Nat → Int32) → (Nat → Int64) → Option ab_E} {a : Nat} (h : gY C a) (f : Nat → Int32) (g : Nat → Int64) : C (a + 1) f g = some (.inl (0, 32, .inl f)) := h.2.1 f g
theorem gY_2 {C : Nat → (Nat → Int32) → (Nat → Int64) → Option ab_E} {a : Nat} (h : gY C a) (f : Nat → Int32) (g : Nat → Int64) : C (a + 2) f g = some (.inl (0, 32, .inl f)) := h.2.2.1 f g
theorem gY_3 {C : Nat → (Nat → Int32) → (Nat → Int64) → Option ab_E} {a : Nat} (h : gY C a) (f : Nat → Int32) (g : Nat → Int64) : C (a + 3) f g = some (.inl (0, 4, .inl f)) := h.2.2.2.1 f g
theorem gY_4 {C : Nat → (Nat → Int32) → (Nat → Int64) → Option ab_E} {a : Nat} (h : gY C a) (f : Nat → Int32) (g : Nat → Int64) : C (a + 4) f g = some (.inl (0, 4, .inl f)) := h.2.2.2.2.1 f g
theorem gY_5 {C : Nat → (Nat → Int32) → (Nat → Int64) → Option ab_E} {a : Nat} (h : gY C a) (f : Nat → Int32) (g : Nat → Int64) : C (a + 5) f g = some (.inl (0, 4, .inl f)) := h.2.2.2.2.2 f g
set_option maxRecDepth 100000 in
set_option maxHeartbeats 1000000 in
theorem sg_X5_addCode {G : ab_G} {fu : Nat} {d : Nat} {C : Nat → (Nat → Int32) → (Nat → Int64) → Option ab_E} {N : Nat} {s : fl_I} {l : fl_L} {t : Nat} (htt : gT C t) {v0 : Int32} (hk : p_X5_addCode fu v0 t s l) : ab_C G d 0 0 M_X5_addCode 0 (ab_ent [.ref t, .int v0]) [] (hg C N s l) (rt none (hg C N (f_X5_addCode fu v0 t s l).1 (f_X5_addCode fu v0 t s l).2)) := by
  generalize he : (f_X5_addCode fu v0 t s l) = res
  unfold f_X5_addCode at he
  unfold p_X5_addCode at hk
  refine r_weak (L1 := [some (.ref t), some (.int v0)]) ⟨rfl, rfl, trivial⟩ ?_
  refine r_aload_n rfl rfl ?_
  refine gq_getfield rfl (gT_0 htt) rfl ?_
  refine r_if_lt rfl (fun c_4 => ?_) (fun c_4 => ?_)
  · rw [if_pos c_4] at he
    replace hk := hk.1 c_4
    refine r_ret rfl rfl ?_
    first | with_reducible exact fin_vG he | exact fin_vG he
  · rw [if_neg c_4] at he
    replace hk := hk.2 c_4
    refine r_aload_n rfl rfl ?_
    refine gq_getfield rfl (gT_0 htt) rfl ?_
    refine r_sipush_ (a := 408) rfl (by decide) ?_
    refine r_icmp_ge rfl (fun c_14 => ?_) (fun c_14 => ?_)
    · rw [if_pos c_14] at he
      replace hk := hk.1 c_14
      refine r_ret rfl rfl ?_
      first | with_reducible exact fin_vG he | exact fin_vG he
    · rw [if_neg c_14] at he
      replace hk := hk.2 c_14
      refine r_aload_n rfl rfl ?_
      refine gq_getfield rfl (gT_0 htt) rfl ?_
      refine r_aload_n rfl rfl ?_
      refine gq_getfield rfl (gT_0 htt) rfl ?_
      refine r_iload_n rfl rfl ?_
      obtain ⟨hb0, hk⟩ := hk
      refine gw_iast rfl (gT_9 htt) hb0 ?_
      refine r_aload_n rfl rfl ?_
      refine r_dup rfl rfl ?_
      refine gq_getfield rfl (gT_0 htt) rfl ?_
      refine r_iconst_ (a := 1) rfl (by decide) ?_
      refine r_iadd rfl ?_
      refine gw_put rfl (gT_0 htt) ff_5_14 ft_5_14 (fun _ _ => (Nat.le_of_ble_eq_true rfl)) (fun _ _ => rfl) ?_
      refine r_ret rfl rfl ?_
      first | with_reducible exact fin_vG he | exact fin_vG he

set_option maxRecDepth 100000 in
set_option maxHeartbeats 1000000 in
theorem lpg_X5_clear_97 {G : ab_G} {fu : Nat} {d : Nat} {C : Nat → (Nat → Int32) → (Nat → Int64) → Option ab_E} {N : Nat} {t : Nat} (htt : gT C t) : ∀ (s : fl_I) (l : fl_L), p_X5_clear_97 fu  t s l → ab_C G (d + 1) 0 0 M_X5_clear 97 [none] [] (hg C N s l) (rt none (hg C N (f_X5_clear_97 fu  t s l).1 (f_X5_clear_97 fu  t s l).2)) := by
  intro  s l hk
  generalize he : f_X5_clear_97 fu  t s l = res
  unfold f_X5_clear_97 at he
  unfold p_X5_clear_97 at hk
  refine r_ret rfl rfl ?_
  first | with_reducible exact fin_vG he | exact fin_vG he

set_option maxRecDepth 100000 in
set_option maxHeartbeats 1000000 in
theorem lpg_X5_clear_91 {G : ab_G} {fu : Nat} {d : Nat} {C : Nat → (Nat → Int32) → (Nat → Int64) → Option ab_E} {N : Nat} {t : Nat} (htt : gT C t) : ∀ (s : fl_I) (l : fl_L), p_X5_clear_91 fu  t s l → ab_C G (d + 1) 0 0 M_X5_clear 91 [some (.ref t)] [] (hg C N s l) (rt none (hg C N (f_X5_clear_91 fu  t s l).1 (f_X5_clear_91 fu  t s l).2)) := by
  intro  s l hk
  generalize he : f_X5_clear_91 fu  t s l = res
  unfold f_X5_clear_91 at he
  unfold p_X5_clear_91 at hk
  refine r_aload_n rfl rfl ?_
  refine r_bipush_ (a := -6) rfl (by decide) ?_
  obtain ⟨hb3, hk⟩ := hk
  refine gq_callV0 [_] _ rfl kY_X5_addCode kT_X5_addCode rfl rfl (Nat.le_of_ble_eq_true rfl) (Nat.le_of_ble_eq_true rfl) (gT_0 htt) (sg_X5_addCode htt hb3) (fun r h q => ?_)
  obtain ⟨rfl, rfl⟩ := q
  simp only [Option.toList, List.cons_append, List.nil_append]
  subst he
  exact r_weak (L1 := [none]) trivial (lpg_X5_clear_97 htt _ _ hk)

set_option maxRecDepth 100000 in
set_option maxHeartbeats 1000000 in
theorem lpg_X5_clear_66 {G : ab_G} {fu : Nat} {d : Nat} {C : Nat → (Nat → Int32) → (Nat → Int64) → Option ab_E} {N : Nat} {t : Nat} (htt : gT C t) : ∀ (s : fl_I) (l : fl_L), p_X5_clear_66 fu  t s l → ab_C G (d + 1) 0 0 M_X5_clear 66 [some (.ref t)] [] (hg C N s l) (rt none (hg C N (f_X5_clear_66 fu  t s l).1 (f_X5_clear_66 fu  t s l).2)) := by
  intro  s l hk
  generalize he : f_X5_clear_66 fu  t s l = res
  unfold f_X5_clear_66 at he
  unfold p_X5_clear_66 at hk
  refine r_aload_n rfl rfl ?_
  refine gq_getfield rfl (gT_0 htt) rfl ?_
  refine r_iconst_ (a := 1) rfl (by decide) ?_
  refine r_aload_n rfl rfl ?_
  refine gq_getfield rfl (gT_0 htt) rfl ?_
  refine gw_iast rfl (gT_10 htt) (by unfold vp_in; decide) ?_
  refine r_aload_n rfl rfl ?_
  refine gq_getfield rfl (gT_0 htt) rfl ?_
  refine r_iconst_ (a := 2) rfl (by decide) ?_
  refine r_aload_n rfl rfl ?_
  refine gq_getfield rfl (gT_0 htt) rfl ?_
  refine gw_iast rfl (gT_10 htt) (by unfold vp_in; decide) ?_
  refine r_aload_n rfl rfl ?_
  refine r_iconst_ (a := 1) rfl (by decide) ?_
  obtain ⟨hb2, hk⟩ := hk
  refine gq_callV0 [_] _ rfl kY_X5_addCode kT_X5_addCode rfl rfl (Nat.le_of_ble_eq_true rfl) (Nat.le_of_ble_eq_true rfl) (gT_0 htt) (sg_X5_addCode htt hb2) (fun r h q => ?_)
  obtain ⟨rfl, rfl⟩ := q
  simp only [Option.toList, List.cons_append, List.nil_append]
  subst he
  exact r_weak (L1 := [some (.ref t)]) ⟨rfl, trivial⟩ (lpg_X5_clear_91 htt _ _ hk)

set_option maxRecDepth 100000 in
set_option maxHeartbeats 1000000 in
theorem lpg_X5_clear_60 {G : ab_G} {fu : Nat} {d : Nat} {C : Nat → (Nat → Int32) → (Nat → Int64) → Option ab_E} {N : Nat} {t : Nat} (htt : gT C t) : ∀ (s : fl_I) (l : fl_L), p_X5_clear_60 fu  t s l → ab_C G (d + 1) 0 0 M_X5_clear 60 [some (.ref t)] [] (hg C N s l) (rt none (hg C N (f_X5_clear_60 fu  t s l).1 (f_X5_clear_60 fu  t s l).2)) := by
  intro  s l hk
  generalize he : f_X5_clear_60 fu  t s l = res
  unfold f_X5_clear_60 at he
  unfold p_X5_clear_60 at hk
  refine r_aload_n rfl rfl ?_
  refine r_bipush_ (a := -6) rfl (by decide) ?_
  obtain ⟨hb1, hk⟩ := hk
  refine gq_callV0 [_] _ rfl kY_X5_addCode kT_X5_addCode rfl rfl (Nat.le_of_ble_eq_true rfl) (Nat.le_of_ble_eq_true rfl) (gT_0 htt) (sg_X5_addCode htt hb1) (fun r h q => ?_)
  obtain ⟨rfl, rfl⟩ := q
  simp only [Option.toList, List.cons_append, List.nil_append]
  subst he
  exact r_weak (L1 := [some (.ref t)]) ⟨rfl, trivial⟩ (lpg_X5_clear_66 htt _ _ hk)

set_option maxRecDepth 100000 in
set_option maxHeartbeats 1000000 in
theorem sg_X5_clear {G : ab_G} {fu : Nat} {d : Nat} {C : Nat → (Nat → Int32) → (Nat → Int64) → Option ab_E} {N : Nat} {s : fl_I} {l : fl_L} {t : Nat} (htt : gT C t)  (hk : p_X5_clear fu t s l) : ab_C G (d + 1) 0 0 M_X5_clear 0 (ab_ent [.ref t]) [] (hg C N s l) (rt none (hg C N (f_X5_clear fu t s l).1 (f_X5_clear fu t s l).2)) := by
  generalize he : (f_X5_clear fu t s l) = res
  unfold f_X5_clear at he
  unfold p_X5_clear at hk
  refine r_weak (L1 := [some (.ref t)]) ⟨rfl, trivial⟩ ?_
  refine r_aload_n rfl rfl ?_
  refine r_iconst_ (a := 0) rfl (by decide) ?_
  refine gw_put rfl (gT_0 htt) ff_5_0 ft_5_0 (fun _ _ => (Nat.le_of_ble_eq_true rfl)) (fun _ _ => rfl) ?_
  refine r_aload_n rfl rfl ?_
  refine r_iconst_ (a := 0) rfl (by decide) ?_
  refine gw_put rfl (gT_0 htt) ff_5_1 ft_5_1 (fun _ _ => (Nat.le_of_ble_eq_true rfl)) (fun _ _ => rfl) ?_
  refine r_aload_n rfl rfl ?_
  refine r_iconst_ (a := 0) rfl (by decide) ?_
  refine gw_put rfl (gT_0 htt) ff_5_2 ft_5_2 (fun _ _ => (Nat.le_of_ble_eq_true rfl)) (fun _ _ => rfl) ?_
  refine r_aload_n rfl rfl ?_
  refine r_iconst_ (a := 0) rfl (by decide) ?_
  refine gw_put rfl (gT_0 htt) ff_5_3 ft_5_3 (fun _ _ => (Nat.le_of_ble_eq_true rfl)) (fun _ _ => rfl) ?_
  refine r_aload_n rfl rfl ?_
  refine r_iconst_ (a := 1) rfl (by decide) ?_
  refine gw_put rfl (gT_0 htt) ff_5_15 ft_5_15 (fun _ _ => (Nat.le_of_ble_eq_true rfl)) (fun _ _ => rfl) ?_
  refine r_aload_n rfl rfl ?_
  refine r_iconst_ (a := 0) rfl (by decide) ?_
  refine gw_put rfl (gT_0 htt) ff_5_16 ft_5_16 (fun _ _ => (Nat.le_of_ble_eq_true rfl)) (fun _ _ => rfl) ?_
  refine r_aload_n rfl rfl ?_
  refine r_iconst_ (a := 0) rfl (by decide) ?_
  refine gw_put rfl (gT_0 htt) ff_5_17 ft_5_17 (fun _ _ => (Nat.le_of_ble_eq_true rfl)) (fun _ _ => rfl) ?_
  refine r_aload_n rfl rfl ?_
  refine r_iconst_ (a := 0) rfl (by decide) ?_
  refine gw_put rfl (gT_0 htt) ff_5_18 ft_5_18 (fun _ _ => (Nat.le_of_ble_eq_true rfl)) (fun _ _ => rfl) ?_
  refine r_aload_n rfl rfl ?_
  refine r_iconst_ (a := 0) rfl (by decide) ?_
  refine gw_put rfl (gT_0 htt) ff_5_14 ft_5_14 (fun _ _ => (Nat.le_of_ble_eq_true rfl)) (fun _ _ => rfl) ?_
  refine r_aload_n rfl rfl ?_
  refine gq_getfield rfl (gT_0 htt) rfl ?_
  refine r_iconst_ (a := 0) rfl (by decide) ?_
  refine r_aload_n rfl rfl ?_
  refine gq_getfield rfl (gT_0 htt) rfl ?_
  refine gw_iast rfl (gT_10 htt) (by unfold vp_in; decide) ?_
  refine r_aload_n rfl rfl ?_
  refine r_iconst_ (a := 0) rfl (by decide) ?_
  obtain ⟨hb0, hk⟩ := hk
  refine gq_callV0 [_] _ rfl kY_X5_addCode kT_X5_addCode rfl rfl (Nat.le_of_ble_eq_true rfl) (Nat.le_of_ble_eq_true rfl) (gT_0 htt) (sg_X5_addCode htt hb0) (fun r h q => ?_)
  obtain ⟨rfl, rfl⟩ := q
  simp only [Option.toList, List.cons_append, List.nil_append]
  subst he
  exact r_weak (L1 := [some (.ref t)]) ⟨rfl, trivial⟩ (lpg_X5_clear_60 htt _ _ hk)

set_option maxRecDepth 100000 in
set_option maxHeartbeats 1000000 in
theorem sg_X10_begin {G : ab_G} {fu : Nat} {d : Nat} {C : Nat → (Nat → Int32) → (Nat → Int64) → Option ab_E} {N : Nat} {s : fl_I} {l : fl_L} {a : Nat} (hya : gY C a) {t : Nat} (htt : gT C t)  (hk : p_X10_begin fu a t s l) : ab_C G (d + 1) 0 0 M_X10_begin 0 (ab_ent [.ref a, .ref t]) [] (hg C N s l) (rt none (hg C N (f_X10_begin fu a t s l).1 (f_X10_begin fu a t s l).2)) := by
  generalize he : (f_X10_begin fu a t s l) = res
  unfold f_X10_begin at he
  unfold p_X10_begin at hk
  refine r_weak (L1 := [some (.ref a), some (.ref t)]) ⟨rfl, rfl, trivial⟩ ?_
  refine r_aload_n rfl rfl ?_
  refine r_iconst_ (a := 0) rfl (by decide) ?_
  refine gw_put rfl (gY_0 hya) ff_10_0 ft_10_0 (fun _ _ => (Nat.le_of_ble_eq_true rfl)) (fun _ _ => rfl) ?_
  refine r_aload_n rfl rfl ?_
  refine r_bipush_ (a := 32) rfl (by decide) ?_
  refine r_aload_n rfl rfl ?_
  refine gq_getfield rfl (gT_0 htt) rfl ?_
  refine r_mmin rfl (Nat.le_of_ble_eq_true rfl) ?_
  refine gw_put rfl (gY_0 hya) ff_10_1 ft_10_1 (fun _ _ => (Nat.le_of_ble_eq_true rfl)) (fun _ _ => rfl) ?_
  refine r_aload_n rfl rfl ?_
  refine r_iconst_ (a := 4) rfl (by decide) ?_
  refine r_aload_n rfl rfl ?_
  refine gq_getfield rfl (gT_0 htt) rfl ?_
  refine r_mmin rfl (Nat.le_of_ble_eq_true rfl) ?_
  refine gw_put rfl (gY_0 hya) ff_10_2 ft_10_2 (fun _ _ => (Nat.le_of_ble_eq_true rfl)) (fun _ _ => rfl) ?_
  refine r_aload_n rfl rfl ?_
  refine gq_getfield rfl (gT_0 htt) rfl ?_
  refine r_iconst_ (a := 0) rfl (by decide) ?_
  refine r_aload_n rfl rfl ?_
  refine gq_getfield rfl (gY_0 hya) rfl ?_
  refine r_iconst_ (a := 0) rfl (by decide) ?_
  refine r_bipush_ (a := 32) rfl (by decide) ?_
  refine gw_copy rfl (gT_6 htt) (gY_1 hya) (by decide) (by decide) (by decide) (Nat.le_of_ble_eq_true rfl) (Nat.le_of_ble_eq_true rfl) (Nat.le_of_ble_eq_true rfl) ?_
  refine r_aload_n rfl rfl ?_
  refine gq_getfield rfl (gT_0 htt) rfl ?_
  refine r_iconst_ (a := 0) rfl (by decide) ?_
  refine r_aload_n rfl rfl ?_
  refine gq_getfield rfl (gY_0 hya) rfl ?_
  refine r_iconst_ (a := 0) rfl (by decide) ?_
  refine r_iconst_ (a := 4) rfl (by decide) ?_
  refine gw_copy rfl (gT_7 htt) (gY_3 hya) (by decide) (by decide) (by decide) (Nat.le_of_ble_eq_true rfl) (Nat.le_of_ble_eq_true rfl) (Nat.le_of_ble_eq_true rfl) ?_
  refine r_aload_n rfl rfl ?_
  refine gq_getfield rfl (gY_0 hya) rfl ?_
  refine r_iconst_ (a := 0) rfl (by decide) ?_
  refine r_callS0 [_, _] _ rfl kY_J7_fill_53178 kT_J7_fill_53178 rfl rfl (Nat.le_of_ble_eq_true rfl) (Nat.le_of_ble_eq_true rfl) (s_fillG (gY_2 hya) (by omega)) (fun r h q => ?_)
  obtain ⟨rfl, rfl⟩ := q
  simp only [Option.toList, List.cons_append, List.nil_append]
  refine r_aload_n rfl rfl ?_
  refine gq_getfield rfl (gY_0 hya) rfl ?_
  refine r_bipush_ (a := -2) rfl (by decide) ?_
  refine r_callS0 [_, _] _ rfl kY_J7_fill_53178 kT_J7_fill_53178 rfl rfl (Nat.le_of_ble_eq_true rfl) (Nat.le_of_ble_eq_true rfl) (s_fillG (gY_4 hya) (by omega)) (fun r h q => ?_)
  obtain ⟨rfl, rfl⟩ := q
  simp only [Option.toList, List.cons_append, List.nil_append]
  refine r_aload_n rfl rfl ?_
  refine gq_getfield rfl (gY_0 hya) rfl ?_
  refine r_iconst_ (a := 0) rfl (by decide) ?_
  refine r_callS0 [_, _] _ rfl kY_J7_fill_53178 kT_J7_fill_53178 rfl rfl (Nat.le_of_ble_eq_true rfl) (Nat.le_of_ble_eq_true rfl) (s_fillG (gY_5 hya) (by omega)) (fun r h q => ?_)
  obtain ⟨rfl, rfl⟩ := q
  simp only [Option.toList, List.cons_append, List.nil_append]
  refine r_ret rfl rfl ?_
  first | with_reducible exact fin_vG he | exact fin_vG he

