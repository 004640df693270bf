def f_X12_looksAt (fu : Nat) (v0 : Int32) (s : fl_I) (l : fl_L) : fl_I × fl_L :=
  ((wi (wi (wi (wi (wi (wi (f_X12_looks fu s l).1 92 (0 : Int32).toNatClampNeg ((f_X12_looks fu s l).1 96 v0.toNatClampNeg)) 92 (1 : Int32).toNatClampNeg ((wi (f_X12_looks fu s l).1 92 (0 : Int32).toNatClampNeg ((f_X12_looks fu s l).1 96 v0.toNatClampNeg)) 95 v0.toNatClampNeg)) 92 (2 : Int32).toNatClampNeg ((wi (wi (f_X12_looks fu s l).1 92 (0 : Int32).toNatClampNeg ((f_X12_looks fu s l).1 96 v0.toNatClampNeg)) 92 (1 : Int32).toNatClampNeg ((wi (f_X12_looks fu s l).1 92 (0 : Int32).toNatClampNeg ((f_X12_looks fu s l).1 96 v0.toNatClampNeg)) 95 v0.toNatClampNeg)) 95 ((32 : Int32) + v0).toNatClampNeg)) 92 (4 : Int32).toNatClampNeg ((wi (wi (wi (f_X12_looks fu s l).1 92 (0 : Int32).toNatClampNeg ((f_X12_looks fu s l).1 96 v0.toNatClampNeg)) 92 (1 : Int32).toNatClampNeg ((wi (f_X12_looks fu s l).1 92 (0 : Int32).toNatClampNeg ((f_X12_looks fu s l).1 96 v0.toNatClampNeg)) 95 v0.toNatClampNeg)) 92 (2 : Int32).toNatClampNeg ((wi (wi (f_X12_looks fu s l).1 92 (0 : Int32).toNatClampNeg ((f_X12_looks fu s l).1 96 v0.toNatClampNeg)) 92 (1 : Int32).toNatClampNeg ((wi (f_X12_looks fu s l).1 92 (0 : Int32).toNatClampNeg ((f_X12_looks fu s l).1 96 v0.toNatClampNeg)) 95 v0.toNatClampNeg)) 95 ((32 : Int32) + v0).toNatClampNeg)) 95 ((96 : Int32) + v0).toNatClampNeg)) 92 (7 : Int32).toNatClampNeg (f_X12_lieAt fu (f_X12_cellOf fu v0 (wi (wi (wi (wi (f_X12_looks fu s l).1 92 (0 : Int32).toNatClampNeg ((f_X12_looks fu s l).1 96 v0.toNatClampNeg)) 92 (1 : Int32).toNatClampNeg ((wi (f_X12_looks fu s l).1 92 (0 : Int32).toNatClampNeg ((f_X12_looks fu s l).1 96 v0.toNatClampNeg)) 95 v0.toNatClampNeg)) 92 (2 : Int32).toNatClampNeg ((wi (wi (f_X12_looks fu s l).1 92 (0 : Int32).toNatClampNeg ((f_X12_looks fu s l).1 96 v0.toNatClampNeg)) 92 (1 : Int32).toNatClampNeg ((wi (f_X12_looks fu s l).1 92 (0 : Int32).toNatClampNeg ((f_X12_looks fu s l).1 96 v0.toNatClampNeg)) 95 v0.toNatClampNeg)) 95 ((32 : Int32) + v0).toNatClampNeg)) 92 (4 : Int32).toNatClampNeg ((wi (wi (wi (f_X12_looks fu s l).1 92 (0 : Int32).toNatClampNeg ((f_X12_looks fu s l).1 96 v0.toNatClampNeg)) 92 (1 : Int32).toNatClampNeg ((wi (f_X12_looks fu s l).1 92 (0 : Int32).toNatClampNeg ((f_X12_looks fu s l).1 96 v0.toNatClampNeg)) 95 v0.toNatClampNeg)) 92 (2 : Int32).toNatClampNeg ((wi (wi (f_X12_looks fu s l).1 92 (0 : Int32).toNatClampNeg ((f_X12_looks fu s l).1 96 v0.toNatClampNeg)) 92 (1 : Int32).toNatClampNeg ((wi (f_X12_looks fu s l).1 92 (0 : Int32).toNatClampNeg ((f_X12_looks fu s l).1 96 v0.toNatClampNeg)) 95 v0.toNatClampNeg)) 95 ((32 : Int32) + v0).toNatClampNeg)) 95 ((96 : Int32) + v0).toNatClampNeg)) (f_X12_looks fu s l).2) (wi (wi (wi (wi (f_X12_looks fu s l).1 92 (0 : Int32).toNatClampNeg ((f_X12_looks fu s l).1 96 v0.toNatClampNeg)) 92 (1 : Int32).toNatClampNeg ((wi (f_X12_looks fu s l).1 92 (0 : Int32).toNatClampNeg ((f_X12_looks fu s l).1 96 v0.toNatClampNeg)) 95 v0.toNatClampNeg)) 92 (2 : Int32).toNatClampNeg ((wi (wi (f_X12_looks fu s l).1 92 (0 : Int32).toNatClampNeg ((f_X12_looks fu s l).1 96 v0.toNatClampNeg)) 92 (1 : Int32).toNatClampNeg ((wi (f_X12_looks fu s l).1 92 (0 : Int32).toNatClampNeg ((f_X12_looks fu s l).1 96 v0.toNatClampNeg)) 95 v0.toNatClampNeg)) 95 ((32 : Int32) + v0).toNatClampNeg)) 92 (4 : Int32).toNatClampNeg ((wi (wi (wi (f_X12_looks fu s l).1 92 (0 : Int32).toNatClampNeg ((f_X12_looks fu s l).1 96 v0.toNatClampNeg)) 92 (1 : Int32).toNatClampNeg ((wi (f_X12_looks fu s l).1 92 (0 : Int32).toNatClampNeg ((f_X12_looks fu s l).1 96 v0.toNatClampNeg)) 95 v0.toNatClampNeg)) 92 (2 : Int32).toNatClampNeg ((wi (wi (f_X12_looks fu s l).1 92 (0 : Int32).toNatClampNeg ((f_X12_looks fu s l).1 96 v0.toNatClampNeg)) 92 (1 : Int32).toNatClampNeg ((wi (f_X12_looks fu s l).1 92 (0 : Int32).toNatClampNeg ((f_X12_looks fu s l).1 96 v0.toNatClampNeg)) 95 v0.toNatClampNeg)) 95 ((32 : Int32) + v0).toNatClampNeg)) 95 ((96 : Int32) + v0).toNatClampNeg)) (f_X12_looks fu s l).2)) 92 (8 : Int32).toNatClampNeg v0), (f_X12_looks fu s l).2)

def p_X12_looksAt (fu : Nat) (v0 : Int32) (s : fl_I) (l : fl_L) : Prop :=
  (p_X12_looks fu s l) ∧ (vp_in v0 32) ∧ (vp_in v0 141) ∧ (vp_in ((32 : Int32) + v0) 141) ∧ (vp_in ((96 : Int32) + v0) 141) ∧ (p_X12_cellOf fu v0 (wi (wi (wi (wi (f_X12_looks fu s l).1 92 (0 : Int32).toNatClampNeg ((f_X12_looks fu s l).1 96 v0.toNatClampNeg)) 92 (1 : Int32).toNatClampNeg ((wi (f_X12_looks fu s l).1 92 (0 : Int32).toNatClampNeg ((f_X12_looks fu s l).1 96 v0.toNatClampNeg)) 95 v0.toNatClampNeg)) 92 (2 : Int32).toNatClampNeg ((wi (wi (f_X12_looks fu s l).1 92 (0 : Int32).toNatClampNeg ((f_X12_looks fu s l).1 96 v0.toNatClampNeg)) 92 (1 : Int32).toNatClampNeg ((wi (f_X12_looks fu s l).1 92 (0 : Int32).toNatClampNeg ((f_X12_looks fu s l).1 96 v0.toNatClampNeg)) 95 v0.toNatClampNeg)) 95 ((32 : Int32) + v0).toNatClampNeg)) 92 (4 : Int32).toNatClampNeg ((wi (wi (wi (f_X12_looks fu s l).1 92 (0 : Int32).toNatClampNeg ((f_X12_looks fu s l).1 96 v0.toNatClampNeg)) 92 (1 : Int32).toNatClampNeg ((wi (f_X12_looks fu s l).1 92 (0 : Int32).toNatClampNeg ((f_X12_looks fu s l).1 96 v0.toNatClampNeg)) 95 v0.toNatClampNeg)) 92 (2 : Int32).toNatClampNeg ((wi (wi (f_X12_looks fu s l).1 92 (0 : Int32).toNatClampNeg ((f_X12_looks fu s l).1 96 v0.toNatClampNeg)) 92 (1 : Int32).toNatClampNeg ((wi (f_X12_looks fu s l).1 92 (0 : Int32).toNatClampNeg ((f_X12_looks fu s l).1 96 v0.toNatClampNeg)) 95 v0.toNatClampNeg)) 95 ((32 : Int32) + v0).toNatClampNeg)) 95 ((96 : Int32) + v0).toNatClampNeg)) (f_X12_looks fu s l).2) ∧ (p_X12_lieAt fu (f_X12_cellOf fu v0 (wi (wi (wi (wi (f_X12_looks fu s l).1 92 (0 : Int32).toNatClampNeg ((f_X12_looks fu s l).1 96 v0.toNatClampNeg)) 92 (1 : Int32).toNatClampNeg ((wi (f_X12_looks fu s l).1 92 (0 : Int32).toNatClampNeg ((f_X12_looks fu s l).1 96 v0.toNatClampNeg)) 95 v0.toNatClampNeg)) 92 (2 : Int32).toNatClampNeg ((wi (wi (f_X12_looks fu s l).1 92 (0 : Int32).toNatClampNeg ((f_X12_looks fu s l).1 96 v0.toNatClampNeg)) 92 (1 : Int32).toNatClampNeg ((wi (f_X12_looks fu s l).1 92 (0 : Int32).toNatClampNeg ((f_X12_looks fu s l).1 96 v0.toNatClampNeg)) 95 v0.toNatClampNeg)) 95 ((32 : Int32) + v0).toNatClampNeg)) 92 (4 : Int32).toNatClampNeg ((wi (wi (wi (f_X12_looks fu s l).1 92 (0 : Int32).toNatClampNeg ((f_X12_looks fu s l).1 96 v0.toNatClampNeg)) 92 (1 : Int32).toNatClampNeg ((wi (f_X12_looks fu s l).1 92 (0 : Int32).toNatClampNeg ((f_X12_looks fu s l).1 96 v0.toNatClampNeg)) 95 v0.toNatClampNeg)) 92 (2 : Int32).toNatClampNeg ((wi (wi (f_X12_looks fu s l).1 92 (0 : Int32).toNatClampNeg ((f_X12_looks fu s l).1 96 v0.toNatClampNeg)) 92 (1 : Int32).toNatClampNeg ((wi (f_X12_looks fu s l).1 92 (0 : Int32).toNatClampNeg ((f_X12_looks fu s l).1 96 v0.toNatClampNeg)) 95 v0.toNatClampNeg)) 95 ((32 : Int32) + v0).toNatClampNeg)) 95 ((96 : Int32) + v0).toNatClampNeg)) (f_X12_looks fu s l).2) (wi (wi (wi (wi (f_X12_looks fu s l).1 92 (0 : Int32).toNatClampNeg ((f_X12_looks fu s l).1 96 v0.toNatClampNeg)) 92 (1 : Int32).toNatClampNeg ((wi (f_X12_looks fu s l).1 92 (0 : Int32).toNatClampNeg ((f_X12_looks fu s l).1 96 v0.toNatClampNeg)) 95 v0.toNatClampNeg)) 92 (2 : Int32).toNatClampNeg ((wi (wi (f_X12_looks fu s l).1 92 (0 : Int32).toNatClampNeg ((f_X12_looks fu s l).1 96 v0.toNatClampNeg)) 92 (1 : Int32).toNatClampNeg ((wi (f_X12_looks fu s l).1 92 (0 : Int32).toNatClampNeg ((f_X12_looks fu s l).1 96 v0.toNatClampNeg)) 95 v0.toNatClampNeg)) 95 ((32 : Int32) + v0).toNatClampNeg)) 92 (4 : Int32).toNatClampNeg ((wi (wi (wi (f_X12_looks fu s l).1 92 (0 : Int32).toNatClampNeg ((f_X12_looks fu s l).1 96 v0.toNatClampNeg)) 92 (1 : Int32).toNatClampNeg ((wi (f_X12_looks fu s l).1 92 (0 : Int32).toNatClampNeg ((f_X12_looks fu s l).1 96 v0.toNatClampNeg)) 95 v0.toNatClampNeg)) 92 (2 : Int32).toNatClampNeg ((wi (wi (f_X12_looks fu s l).1 92 (0 : Int32).toNatClampNeg ((f_X12_looks fu s l).1 96 v0.toNatClampNeg)) 92 (1 : Int32).toNatClampNeg ((wi (f_X12_looks fu s l).1 92 (0 : Int32).toNatClampNeg ((f_X12_looks fu s l).1 96 v0.toNatClampNeg)) 95 v0.toNatClampNeg)) 95 ((32 : Int32) + v0).toNatClampNeg)) 95 ((96 : Int32) + v0).toNatClampNeg)) (f_X12_looks fu s l).2) ∧ True

set_option maxRecDepth 100000 in
set_option maxHeartbeats 1000000 in
theorem s_X12_looksAt {G : ab_G} {fu : Nat} {d : Nat} {D : fl_D} {s : fl_I} {l : fl_L} {v0 : Int32} (hk : p_X12_looksAt fu v0 s l) : ab_C G (d + 2) 0 0 M_X12_looksAt 0 (ab_ent [.ref 60, .int v0]) [] (hp D s l) (rt none (hp D (f_X12_looksAt fu v0 s l).1 (f_X12_looksAt fu v0 s l).2)) := by
  generalize he : (f_X12_looksAt fu v0 s l) = res
  unfold f_X12_looksAt at he
  unfold p_X12_looksAt at hk
  refine r_weak (L1 := [some (.ref 60), some (.int v0)]) ⟨rfl, rfl, trivial⟩ ?_
  refine r_aload_n rfl rfl ?_
  obtain ⟨hb0, hk⟩ := hk
  refine q_callV0 [] _ rfl kY_X12_looks kT_X12_looks rfl rfl (Nat.le_of_ble_eq_true rfl) (Nat.le_of_ble_eq_true rfl) (cc_60 _) (s_X12_looks hb0) (fun r h q => ?_)
  obtain ⟨rfl, rfl⟩ := q
  simp only [Option.toList, List.cons_append, List.nil_append]
  refine r_aload_n rfl rfl ?_
  refine q_getfield rfl (cc_60 _) rfl ?_
  refine r_iconst_ (a := 0) rfl (by decide) ?_
  refine r_aload_n rfl rfl ?_
  refine q_getfield rfl (cc_60 _) rfl ?_
  refine r_iload_n rfl rfl ?_
  obtain ⟨hb1, hk⟩ := hk
  refine q_iald rfl (cc_96 _) hb1 ?_
  refine w_iast rfl (cc_92 _) (by unfold vp_in; decide) ?_
  refine r_aload_n rfl rfl ?_
  refine q_getfield rfl (cc_60 _) rfl ?_
  refine r_iconst_ (a := 1) rfl (by decide) ?_
  refine r_aload_n rfl rfl ?_
  refine q_getfield rfl (cc_60 _) rfl ?_
  refine r_iload_n rfl rfl ?_
  obtain ⟨hb2, hk⟩ := hk
  refine q_iald rfl (cc_95 _) hb2 ?_
  refine w_iast rfl (cc_92 _) (by unfold vp_in; decide) ?_
  refine r_aload_n rfl rfl ?_
  refine q_getfield rfl (cc_60 _) rfl ?_
  refine r_iconst_ (a := 2) rfl (by decide) ?_
  refine r_aload_n rfl rfl ?_
  refine q_getfield rfl (cc_60 _) rfl ?_
  refine r_bipush_ (a := 32) rfl (by decide) ?_
  refine r_iload_n rfl rfl ?_
  refine r_iadd rfl ?_
  obtain ⟨hb3, hk⟩ := hk
  refine q_iald rfl (cc_95 _) hb3 ?_
  refine w_iast rfl (cc_92 _) (by unfold vp_in; decide) ?_
  refine r_aload_n rfl rfl ?_
  refine q_getfield rfl (cc_60 _) rfl ?_
  refine r_iconst_ (a := 4) rfl (by decide) ?_
  refine r_aload_n rfl rfl ?_
  refine q_getfield rfl (cc_60 _) rfl ?_
  refine r_bipush_ (a := 96) rfl (by decide) ?_
  refine r_iload_n rfl rfl ?_
  refine r_iadd rfl ?_
  obtain ⟨hb4, hk⟩ := hk
  refine q_iald rfl (cc_95 _) hb4 ?_
  refine w_iast rfl (cc_92 _) (by unfold vp_in; decide) ?_
  refine r_aload_n rfl rfl ?_
  refine q_getfield rfl (cc_60 _) rfl ?_
  refine r_bipush_ (a := 7) rfl (by decide) ?_
  refine r_aload_n rfl rfl ?_
  refine r_aload_n rfl rfl ?_
  refine r_iload_n rfl rfl ?_
  obtain ⟨hb5, hk⟩ := hk
  refine q_callV0 [_] _ rfl kY_X12_cellOf kT_X12_cellOf rfl rfl (Nat.le_of_ble_eq_true rfl) (Nat.le_of_ble_eq_true rfl) (cc_60 _) (s_X12_cellOf hb5) (fun r h q => ?_)
  obtain ⟨rfl, rfl⟩ := q
  simp only [Option.toList, List.cons_append, List.nil_append]
  obtain ⟨hb6, hk⟩ := hk
  refine q_callV0 [_] _ rfl kY_X12_lieAt kT_X12_lieAt rfl rfl (Nat.le_of_ble_eq_true rfl) (Nat.le_of_ble_eq_true rfl) (cc_60 _) (s_X12_lieAt hb6) (fun r h q => ?_)
  obtain ⟨rfl, rfl⟩ := q
  simp only [Option.toList, List.cons_append, List.nil_append]
  refine w_iast rfl (cc_92 _) (by unfold vp_in; decide) ?_
  refine r_aload_n rfl rfl ?_
  refine q_getfield rfl (cc_60 _) rfl ?_
  refine r_bipush_ (a := 8) rfl (by decide) ?_
  refine r_iload_n rfl rfl ?_
  refine w_iast rfl (cc_92 _) (by unfold vp_in; decide) ?_
  refine r_ret rfl rfl ?_
  first | with_reducible exact fin_v he | exact fin_v he

def f_X12_fillsHeap_81 (fu : Nat) (K23 : Int32 → Int32 → fl_I → fl_L → fl_I × fl_L) (x1 : Int32) (x2 : Int32) (s : fl_I) (l : fl_L) : fl_I × fl_L :=
    K23 x1 (x2 + 1) s l

def p_X12_fillsHeap_81 (fu : Nat) (P23 : Int32 → Int32 → fl_I → fl_L → Prop) (x1 : Int32) (x2 : Int32) (s : fl_I) (l : fl_L) : Prop :=
    P23 x1 (x2 + 1) s l

set_option maxRecDepth 100000 in
set_option maxHeartbeats 1000000 in
theorem lp_X12_fillsHeap_81 {G : ab_G} {fu : Nat} {d : Nat} {D : fl_D} (K23 : Int32 → Int32 → fl_I → fl_L → fl_I × fl_L) (P23 : Int32 → Int32 → fl_I → fl_L → Prop) (hK23 : ∀ (x1 : Int32) (x2 : Int32) (s : fl_I) (l : fl_L), P23 x1 x2 s l → ab_C G d 0 0 M_X12_fillsHeap 23 [some (.ref 60), some (.int x1), some (.int x2)] [] (hp D s l) (rt none (hp D (K23 x1 x2 s l).1 (K23 x1 x2 s l).2))) : ∀ (x1 : Int32) (x2 : Int32) (s : fl_I) (l : fl_L), p_X12_fillsHeap_81 fu P23 x1 x2 s l → ab_C G d 0 0 M_X12_fillsHeap 81 [some (.ref 60), some (.int x1), some (.int x2)] [] (hp D s l) (rt none (hp D (f_X12_fillsHeap_81 fu K23 x1 x2 s l).1 (f_X12_fillsHeap_81 fu K23 x1 x2 s l).2)) := by
  intro x1 x2 s l hk
  generalize he : f_X12_fillsHeap_81 fu K23 x1 x2 s l = res
  unfold f_X12_fillsHeap_81 at he
  unfold p_X12_fillsHeap_81 at hk
  refine r_iinc (b := x2 + 1) rfl rfl rfl (Nat.le_of_ble_eq_true rfl) rfl ?_
  refine r_goto rfl ?_
  subst he
  exact r_weak (L1 := [some (.ref 60), some (.int x1), some (.int (x2 + 1))]) ⟨rfl, rfl, rfl, trivial⟩ (hK23 _ _ _ _ hk)

def f_X12_fillsHeap_66 (fu : Nat) (K23 : Int32 → Int32 → fl_I → fl_L → fl_I × fl_L) (x1 : Int32) (x2 : Int32) (s : fl_I) (l : fl_L) : fl_I × fl_L :=
    f_X12_fillsHeap_81 fu K23 x1 x2 (wi s 102 (s 96 x2.toNatClampNeg).toNatClampNeg ((s 102 (s 96 x2.toNatClampNeg).toNatClampNeg) + (1 : Int32))) l

def p_X12_fillsHeap_66 (fu : Nat) (P23 : Int32 → Int32 → fl_I → fl_L → Prop) (x1 : Int32) (x2 : Int32) (s : fl_I) (l : fl_L) : Prop :=
    (vp_in x2 32) ∧ (vp_in (s 96 x2.toNatClampNeg) 27) ∧ (vp_in (s 96 x2.toNatClampNeg) 27) ∧ p_X12_fillsHeap_81 fu P23 x1 x2 (wi s 102 (s 96 x2.toNatClampNeg).toNatClampNeg ((s 102 (s 96 x2.toNatClampNeg).toNatClampNeg) + (1 : Int32))) l

set_option maxRecDepth 100000 in
set_option maxHeartbeats 1000000 in
theorem lp_X12_fillsHeap_66 {G : ab_G} {fu : Nat} {d : Nat} {D : fl_D} (K23 : Int32 → Int32 → fl_I → fl_L → fl_I × fl_L) (P23 : Int32 → Int32 → fl_I → fl_L → Prop) (hK23 : ∀ (x1 : Int32) (x2 : Int32) (s : fl_I) (l : fl_L), P23 x1 x2 s l → ab_C G d 0 0 M_X12_fillsHeap 23 [some (.ref 60), some (.int x1), some (.int x2)] [] (hp D s l) (rt none (hp D (K23 x1 x2 s l).1 (K23 x1 x2 s l).2))) : ∀ (x1 : Int32) (x2 : Int32) (s : fl_I) (l : fl_L), p_X12_fillsHeap_66 fu P23 x1 x2 s l → ab_C G d 0 0 M_X12_fillsHeap 66 [some (.ref 60), some (.int x1), some (.int x2)] [] (hp D s l) (rt none (hp D (f_X12_fillsHeap_66 fu K23 x1 x2 s l).1 (f_X12_fillsHeap_66 fu K23 x1 x2 s l).2)) := by
  intro x1 x2 s l hk
  generalize he : f_X12_fillsHeap_66 fu K23 x1 x2 s l = res
  unfold f_X12_fillsHeap_66 at he
  unfold p_X12_fillsHeap_66 at hk
  refine r_aload_n rfl rfl ?_
  refine q_getfield rfl (cc_60 _) rfl ?_
  refine r_aload_n rfl rfl ?_
  refine q_getfield rfl (cc_60 _) rfl ?_
  refine r_iload_n rfl rfl ?_
  obtain ⟨hb0, hk⟩ := hk
  refine q_iald rfl (cc_96 _) hb0 ?_
  refine r_dup2 rfl rfl rfl ?_
  obtain ⟨hb1, hk⟩ := hk
  refine q_iald rfl (cc_102 _) hb1 ?_
  refine r_iconst_ (a := 1) rfl (by decide) ?_
  refine r_iadd rfl ?_
  obtain ⟨hb2, hk⟩ := hk
  refine w_iast rfl (cc_102 _) hb2 ?_
  subst he
  exact r_weak (L1 := [some (.ref 60), some (.int x1), some (.int x2)]) ⟨rfl, rfl, rfl, trivial⟩ (lp_X12_fillsHeap_81 _ _ hK23 _ _ _ _ hk)

def f_X12_fillsHeap_53 (fu : Nat) (K23 : Int32 → Int32 → fl_I → fl_L → fl_I × fl_L) (x1 : Int32) (x2 : Int32) (s : fl_I) (l : fl_L) : fl_I × fl_L :=
    if ((s 94 ((64 : Int32) + x2).toNatClampNeg) = x1) then f_X12_fillsHeap_66 fu K23 x1 x2 s l else f_X12_fillsHeap_81 fu K23 x1 x2 s l

def p_X12_fillsHeap_53 (fu : Nat) (P23 : Int32 → Int32 → fl_I → fl_L → Prop) (x1 : Int32) (x2 : Int32) (s : fl_I) (l : fl_L) : Prop :=
    (vp_in ((64 : Int32) + x2) 141) ∧ ((((s 94 ((64 : Int32) + x2).toNatClampNeg) = x1) → p_X12_fillsHeap_66 fu P23 x1 x2 s l) ∧ (¬ ((s 94 ((64 : Int32) + x2).toNatClampNeg) = x1) → p_X12_fillsHeap_81 fu P23 x1 x2 s l))

set_option maxRecDepth 100000 in
set_option maxHeartbeats 1000000 in
theorem lp_X12_fillsHeap_53 {G : ab_G} {fu : Nat} {d : Nat} {D : fl_D} (K23 : Int32 → Int32 → fl_I → fl_L → fl_I × fl_L) (P23 : Int32 → Int32 → fl_I → fl_L → Prop) (hK23 : ∀ (x1 : Int32) (x2 : Int32) (s : fl_I) (l : fl_L), P23 x1 x2 s l → ab_C G d 0 0 M_X12_fillsHeap 23 [some (.ref 60), some (.int x1), some (.int x2)] [] (hp D s l) (rt none (hp D (K23 x1 x2 s l).1 (K23 x1 x2 s l).2))) : ∀ (x1 : Int32) (x2 : Int32) (s : fl_I) (l : fl_L), p_X12_fillsHeap_53 fu P23 x1 x2 s l → ab_C G d 0 0 M_X12_fillsHeap 53 [some (.ref 60), some (.int x1), some (.int x2)] [] (hp D s l) (rt none (hp D (f_X12_fillsHeap_53 fu K23 x1 x2 s l).1 (f_X12_fillsHeap_53 fu K23 x1 x2 s l).2)) := by
  intro x1 x2 s l hk
  generalize he : f_X12_fillsHeap_53 fu K23 x1 x2 s l = res
  unfold f_X12_fillsHeap_53 at he
  unfold p_X12_fillsHeap_53 at hk
  refine r_aload_n rfl rfl ?_
  refine q_getfield rfl (cc_60 _) rfl ?_
  refine r_bipush_ (a := 64) rfl (by decide) ?_
  refine r_iload_n rfl rfl ?_
  refine r_iadd rfl ?_
  obtain ⟨hb3, hk⟩ := hk
  refine q_iald rfl (cc_94 _) hb3 ?_
  refine r_iload_n rfl rfl ?_
  refine r_icmp_ne rfl (fun c_63 => ?_) (fun c_63 => ?_)
  · rw [if_neg c_63] at he
    replace hk := hk.2 c_63
    subst he
    exact r_weak (L1 := [some (.ref 60), some (.int x1), some (.int x2)]) ⟨rfl, rfl, rfl, trivial⟩ (lp_X12_fillsHeap_81 _ _ hK23 _ _ _ _ hk)
  · rw [if_pos c_63] at he
    replace hk := hk.1 c_63
    subst he
    exact r_weak (L1 := [some (.ref 60), some (.int x1), some (.int x2)]) ⟨rfl, rfl, rfl, trivial⟩ (lp_X12_fillsHeap_66 _ _ hK23 _ _ _ _ hk)

def f_X12_fillsHeap_23 (fu : Nat) : Nat → Int32 → Int32 → fl_I → fl_L → fl_I × fl_L
  | 0, x1, x2, s, l => (s, l)
  | n + 1, x1, x2, s, l =>
    if ((s 60 54) ≤ x2) then (s, l) else if (x1 = (5 : Int32)) then f_X12_fillsHeap_66 fu (fun x1 x2 s l => f_X12_fillsHeap_23 fu n x1 x2 s l) x1 x2 s l else if (x1 = (4 : Int32)) then if ((s 94 ((64 : Int32) + x2).toNatClampNeg) < 0) then f_X12_fillsHeap_66 fu (fun x1 x2 s l => f_X12_fillsHeap_23 fu n x1 x2 s l) x1 x2 s l else f_X12_fillsHeap_53 fu (fun x1 x2 s l => f_X12_fillsHeap_23 fu n x1 x2 s l) x1 x2 s l else f_X12_fillsHeap_53 fu (fun x1 x2 s l => f_X12_fillsHeap_23 fu n x1 x2 s l) x1 x2 s l

def p_X12_fillsHeap_23 (fu : Nat) : Nat → Int32 → Int32 → fl_I → fl_L → Prop
  | 0, _, _, _, _ => False
  | n + 1, x1, x2, s, l =>
    ((((s 60 54) ≤ x2) → True) ∧ (¬ ((s 60 54) ≤ x2) → (((x1 = (5 : Int32)) → p_X12_fillsHeap_66 fu (fun x1 x2 s l => p_X12_fillsHeap_23 fu n x1 x2 s l) x1 x2 s l) ∧ (¬ (x1 = (5 : Int32)) → (((x1 = (4 : Int32)) → (vp_in ((64 : Int32) + x2) 141) ∧ ((((s 94 ((64 : Int32) + x2).toNatClampNeg) < 0) → p_X12_fillsHeap_66 fu (fun x1 x2 s l => p_X12_fillsHeap_23 fu n x1 x2 s l) x1 x2 s l) ∧ (¬ ((s 94 ((64 : Int32) + x2).toNatClampNeg) < 0) → p_X12_fillsHeap_53 fu (fun x1 x2 s l => p_X12_fillsHeap_23 fu n x1 x2 s l) x1 x2 s l))) ∧ (¬ (x1 = (4 : Int32)) → p_X12_fillsHeap_53 fu (fun x1 x2 s l => p_X12_fillsHeap_23 fu n x1 x2 s l) x1 x2 s l))))))

set_option maxRecDepth 100000 in
set_option maxHeartbeats 1000000 in
theorem lp_X12_fillsHeap_23 {G : ab_G} {fu : Nat} {d : Nat} {D : fl_D} : ∀ (n : Nat) (x1 : Int32) (x2 : Int32) (s : fl_I) (l : fl_L), p_X12_fillsHeap_23 fu n x1 x2 s l → ab_C G d 0 0 M_X12_fillsHeap 23 [some (.ref 60), some (.int x1), some (.int x2)] [] (hp D s l) (rt none (hp D (f_X12_fillsHeap_23 fu n x1 x2 s l).1 (f_X12_fillsHeap_23 fu n x1 x2 s l).2)) := by
  intro n
  induction n with
  | zero => intro x1 x2 s l hk; exact hk.elim
  | succ n ih =>
    intro x1 x2 s l hk
    generalize he : f_X12_fillsHeap_23 fu (n + 1) x1 x2 s l = res
    unfold f_X12_fillsHeap_23 at he
    unfold p_X12_fillsHeap_23 at hk
    refine r_iload_n rfl rfl ?_
    refine r_aload_n rfl rfl ?_
    refine q_getfield rfl (cc_60 _) rfl ?_
    refine r_icmp_ge rfl (fun c_28 => ?_) (fun c_28 => ?_)
    · rw [if_pos c_28] at he
      replace hk := hk.1 c_28
      refine r_ret rfl rfl ?_
      first | with_reducible exact fin_v he | exact fin_v he
    · rw [if_neg c_28] at he
      replace hk := hk.2 c_28
      refine r_iload_n rfl rfl ?_
      refine r_iconst_ (a := 5) rfl (by decide) ?_
      refine r_icmp_eq rfl (fun c_33 => ?_) (fun c_33 => ?_)
      · rw [if_pos c_33] at he
        replace hk := hk.1 c_33
        subst he
        exact r_weak (L1 := [some (.ref 60), some (.int x1), some (.int x2)]) ⟨rfl, rfl, rfl, trivial⟩ (lp_X12_fillsHeap_66 _ _ (fun _ _ _ _ h9 => ih _ _ _ _ h9) _ _ _ _ hk)
      · rw [if_neg c_33] at he
        replace hk := hk.2 c_33
        refine r_iload_n rfl rfl ?_
        refine r_iconst_ (a := 4) rfl (by decide) ?_
        refine r_icmp_ne rfl (fun c_38 => ?_) (fun c_38 => ?_)
        · rw [if_neg c_38] at he
          replace hk := hk.2 c_38
          subst he
          exact r_weak (L1 := [some (.ref 60), some (.int x1), some (.int x2)]) ⟨rfl, rfl, rfl, trivial⟩ (lp_X12_fillsHeap_53 _ _ (fun _ _ _ _ h9 => ih _ _ _ _ h9) _ _ _ _ hk)
        · rw [if_pos c_38] at he
          replace hk := hk.1 c_38
          refine r_aload_n rfl rfl ?_
          refine q_getfield rfl (cc_60 _) rfl ?_
          refine r_bipush_ (a := 64) rfl (by decide) ?_
          refine r_iload_n rfl rfl ?_
          refine r_iadd rfl ?_
          obtain ⟨hb4, hk⟩ := hk
          refine q_iald rfl (cc_94 _) hb4 ?_
          refine r_if_lt rfl (fun c_50 => ?_) (fun c_50 => ?_)
          · rw [if_pos c_50] at he
            replace hk := hk.1 c_50
            subst he
            exact r_weak (L1 := [some (.ref 60), some (.int x1), some (.int x2)]) ⟨rfl, rfl, rfl, trivial⟩ (lp_X12_fillsHeap_66 _ _ (fun _ _ _ _ h9 => ih _ _ _ _ h9) _ _ _ _ hk)
          · rw [if_neg c_50] at he
            replace hk := hk.2 c_50
            subst he
            exact r_weak (L1 := [some (.ref 60), some (.int x1), some (.int x2)]) ⟨rfl, rfl, rfl, trivial⟩ (lp_X12_fillsHeap_53 _ _ (fun _ _ _ _ h9 => ih _ _ _ _ h9) _ _ _ _ hk)

def f_X12_fillsHeap_2 (fu : Nat) : Nat → Int32 → Int32 → fl_I → fl_L → fl_I × fl_L
  | 0, x1, x2, s, l => (s, l)
  | n + 1, x1, x2, s, l =>
    if ((27 : Int32) ≤ x2) then f_X12_fillsHeap_23 fu fu x1 (0 : Int32) s l else f_X12_fillsHeap_2 fu n x1 (x2 + 1) (wi s 102 x2.toNatClampNeg (0 : Int32)) l

def p_X12_fillsHeap_2 (fu : Nat) : Nat → Int32 → Int32 → fl_I → fl_L → Prop
  | 0, _, _, _, _ => False
  | n + 1, x1, x2, s, l =>
    ((((27 : Int32) ≤ x2) → p_X12_fillsHeap_23 fu fu x1 (0 : Int32) s l) ∧ (¬ ((27 : Int32) ≤ x2) → (vp_in x2 27) ∧ p_X12_fillsHeap_2 fu n x1 (x2 + 1) (wi s 102 x2.toNatClampNeg (0 : Int32)) l))

set_option maxRecDepth 100000 in
set_option maxHeartbeats 1000000 in
theorem lp_X12_fillsHeap_2 {G : ab_G} {fu : Nat} {d : Nat} {D : fl_D} : ∀ (n : Nat) (x1 : Int32) (x2 : Int32) (s : fl_I) (l : fl_L), p_X12_fillsHeap_2 fu n x1 x2 s l → ab_C G d 0 0 M_X12_fillsHeap 2 [some (.ref 60), some (.int x1), some (.int x2)] [] (hp D s l) (rt none (hp D (f_X12_fillsHeap_2 fu n x1 x2 s l).1 (f_X12_fillsHeap_2 fu n x1 x2 s l).2)) := by
  intro n
  induction n with
  | zero => intro x1 x2 s l hk; exact hk.elim
  | succ n ih =>
    intro x1 x2 s l hk
    generalize he : f_X12_fillsHeap_2 fu (n + 1) x1 x2 s l = res
    unfold f_X12_fillsHeap_2 at he
    unfold p_X12_fillsHeap_2 at hk
    refine r_iload_n rfl rfl ?_
    refine r_bipush_ (a := 27) rfl (by decide) ?_
    refine r_icmp_ge rfl (fun c_5 => ?_) (fun c_5 => ?_)
    · rw [if_pos c_5] at he
      replace hk := hk.1 c_5
      refine r_iconst_ (a := 0) rfl (by decide) ?_
      refine r_istore_n rfl (Nat.le_of_ble_eq_true rfl) rfl ?_
      subst he
      exact r_weak (L1 := [some (.ref 60), some (.int x1), some (.int (0 : Int32))]) ⟨rfl, rfl, rfl, trivial⟩ (lp_X12_fillsHeap_23 fu _ _ _ _ hk)
    · rw [if_neg c_5] at he
      replace hk := hk.2 c_5
      refine r_aload_n rfl rfl ?_
      refine q_getfield rfl (cc_60 _) rfl ?_
      refine r_iload_n rfl rfl ?_
      refine r_iconst_ (a := 0) rfl (by decide) ?_
      obtain ⟨hb5, hk⟩ := hk
      refine w_iast rfl (cc_102 _) hb5 ?_
      refine r_iinc (b := x2 + 1) rfl rfl rfl (Nat.le_of_ble_eq_true rfl) rfl ?_
      refine r_goto rfl ?_
      subst he
      exact r_weak (L1 := [some (.ref 60), some (.int x1), some (.int (x2 + 1))]) ⟨rfl, rfl, rfl, trivial⟩ (ih _ _ _ _ hk)

def f_X12_fillsHeap (fu : Nat) (v0 : Int32) (s : fl_I) (l : fl_L) : fl_I × fl_L :=
  f_X12_fillsHeap_2 fu fu v0 (0 : Int32) s l

def p_X12_fillsHeap (fu : Nat) (v0 : Int32) (s : fl_I) (l : fl_L) : Prop :=
  p_X12_fillsHeap_2 fu fu v0 (0 : Int32) s l

set_option maxRecDepth 100000 in
set_option maxHeartbeats 1000000 in
theorem s_X12_fillsHeap {G : ab_G} {fu : Nat} {d : Nat} {D : fl_D} {s : fl_I} {l : fl_L} {v0 : Int32} (hk : p_X12_fillsHeap fu v0 s l) : ab_C G d 0 0 M_X12_fillsHeap 0 (ab_ent [.ref 60, .int v0]) [] (hp D s l) (rt none (hp D (f_X12_fillsHeap fu v0 s l).1 (f_X12_fillsHeap fu v0 s l).2)) := by
  generalize he : (f_X12_fillsHeap fu v0 s l) = res
  unfold f_X12_fillsHeap at he
  unfold p_X12_fillsHeap at hk
  refine r_weak (L1 := [some (.ref 60), some (.int v0), none]) ⟨rfl, rfl, trivial⟩ ?_
  refine r_iconst_ (a := 0) rfl (by decide) ?_
  refine r_istore_n rfl (Nat.le_of_ble_eq_true rfl) rfl ?_
  subst he
  exact r_weak (L1 := [some (.ref 60), some (.int v0), some (.int (0 : Int32))]) ⟨rfl, rfl, rfl, trivial⟩ (lp_X12_fillsHeap_2 fu _ _ _ _ hk)

def f_X12_sign_104 (fu : Nat) (s : fl_I) (l : fl_L) : Int32 × fl_I × fl_L :=
    ((1 : Int32), s, l)

def p_X12_sign_104 (fu : Nat) (s : fl_I) (l : fl_L) : Prop :=
    True

set_option maxRecDepth 100000 in
set_option maxHeartbeats 1000000 in
theorem lp_X12_sign_104 {G : ab_G} {fu : Nat} {d : Nat} {D : fl_D} : ∀ (s : fl_I) (l : fl_L), p_X12_sign_104 fu  s l → ab_C G (d + 1) 0 0 M_X12_sign 104 [none, none, none, none, none] [] (hp D s l) (rt (some (.int (f_X12_sign_104 fu  s l).1)) (hp D (f_X12_sign_104 fu  s l).2.1 (f_X12_sign_104 fu  s l).2.2)) := by
  intro  s l hk
  generalize he : f_X12_sign_104 fu  s l = res
  unfold f_X12_sign_104 at he
  unfold p_X12_sign_104 at hk
  refine r_iconst_ (a := 1) rfl (by decide) ?_
  refine r_iret rfl rfl rfl ?_
  first | with_reducible exact fin_i he | exact fin_i he

def f_X12_sign_95 (fu : Nat) (x1 : Int32) (x4 : Int32) (s : fl_I) (l : fl_L) : Int32 × fl_I × fl_L :=
    f_X12_sign_104 fu  (f_X12_token fu x4 x1 (0 : Int32) (0 : Int64) s l).1 (f_X12_token fu x4 x1 (0 : Int32) (0 : Int64) s l).2

def p_X12_sign_95 (fu : Nat) (x1 : Int32) (x4 : Int32) (s : fl_I) (l : fl_L) : Prop :=
    (p_X12_token fu x4 x1 (0 : Int32) (0 : Int64) s l) ∧ p_X12_sign_104 fu  (f_X12_token fu x4 x1 (0 : Int32) (0 : Int64) s l).1 (f_X12_token fu x4 x1 (0 : Int32) (0 : Int64) s l).2

set_option maxRecDepth 100000 in
set_option maxHeartbeats 1000000 in
theorem lp_X12_sign_95 {G : ab_G} {fu : Nat} {d : Nat} {D : fl_D} : ∀ (x1 : Int32) (x4 : Int32) (s : fl_I) (l : fl_L), p_X12_sign_95 fu x1 x4 s l → ab_C G (d + 1) 0 0 M_X12_sign 95 [some (.ref 60), some (.int x1), none, none, some (.int x4)] [] (hp D s l) (rt (some (.int (f_X12_sign_95 fu x1 x4 s l).1)) (hp D (f_X12_sign_95 fu x1 x4 s l).2.1 (f_X12_sign_95 fu x1 x4 s l).2.2)) := by
  intro x1 x4 s l hk
  generalize he : f_X12_sign_95 fu x1 x4 s l = res
  unfold f_X12_sign_95 at he
  unfold p_X12_sign_95 at hk
  refine r_aload_n rfl rfl ?_
  refine r_iload rfl rfl ?_
  refine r_iload_n rfl rfl ?_
  refine r_iconst_ (a := 0) rfl (by decide) ?_
  refine r_lconst (a := 0) rfl (by decide) ?_
  obtain ⟨hb0, hk⟩ := hk
  refine q_callV0 [_, _, _, _] _ rfl kY_X12_token kT_X12_token rfl rfl (Nat.le_of_ble_eq_true rfl) (Nat.le_of_ble_eq_true rfl) (cc_60 _) (s_X12_token hb0) (fun r h q => ?_)
  obtain ⟨rfl, rfl⟩ := q
  simp only [Option.toList, List.cons_append, List.nil_append]
  subst he
  exact r_weak (L1 := [none, none, none, none, none]) trivial (lp_X12_sign_104 _ _ hk)

def f_X12_sign_85 (fu : Nat) (x1 : Int32) (x2 : Int32) (x4 : Int32) (s : fl_I) (l : fl_L) : Int32 × fl_I × fl_L :=
    if (x2 = (60 : Int32)) then f_X12_sign_95 fu x1 (13 : Int32) s l else f_X12_sign_95 fu x1 x4 s l

def p_X12_sign_85 (fu : Nat) (x1 : Int32) (x2 : Int32) (x4 : Int32) (s : fl_I) (l : fl_L) : Prop :=
    (((x2 = (60 : Int32)) → p_X12_sign_95 fu x1 (13 : Int32) s l) ∧ (¬ (x2 = (60 : Int32)) → p_X12_sign_95 fu x1 x4 s l))

set_option maxRecDepth 100000 in
set_option maxHeartbeats 1000000 in
theorem lp_X12_sign_85 {G : ab_G} {fu : Nat} {d : Nat} {D : fl_D} : ∀ (x1 : Int32) (x2 : Int32) (x4 : Int32) (s : fl_I) (l : fl_L), p_X12_sign_85 fu x1 x2 x4 s l → ab_C G (d + 1) 0 0 M_X12_sign 85 [some (.ref 60), some (.int x1), some (.int x2), none, some (.int x4)] [] (hp D s l) (rt (some (.int (f_X12_sign_85 fu x1 x2 x4 s l).1)) (hp D (f_X12_sign_85 fu x1 x2 x4 s l).2.1 (f_X12_sign_85 fu x1 x2 x4 s l).2.2)) := by
  intro x1 x2 x4 s l hk
  generalize he : f_X12_sign_85 fu x1 x2 x4 s l = res
  unfold f_X12_sign_85 at he
  unfold p_X12_sign_85 at hk
  refine r_iload_n rfl rfl ?_
  refine r_bipush_ (a := 60) rfl (by decide) ?_
  refine r_icmp_ne rfl (fun c_88 => ?_) (fun c_88 => ?_)
  · rw [if_neg c_88] at he
    replace hk := hk.2 c_88
    subst he
    exact r_weak (L1 := [some (.ref 60), some (.int x1), none, none, some (.int x4)]) ⟨rfl, rfl, rfl, trivial⟩ (lp_X12_sign_95 _ _ _ _ hk)
  · rw [if_pos c_88] at he
    replace hk := hk.1 c_88
    refine r_bipush_ (a := 13) rfl (by decide) ?_
    refine r_istore rfl (Nat.le_of_ble_eq_true rfl) rfl ?_
    subst he
    exact r_weak (L1 := [some (.ref 60), some (.int x1), none, none, some (.int (13 : Int32))]) ⟨rfl, rfl, rfl, trivial⟩ (lp_X12_sign_95 _ _ _ _ hk)

def f_X12_sign_75 (fu : Nat) (x1 : Int32) (x2 : Int32) (x4 : Int32) (s : fl_I) (l : fl_L) : Int32 × fl_I × fl_L :=
    if (x2 = (47 : Int32)) then f_X12_sign_85 fu x1 x2 (15 : Int32) s l else f_X12_sign_85 fu x1 x2 x4 s l

def p_X12_sign_75 (fu : Nat) (x1 : Int32) (x2 : Int32) (x4 : Int32) (s : fl_I) (l : fl_L) : Prop :=
    (((x2 = (47 : Int32)) → p_X12_sign_85 fu x1 x2 (15 : Int32) s l) ∧ (¬ (x2 = (47 : Int32)) → p_X12_sign_85 fu x1 x2 x4 s l))

set_option maxRecDepth 100000 in
set_option maxHeartbeats 1000000 in
theorem lp_X12_sign_75 {G : ab_G} {fu : Nat} {d : Nat} {D : fl_D} : ∀ (x1 : Int32) (x2 : Int32) (x4 : Int32) (s : fl_I) (l : fl_L), p_X12_sign_75 fu x1 x2 x4 s l → ab_C G (d + 1) 0 0 M_X12_sign 75 [some (.ref 60), some (.int x1), some (.int x2), none, some (.int x4)] [] (hp D s l) (rt (some (.int (f_X12_sign_75 fu x1 x2 x4 s l).1)) (hp D (f_X12_sign_75 fu x1 x2 x4 s l).2.1 (f_X12_sign_75 fu x1 x2 x4 s l).2.2)) := by
  intro x1 x2 x4 s l hk
  generalize he : f_X12_sign_75 fu x1 x2 x4 s l = res
  unfold f_X12_sign_75 at he
  unfold p_X12_sign_75 at hk
  refine r_iload_n rfl rfl ?_
  refine r_bipush_ (a := 47) rfl (by decide) ?_
  refine r_icmp_ne rfl (fun c_78 => ?_) (fun c_78 => ?_)
  · rw [if_neg c_78] at he
    replace hk := hk.2 c_78
    subst he
    exact r_weak (L1 := [some (.ref 60), some (.int x1), some (.int x2), none, some (.int x4)]) ⟨rfl, rfl, rfl, rfl, trivial⟩ (lp_X12_sign_85 _ _ _ _ _ hk)
  · rw [if_pos c_78] at he
    replace hk := hk.1 c_78
    refine r_bipush_ (a := 15) rfl (by decide) ?_
    refine r_istore rfl (Nat.le_of_ble_eq_true rfl) rfl ?_
    subst he
    exact r_weak (L1 := [some (.ref 60), some (.int x1), some (.int x2), none, some (.int (15 : Int32))]) ⟨rfl, rfl, rfl, rfl, trivial⟩ (lp_X12_sign_85 _ _ _ _ _ hk)

def f_X12_sign_65 (fu : Nat) (x1 : Int32) (x2 : Int32) (x4 : Int32) (s : fl_I) (l : fl_L) : Int32 × fl_I × fl_L :=
    if (x2 = (42 : Int32)) then f_X12_sign_75 fu x1 x2 (10 : Int32) s l else f_X12_sign_75 fu x1 x2 x4 s l

def p_X12_sign_65 (fu : Nat) (x1 : Int32) (x2 : Int32) (x4 : Int32) (s : fl_I) (l : fl_L) : Prop :=
    (((x2 = (42 : Int32)) → p_X12_sign_75 fu x1 x2 (10 : Int32) s l) ∧ (¬ (x2 = (42 : Int32)) → p_X12_sign_75 fu x1 x2 x4 s l))

set_option maxRecDepth 100000 in
set_option maxHeartbeats 1000000 in
theorem lp_X12_sign_65 {G : ab_G} {fu : Nat} {d : Nat} {D : fl_D} : ∀ (x1 : Int32) (x2 : Int32) (x4 : Int32) (s : fl_I) (l : fl_L), p_X12_sign_65 fu x1 x2 x4 s l → ab_C G (d + 1) 0 0 M_X12_sign 65 [some (.ref 60), some (.int x1), some (.int x2), none, some (.int x4)] [] (hp D s l) (rt (some (.int (f_X12_sign_65 fu x1 x2 x4 s l).1)) (hp D (f_X12_sign_65 fu x1 x2 x4 s l).2.1 (f_X12_sign_65 fu x1 x2 x4 s l).2.2)) := by
  intro x1 x2 x4 s l hk
  generalize he : f_X12_sign_65 fu x1 x2 x4 s l = res
  unfold f_X12_sign_65 at he
  unfold p_X12_sign_65 at hk
  refine r_iload_n rfl rfl ?_
  refine r_bipush_ (a := 42) rfl (by decide) ?_
  refine r_icmp_ne rfl (fun c_68 => ?_) (fun c_68 => ?_)
  · rw [if_neg c_68] at he
    replace hk := hk.2 c_68
    subst he
    exact r_weak (L1 := [some (.ref 60), some (.int x1), some (.int x2), none, some (.int x4)]) ⟨rfl, rfl, rfl, rfl, trivial⟩ (lp_X12_sign_75 _ _ _ _ _ hk)
  · rw [if_pos c_68] at he
    replace hk := hk.1 c_68
    refine r_bipush_ (a := 10) rfl (by decide) ?_
    refine r_istore rfl (Nat.le_of_ble_eq_true rfl) rfl ?_
    subst he
    exact r_weak (L1 := [some (.ref 60), some (.int x1), some (.int x2), none, some (.int (10 : Int32))]) ⟨rfl, rfl, rfl, rfl, trivial⟩ (lp_X12_sign_75 _ _ _ _ _ hk)

def f_X12_sign_55 (fu : Nat) (x1 : Int32) (x2 : Int32) (x4 : Int32) (s : fl_I) (l : fl_L) : Int32 × fl_I × fl_L :=
    if (x2 = (45 : Int32)) then f_X12_sign_65 fu x1 x2 (9 : Int32) s l else f_X12_sign_65 fu x1 x2 x4 s l

def p_X12_sign_55 (fu : Nat) (x1 : Int32) (x2 : Int32) (x4 : Int32) (s : fl_I) (l : fl_L) : Prop :=
    (((x2 = (45 : Int32)) → p_X12_sign_65 fu x1 x2 (9 : Int32) s l) ∧ (¬ (x2 = (45 : Int32)) → p_X12_sign_65 fu x1 x2 x4 s l))

set_option maxRecDepth 100000 in
set_option maxHeartbeats 1000000 in
theorem lp_X12_sign_55 {G : ab_G} {fu : Nat} {d : Nat} {D : fl_D} : ∀ (x1 : Int32) (x2 : Int32) (x4 : Int32) (s : fl_I) (l : fl_L), p_X12_sign_55 fu x1 x2 x4 s l → ab_C G (d + 1) 0 0 M_X12_sign 55 [some (.ref 60), some (.int x1), some (.int x2), none, some (.int x4)] [] (hp D s l) (rt (some (.int (f_X12_sign_55 fu x1 x2 x4 s l).1)) (hp D (f_X12_sign_55 fu x1 x2 x4 s l).2.1 (f_X12_sign_55 fu x1 x2 x4 s l).2.2)) := by
  intro x1 x2 x4 s l hk
  generalize he : f_X12_sign_55 fu x1 x2 x4 s l = res
  unfold f_X12_sign_55 at he
  unfold p_X12_sign_55 at hk
  refine r_iload_n rfl rfl ?_
  refine r_bipush_ (a := 45) rfl (by decide) ?_
  refine r_icmp_ne rfl (fun c_58 => ?_) (fun c_58 => ?_)
  · rw [if_neg c_58] at he
    replace hk := hk.2 c_58
    subst he
    exact r_weak (L1 := [some (.ref 60), some (.int x1), some (.int x2), none, some (.int x4)]) ⟨rfl, rfl, rfl, rfl, trivial⟩ (lp_X12_sign_65 _ _ _ _ _ hk)
  · rw [if_pos c_58] at he
    replace hk := hk.1 c_58
    refine r_bipush_ (a := 9) rfl (by decide) ?_
    refine r_istore rfl (Nat.le_of_ble_eq_true rfl) rfl ?_
    subst he
    exact r_weak (L1 := [some (.ref 60), some (.int x1), some (.int x2), none, some (.int (9 : Int32))]) ⟨rfl, rfl, rfl, rfl, trivial⟩ (lp_X12_sign_65 _ _ _ _ _ hk)

def f_X12_sign (fu : Nat) (v0 : Int32) (v1 : Int32) (v2 : Int32) (s : fl_I) (l : fl_L) : Int32 × fl_I × fl_L :=
  if (v1 = (59 : Int32)) then if (v1 = (43 : Int32)) then f_X12_sign_55 fu v0 v1 (8 : Int32) s l else f_X12_sign_55 fu v0 v1 (4 : Int32) s l else if (v1 = (61 : Int32)) then if (v1 = (43 : Int32)) then f_X12_sign_55 fu v0 v1 (8 : Int32) s l else f_X12_sign_55 fu v0 v1 (5 : Int32) s l else if (v1 = (40 : Int32)) then if (v1 = (43 : Int32)) then f_X12_sign_55 fu v0 v1 (8 : Int32) s l else f_X12_sign_55 fu v0 v1 (6 : Int32) s l else if (v1 = (41 : Int32)) then if (v1 = (43 : Int32)) then f_X12_sign_55 fu v0 v1 (8 : Int32) s l else f_X12_sign_55 fu v0 v1 (7 : Int32) s l else if (v1 = (43 : Int32)) then f_X12_sign_55 fu v0 v1 (8 : Int32) s l else f_X12_sign_55 fu v0 v1 (3 : Int32) s l

def p_X12_sign (fu : Nat) (v0 : Int32) (v1 : Int32) (v2 : Int32) (s : fl_I) (l : fl_L) : Prop :=
  (((v1 = (59 : Int32)) → (((v1 = (43 : Int32)) → p_X12_sign_55 fu v0 v1 (8 : Int32) s l) ∧ (¬ (v1 = (43 : Int32)) → p_X12_sign_55 fu v0 v1 (4 : Int32) s l))) ∧ (¬ (v1 = (59 : Int32)) → (((v1 = (61 : Int32)) → (((v1 = (43 : Int32)) → p_X12_sign_55 fu v0 v1 (8 : Int32) s l) ∧ (¬ (v1 = (43 : Int32)) → p_X12_sign_55 fu v0 v1 (5 : Int32) s l))) ∧ (¬ (v1 = (61 : Int32)) → (((v1 = (40 : Int32)) → (((v1 = (43 : Int32)) → p_X12_sign_55 fu v0 v1 (8 : Int32) s l) ∧ (¬ (v1 = (43 : Int32)) → p_X12_sign_55 fu v0 v1 (6 : Int32) s l))) ∧ (¬ (v1 = (40 : Int32)) → (((v1 = (41 : Int32)) → (((v1 = (43 : Int32)) → p_X12_sign_55 fu v0 v1 (8 : Int32) s l) ∧ (¬ (v1 = (43 : Int32)) → p_X12_sign_55 fu v0 v1 (7 : Int32) s l))) ∧ (¬ (v1 = (41 : Int32)) → (((v1 = (43 : Int32)) → p_X12_sign_55 fu v0 v1 (8 : Int32) s l) ∧ (¬ (v1 = (43 : Int32)) → p_X12_sign_55 fu v0 v1 (3 : Int32) s l))))))))))

set_option maxRecDepth 100000 in
set_option maxHeartbeats 1000000 in
theorem s_X12_sign {G : ab_G} {fu : Nat} {d : Nat} {D : fl_D} {s : fl_I} {l : fl_L} {v0 : Int32} {v1 : Int32} {v2 : Int32} (hk : p_X12_sign fu v0 v1 v2 s l) : ab_C G (d + 1) 0 0 M_X12_sign 0 (ab_ent [.ref 60, .int v0, .int v1, .int v2]) [] (hp D s l) (rt (some (.int (f_X12_sign fu v0 v1 v2 s l).1)) (hp D (f_X12_sign fu v0 v1 v2 s l).2.1 (f_X12_sign fu v0 v1 v2 s l).2.2)) := by
  generalize he : (f_X12_sign fu v0 v1 v2 s l) = res
  unfold f_X12_sign at he
  unfold p_X12_sign at hk
  refine r_weak (L1 := [some (.ref 60), some (.int v0), some (.int v1), some (.int v2), none]) ⟨rfl, rfl, rfl, rfl, trivial⟩ ?_
  refine r_iload_n rfl rfl ?_
  refine r_bipush_ (a := 59) rfl (by decide) ?_
  refine r_icmp_ne rfl (fun c_3 => ?_) (fun c_3 => ?_)
  · rw [if_neg c_3] at he
    replace hk := hk.2 c_3
    refine r_iload_n rfl rfl ?_
    refine r_bipush_ (a := 61) rfl (by decide) ?_
    refine r_icmp_ne rfl (fun c_13 => ?_) (fun c_13 => ?_)
    · rw [if_neg c_13] at he
      replace hk := hk.2 c_13
      refine r_iload_n rfl rfl ?_
      refine r_bipush_ (a := 40) rfl (by decide) ?_
      refine r_icmp_ne rfl (fun c_23 => ?_) (fun c_23 => ?_)
      · rw [if_neg c_23] at he
        replace hk := hk.2 c_23
        refine r_iload_n rfl rfl ?_
        refine r_bipush_ (a := 41) rfl (by decide) ?_
        refine r_icmp_ne rfl (fun c_34 => ?_) (fun c_34 => ?_)
        · rw [if_neg c_34] at he
          replace hk := hk.2 c_34
          refine r_iconst_ (a := 3) rfl (by decide) ?_
          refine r_istore rfl (Nat.le_of_ble_eq_true rfl) rfl ?_
          refine r_iload_n rfl rfl ?_
          refine r_bipush_ (a := 43) rfl (by decide) ?_
          refine r_icmp_ne rfl (fun c_48 => ?_) (fun c_48 => ?_)
          · rw [if_neg c_48] at he
            replace hk := hk.2 c_48
            subst he
            exact r_weak (L1 := [some (.ref 60), some (.int v0), some (.int v1), none, some (.int (3 : Int32))]) ⟨rfl, rfl, rfl, rfl, trivial⟩ (lp_X12_sign_55 _ _ _ _ _ hk)
          · rw [if_pos c_48] at he
            replace hk := hk.1 c_48
            refine r_bipush_ (a := 8) rfl (by decide) ?_
            refine r_istore rfl (Nat.le_of_ble_eq_true rfl) rfl ?_
            subst he
            exact r_weak (L1 := [some (.ref 60), some (.int v0), some (.int v1), none, some (.int (8 : Int32))]) ⟨rfl, rfl, rfl, rfl, trivial⟩ (lp_X12_sign_55 _ _ _ _ _ hk)
        · rw [if_pos c_34] at he
          replace hk := hk.1 c_34
          refine r_bipush_ (a := 7) rfl (by decide) ?_
          refine r_goto rfl ?_
          refine r_istore rfl (Nat.le_of_ble_eq_true rfl) rfl ?_
          refine r_iload_n rfl rfl ?_
          refine r_bipush_ (a := 43) rfl (by decide) ?_
          refine r_icmp_ne rfl (fun c_48 => ?_) (fun c_48 => ?_)
          · rw [if_neg c_48] at he
            replace hk := hk.2 c_48
            subst he
            exact r_weak (L1 := [some (.ref 60), some (.int v0), some (.int v1), none, some (.int (7 : Int32))]) ⟨rfl, rfl, rfl, rfl, trivial⟩ (lp_X12_sign_55 _ _ _ _ _ hk)
          · rw [if_pos c_48] at he
            replace hk := hk.1 c_48
            refine r_bipush_ (a := 8) rfl (by decide) ?_
            refine r_istore rfl (Nat.le_of_ble_eq_true rfl) rfl ?_
            subst he
            exact r_weak (L1 := [some (.ref 60), some (.int v0), some (.int v1), none, some (.int (8 : Int32))]) ⟨rfl, rfl, rfl, rfl, trivial⟩ (lp_X12_sign_55 _ _ _ _ _ hk)
      · rw [if_pos c_23] at he
        replace hk := hk.1 c_23
        refine r_bipush_ (a := 6) rfl (by decide) ?_
        refine r_goto rfl ?_
        refine r_istore rfl (Nat.le_of_ble_eq_true rfl) rfl ?_
        refine r_iload_n rfl rfl ?_
        refine r_bipush_ (a := 43) rfl (by decide) ?_
        refine r_icmp_ne rfl (fun c_48 => ?_) (fun c_48 => ?_)
        · rw [if_neg c_48] at he
          replace hk := hk.2 c_48
          subst he
          exact r_weak (L1 := [some (.ref 60), some (.int v0), some (.int v1), none, some (.int (6 : Int32))]) ⟨rfl, rfl, rfl, rfl, trivial⟩ (lp_X12_sign_55 _ _ _ _ _ hk)
        · rw [if_pos c_48] at he
          replace hk := hk.1 c_48
          refine r_bipush_ (a := 8) rfl (by decide) ?_
          refine r_istore rfl (Nat.le_of_ble_eq_true rfl) rfl ?_
          subst he
          exact r_weak (L1 := [some (.ref 60), some (.int v0), some (.int v1), none, some (.int (8 : Int32))]) ⟨rfl, rfl, rfl, rfl, trivial⟩ (lp_X12_sign_55 _ _ _ _ _ hk)
    · rw [if_pos c_13] at he
      replace hk := hk.1 c_13
      refine r_iconst_ (a := 5) rfl (by decide) ?_
      refine r_goto rfl ?_
      refine r_istore rfl (Nat.le_of_ble_eq_true rfl) rfl ?_
      refine r_iload_n rfl rfl ?_
      refine r_bipush_ (a := 43) rfl (by decide) ?_
      refine r_icmp_ne rfl (fun c_48 => ?_) (fun c_48 => ?_)
      · rw [if_neg c_48] at he
        replace hk := hk.2 c_48
        subst he
        exact r_weak (L1 := [some (.ref 60), some (.int v0), some (.int v1), none, some (.int (5 : Int32))]) ⟨rfl, rfl, rfl, rfl, trivial⟩ (lp_X12_sign_55 _ _ _ _ _ hk)
      · rw [if_pos c_48] at he
        replace hk := hk.1 c_48
        refine r_bipush_ (a := 8) rfl (by decide) ?_
        refine r_istore rfl (Nat.le_of_ble_eq_true rfl) rfl ?_
        subst he
        exact r_weak (L1 := [some (.ref 60), some (.int v0), some (.int v1), none, some (.int (8 : Int32))]) ⟨rfl, rfl, rfl, rfl, trivial⟩ (lp_X12_sign_55 _ _ _ _ _ hk)
  · rw [if_pos c_3] at he
    replace hk := hk.1 c_3
    refine r_iconst_ (a := 4) rfl (by decide) ?_
    refine r_goto rfl ?_
    refine r_istore rfl (Nat.le_of_ble_eq_true rfl) rfl ?_
    refine r_iload_n rfl rfl ?_
    refine r_bipush_ (a := 43) rfl (by decide) ?_
    refine r_icmp_ne rfl (fun c_48 => ?_) (fun c_48 => ?_)
    · rw [if_neg c_48] at he
      replace hk := hk.2 c_48
      subst he
      exact r_weak (L1 := [some (.ref 60), some (.int v0), some (.int v1), none, some (.int (4 : Int32))]) ⟨rfl, rfl, rfl, rfl, trivial⟩ (lp_X12_sign_55 _ _ _ _ _ hk)
    · rw [if_pos c_48] at he
      replace hk := hk.1 c_48
      refine r_bipush_ (a := 8) rfl (by decide) ?_
      refine r_istore rfl (Nat.le_of_ble_eq_true rfl) rfl ?_
      subst he
      exact r_weak (L1 := [some (.ref 60), some (.int v0), some (.int v1), none, some (.int (8 : Int32))]) ⟨rfl, rfl, rfl, rfl, trivial⟩ (lp_X12_sign_55 _ _ _ _ _ hk)

