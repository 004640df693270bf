set_option maxHeartbeats 1000000 in
theorem fr_X6_intKind_5 {fu : Nat}   {cq cj : Nat} (h0 : ¬ (cq = 4 ∧ cj = 4))  : ∀ (n : Nat) (x2 : Int32) (x3 : Int32) (x4 : Int32) (s : fl_I) (l : fl_L), (f_X6_intKind_5 fu n x2 x3 x4 s l).2.1 cq cj = s cq cj := by
  intro n; induction n with
  | zero => intro x2 x3 x4 s l; rfl
  | succ n ih =>
    intro x2 x3 x4 s l; unfold f_X6_intKind_5
    repeat' (with_reducible apply itT1)
    all_goals first | with_reducible rfl | with_reducible exact ih _ _ _ _ _ | simp (disch := first | assumption | omega | (intros; with_reducible exact ih _ _ _ _ _)) only [ih, wi_f, wi_g, wc_f, ff_s, ff_l, su_f]
set_option maxHeartbeats 1000000 in
theorem ll_X6_intKind_5 {fu : Nat}   {cq cj : Nat} (h0 : cq ≠ 7)  : ∀ (n : Nat) (x2 : Int32) (x3 : Int32) (x4 : Int32) (s : fl_I) (l : fl_L), (f_X6_intKind_5 fu n x2 x3 x4 s l).2.2 cq cj = l cq cj := by
  intro n; induction n with
  | zero => intro x2 x3 x4 s l; rfl
  | succ n ih =>
    intro x2 x3 x4 s l; unfold f_X6_intKind_5
    repeat' (with_reducible apply itT2)
    all_goals first | with_reducible rfl | with_reducible exact ih _ _ _ _ _ | simp (disch := first | assumption | omega | (intros; with_reducible exact ih _ _ _ _ _)) only [ih, wl_f, wl_g, ff_l]
set_option maxHeartbeats 1000000 in
theorem fr_X6_intKind {fu : Nat} {v1 : Int32} {s : fl_I} {l : fl_L}  {cq cj : Nat} (h0 : ¬ (cq = 4 ∧ cj = 4))  : (f_X6_intKind fu v1 s l).2.1 cq cj = s cq cj := by
  unfold f_X6_intKind
  repeat' (with_reducible apply itT1)
  all_goals first | with_reducible rfl | simp (disch := first | assumption | omega) only [fr_X6_intKind_5, wi_f, wi_g, wc_f, ff_s, ff_l, su_f]
set_option maxHeartbeats 1000000 in
theorem ll_X6_intKind {fu : Nat} {v1 : Int32} {s : fl_I} {l : fl_L}  {cq cj : Nat} (h0 : cq ≠ 7)  : (f_X6_intKind fu v1 s l).2.2 cq cj = l cq cj := by
  unfold f_X6_intKind
  repeat' (with_reducible apply itT2)
  all_goals first | with_reducible rfl | simp (disch := first | assumption | omega) only [ll_X6_intKind_5, wl_f, wl_g, ff_l]
set_option maxHeartbeats 1000000 in
theorem fr_X12_unit {fu : Nat} {s : fl_I} {l : fl_L}  {cq cj : Nat} (h0 : ¬ (cq = 60 ∧ cj = 11)) (h1 : ¬ (cq = 60 ∧ cj = 13)) (h2 : ¬ (cq = 60 ∧ cj = 14)) (h3 : ¬ (cq = 60 ∧ cj = 42)) (h4 : cq ≠ 89) (h5 : cq ≠ 90)  : (f_X12_unit fu s l).1 cq cj = s cq cj := by
  unfold f_X12_unit
  repeat' (with_reducible apply itP1)
  all_goals first | with_reducible rfl | simp (disch := first | assumption | omega) only [fr_X12_emit, fr_X12_fail, fr_X12_goesOn, wi_f, wi_g, wc_f, ff_s, ff_l, su_f]
set_option maxHeartbeats 1000000 in
theorem ll_X12_unit {fu : Nat} {s : fl_I} {l : fl_L}    : (f_X12_unit fu s l).2 = l := by
  unfold f_X12_unit
  repeat' (with_reducible apply itP3)
  all_goals first | with_reducible rfl | simp (disch := first | assumption | omega) only [ll_X12_emit, ll_X12_fail, ll_X12_goesOn, ff_l]
set_option maxHeartbeats 1000000 in
theorem fr_X12_comesOut_41 {fu : Nat} {s : fl_I} {l : fl_L}  {cq cj : Nat}   : (f_X12_comesOut_41 fu s l).1 cq cj = s cq cj := by
  unfold f_X12_comesOut_41
  repeat' (with_reducible apply itP1)
  all_goals first | with_reducible rfl | simp (disch := first | assumption | omega) only [wi_f, wi_g, wc_f, ff_s, ff_l, su_f]
set_option maxHeartbeats 1000000 in
theorem ll_X12_comesOut_41 {fu : Nat} {s : fl_I} {l : fl_L}    : (f_X12_comesOut_41 fu s l).2 = l := by
  unfold f_X12_comesOut_41
  repeat' (with_reducible apply itP3)
  all_goals first | with_reducible rfl | simp (disch := first | assumption | omega) only [ff_l]
set_option maxHeartbeats 1000000 in
theorem fr_X12_comesOut_88 {fu : Nat} {K0 : Int32 → fl_I → fl_L → fl_I × fl_L} {x1 : Int32} {s : fl_I} {l : fl_L}  {cq cj : Nat}  (hkK0 : ∀ (k0 : Int32) (k1 : fl_I) (k2 : fl_L), (K0 k0 k1 k2).1 cq cj = k1 cq cj) : (f_X12_comesOut_88 fu K0 x1 s l).1 cq cj = s cq cj := by
  unfold f_X12_comesOut_88
  repeat' (with_reducible apply itP1)
  all_goals first | with_reducible rfl | simp (disch := first | assumption | omega) only [hkK0, wi_f, wi_g, wc_f, ff_s, ff_l, su_f]
set_option maxHeartbeats 1000000 in
theorem ll_X12_comesOut_88 {fu : Nat} {K0 : Int32 → fl_I → fl_L → fl_I × fl_L} {x1 : Int32} {s : fl_I} {l : fl_L}  {cq cj : Nat}  (hkK0 : ∀ (k0 : Int32) (k1 : fl_I) (k2 : fl_L), (K0 k0 k1 k2).2 cq cj = k2 cq cj) : (f_X12_comesOut_88 fu K0 x1 s l).2 cq cj = l cq cj := by
  unfold f_X12_comesOut_88
  repeat' (with_reducible apply itP2)
  all_goals first | with_reducible rfl | simp (disch := first | assumption | omega) only [hkK0, wl_f, wl_g, ff_l]
set_option maxHeartbeats 1000000 in
theorem fr_X12_comesOut_42 {fu : Nat} {K0 : Int32 → fl_I → fl_L → fl_I × fl_L} {x1 : Int32} {x2 : Int32} {s : fl_I} {l : fl_L}  {cq cj : Nat} (h0 : ¬ (cq = 60 ∧ cj = 42)) (h1 : ¬ (cq = 60 ∧ cj = 46)) (h2 : cq ≠ 89) (h3 : cq ≠ 90) (hkK0 : ∀ (k0 : Int32) (k1 : fl_I) (k2 : fl_L), (K0 k0 k1 k2).1 cq cj = k1 cq cj) : (f_X12_comesOut_42 fu K0 x1 x2 s l).1 cq cj = s cq cj := by
  unfold f_X12_comesOut_42
  repeat' (with_reducible apply itP1)
  all_goals first | with_reducible rfl | simp (disch := first | assumption | omega) only [fr_X12_comesOut_88, fr_X12_emit, hkK0, wi_f, wi_g, wc_f, ff_s, ff_l, su_f]
set_option maxHeartbeats 1000000 in
theorem ll_X12_comesOut_42 {fu : Nat} {K0 : Int32 → fl_I → fl_L → fl_I × fl_L} {x1 : Int32} {x2 : Int32} {s : fl_I} {l : fl_L}  {cq cj : Nat}  (hkK0 : ∀ (k0 : Int32) (k1 : fl_I) (k2 : fl_L), (K0 k0 k1 k2).2 cq cj = k2 cq cj) : (f_X12_comesOut_42 fu K0 x1 x2 s l).2 cq cj = l cq cj := by
  unfold f_X12_comesOut_42
  repeat' (with_reducible apply itP2)
  all_goals first | with_reducible rfl | simp (disch := first | assumption | omega) only [ll_X12_comesOut_88, ll_X12_emit, hkK0, wl_f, wl_g, ff_l]
set_option maxHeartbeats 1000000 in
theorem fr_X12_comesOut_0 {fu : Nat}   {cq cj : Nat} (h0 : ¬ (cq = 60 ∧ cj = 42)) (h1 : ¬ (cq = 60 ∧ cj = 46)) (h2 : cq ≠ 89) (h3 : cq ≠ 90)  : ∀ (n : Nat) (x1 : Int32) (s : fl_I) (l : fl_L), (f_X12_comesOut_0 fu n x1 s l).1 cq cj = s cq cj := by
  intro n; induction n with
  | zero => intro x1 s l; rfl
  | succ n ih =>
    intro x1 s l; unfold f_X12_comesOut_0
    repeat' (with_reducible apply itP1)
    all_goals first | with_reducible rfl | with_reducible exact ih _ _ _ | simp (disch := first | assumption | omega | (intros; with_reducible exact ih _ _ _)) only [ih, fr_X12_comesOut_41, fr_X12_comesOut_42, wi_f, wi_g, wc_f, ff_s, ff_l, su_f]
set_option maxHeartbeats 1000000 in
theorem ll_X12_comesOut_0 {fu : Nat}   {cq cj : Nat}   : ∀ (n : Nat) (x1 : Int32) (s : fl_I) (l : fl_L), (f_X12_comesOut_0 fu n x1 s l).2 cq cj = l cq cj := by
  intro n; induction n with
  | zero => intro x1 s l; rfl
  | succ n ih =>
    intro x1 s l; unfold f_X12_comesOut_0
    repeat' (with_reducible apply itP2)
    all_goals first | with_reducible rfl | with_reducible exact ih _ _ _ | simp (disch := first | assumption | omega | (intros; with_reducible exact ih _ _ _)) only [ih, ll_X12_comesOut_41, ll_X12_comesOut_42, wl_f, wl_g, ff_l]
set_option maxHeartbeats 1000000 in
theorem fr_X12_comesOut {fu : Nat} {v0 : Int32} {s : fl_I} {l : fl_L}  {cq cj : Nat} (h0 : ¬ (cq = 60 ∧ cj = 42)) (h1 : ¬ (cq = 60 ∧ cj = 46)) (h2 : cq ≠ 89) (h3 : cq ≠ 90)  : (f_X12_comesOut fu v0 s l).1 cq cj = s cq cj := by
  unfold f_X12_comesOut
  repeat' (with_reducible apply itP1)
  all_goals first | with_reducible rfl | simp (disch := first | assumption | omega) only [fr_X12_comesOut_0, wi_f, wi_g, wc_f, ff_s, ff_l, su_f]
set_option maxHeartbeats 1000000 in
theorem ll_X12_comesOut {fu : Nat} {v0 : Int32} {s : fl_I} {l : fl_L}  {cq cj : Nat}   : (f_X12_comesOut fu v0 s l).2 cq cj = l cq cj := by
  unfold f_X12_comesOut
  repeat' (with_reducible apply itP2)
  all_goals first | with_reducible rfl | simp (disch := first | assumption | omega) only [ll_X12_comesOut_0, wl_f, wl_g, ff_l]
set_option maxHeartbeats 1000000 in
theorem fr_X12_picksUp_8 {fu : Nat}   {cq cj : Nat} (h0 : cq ≠ 95)  : ∀ (n : Nat) (x1 : Int32) (x2 : Int32) (x3 : Int32) (s : fl_I) (l : fl_L), (f_X12_picksUp_8 fu n x1 x2 x3 s l).1 cq cj = s cq cj := by
  intro n; induction n with
  | zero => intro x1 x2 x3 s l; rfl
  | succ n ih =>
    intro x1 x2 x3 s l; unfold f_X12_picksUp_8
    repeat' (with_reducible apply itP1)
    all_goals first | with_reducible rfl | with_reducible exact ih _ _ _ _ _ | simp (disch := first | assumption | omega | (intros; with_reducible exact ih _ _ _ _ _)) only [ih, wi_f, wi_g, wc_f, ff_s, ff_l, su_f]
set_option maxHeartbeats 1000000 in
theorem ll_X12_picksUp_8 {fu : Nat}     : ∀ (n : Nat) (x1 : Int32) (x2 : Int32) (x3 : Int32) (s : fl_I) (l : fl_L), (f_X12_picksUp_8 fu n x1 x2 x3 s l).2 = l := by
  intro n; induction n with
  | zero => intro x1 x2 x3 s l; rfl
  | succ n ih =>
    intro x1 x2 x3 s l; unfold f_X12_picksUp_8
    repeat' (with_reducible apply itP3)
    all_goals first | with_reducible rfl | with_reducible exact ih _ _ _ _ _ | simp (disch := first | assumption | omega | (intros; with_reducible exact ih _ _ _ _ _)) only [ih, ff_l]
set_option maxHeartbeats 1000000 in
theorem fr_X12_picksUp {fu : Nat} {v0 : Int32} {s : fl_I} {l : fl_L}  {cq cj : Nat} (h0 : cq ≠ 95)  : (f_X12_picksUp fu v0 s l).1 cq cj = s cq cj := by
  unfold f_X12_picksUp
  repeat' (with_reducible apply itP1)
  all_goals first | with_reducible rfl | simp (disch := first | assumption | omega) only [fr_X12_picksUp_8, wi_f, wi_g, wc_f, ff_s, ff_l, su_f]
set_option maxHeartbeats 1000000 in
theorem ll_X12_picksUp {fu : Nat} {v0 : Int32} {s : fl_I} {l : fl_L}    : (f_X12_picksUp fu v0 s l).2 = l := by
  unfold f_X12_picksUp
  repeat' (with_reducible apply itP3)
  all_goals first | with_reducible rfl | simp (disch := first | assumption | omega) only [ll_X12_picksUp_8, ff_l]
set_option maxHeartbeats 1000000 in
theorem fr_X10_copy {fu : Nat} {a : Nat} {b : Nat} {s : fl_I} {l : fl_L}  {cq cj : Nat} (h0 : cq ≠ (a + 1)) (h1 : cq ≠ (a + 2)) (h2 : cq ≠ (a + 3)) (h3 : cq ≠ (a + 4)) (h4 : cq ≠ (a + 5)) (h5 : ¬ (cq = a ∧ cj = 0)) (h6 : ¬ (cq = a ∧ cj = 1)) (h7 : ¬ (cq = a ∧ cj = 2))  : (f_X10_copy fu a b s l).1 cq cj = s cq cj := by
  unfold f_X10_copy
  repeat' (with_reducible apply itP1)
  all_goals first | with_reducible rfl | simp (disch := first | assumption | omega) only [wi_f, wi_g, wc_f, ff_s, ff_l, su_f]
set_option maxHeartbeats 1000000 in
theorem ll_X10_copy {fu : Nat} {a : Nat} {b : Nat} {s : fl_I} {l : fl_L}    : (f_X10_copy fu a b s l).2 = l := by
  unfold f_X10_copy
  repeat' (with_reducible apply itP3)
  all_goals first | with_reducible rfl | simp (disch := first | assumption | omega) only [ff_l]
set_option maxHeartbeats 1000000 in
theorem fr_X12_looksAt {fu : Nat} {v0 : Int32} {s : fl_I} {l : fl_L}  {cq cj : Nat} (h0 : cq ≠ 92)  : (f_X12_looksAt fu v0 s l).1 cq cj = s cq cj := by
  unfold f_X12_looksAt
  repeat' (with_reducible apply itP1)
  all_goals first | with_reducible rfl | simp (disch := first | assumption | omega) only [fr_X12_looks, wi_f, wi_g, wc_f, ff_s, ff_l, su_f]
set_option maxHeartbeats 1000000 in
theorem ll_X12_looksAt {fu : Nat} {v0 : Int32} {s : fl_I} {l : fl_L}    : (f_X12_looksAt fu v0 s l).2 = l := by
  unfold f_X12_looksAt
  repeat' (with_reducible apply itP3)
  all_goals first | with_reducible rfl | simp (disch := first | assumption | omega) only [ll_X12_looks, ff_l]
set_option maxHeartbeats 1000000 in
theorem fr_X12_fillsHeap_81 {fu : Nat} {K23 : Int32 → Int32 → fl_I → fl_L → fl_I × fl_L} {x1 : Int32} {x2 : Int32} {s : fl_I} {l : fl_L}  {cq cj : Nat}  (hkK23 : ∀ (k0 : Int32) (k1 : Int32) (k2 : fl_I) (k3 : fl_L), (K23 k0 k1 k2 k3).1 cq cj = k2 cq cj) : (f_X12_fillsHeap_81 fu K23 x1 x2 s l).1 cq cj = s cq cj := by
  unfold f_X12_fillsHeap_81
  repeat' (with_reducible apply itP1)
  all_goals first | with_reducible rfl | simp (disch := first | assumption | omega) only [hkK23, wi_f, wi_g, wc_f, ff_s, ff_l, su_f]
set_option maxHeartbeats 1000000 in
theorem ll_X12_fillsHeap_81 {fu : Nat} {K23 : Int32 → Int32 → fl_I → fl_L → fl_I × fl_L} {x1 : Int32} {x2 : Int32} {s : fl_I} {l : fl_L}  {cq cj : Nat}  (hkK23 : ∀ (k0 : Int32) (k1 : Int32) (k2 : fl_I) (k3 : fl_L), (K23 k0 k1 k2 k3).2 cq cj = k3 cq cj) : (f_X12_fillsHeap_81 fu K23 x1 x2 s l).2 cq cj = l cq cj := by
  unfold f_X12_fillsHeap_81
  repeat' (with_reducible apply itP2)
  all_goals first | with_reducible rfl | simp (disch := first | assumption | omega) only [hkK23, wl_f, wl_g, ff_l]
set_option maxHeartbeats 1000000 in
theorem fr_X12_fillsHeap_66 {fu : Nat} {K23 : Int32 → Int32 → fl_I → fl_L → fl_I × fl_L} {x1 : Int32} {x2 : Int32} {s : fl_I} {l : fl_L}  {cq cj : Nat} (h0 : cq ≠ 102) (hkK23 : ∀ (k0 : Int32) (k1 : Int32) (k2 : fl_I) (k3 : fl_L), (K23 k0 k1 k2 k3).1 cq cj = k2 cq cj) : (f_X12_fillsHeap_66 fu K23 x1 x2 s l).1 cq cj = s cq cj := by
  unfold f_X12_fillsHeap_66
  repeat' (with_reducible apply itP1)
  all_goals first | with_reducible rfl | simp (disch := first | assumption | omega) only [fr_X12_fillsHeap_81, hkK23, wi_f, wi_g, wc_f, ff_s, ff_l, su_f]
set_option maxHeartbeats 1000000 in
theorem ll_X12_fillsHeap_66 {fu : Nat} {K23 : Int32 → Int32 → fl_I → fl_L → fl_I × fl_L} {x1 : Int32} {x2 : Int32} {s : fl_I} {l : fl_L}  {cq cj : Nat}  (hkK23 : ∀ (k0 : Int32) (k1 : Int32) (k2 : fl_I) (k3 : fl_L), (K23 k0 k1 k2 k3).2 cq cj = k3 cq cj) : (f_X12_fillsHeap_66 fu K23 x1 x2 s l).2 cq cj = l cq cj := by
  unfold f_X12_fillsHeap_66
  repeat' (with_reducible apply itP2)
  all_goals first | with_reducible rfl | simp (disch := first | assumption | omega) only [ll_X12_fillsHeap_81, hkK23, wl_f, wl_g, ff_l]
set_option maxHeartbeats 1000000 in
theorem fr_X12_fillsHeap_53 {fu : Nat} {K23 : Int32 → Int32 → fl_I → fl_L → fl_I × fl_L} {x1 : Int32} {x2 : Int32} {s : fl_I} {l : fl_L}  {cq cj : Nat} (h0 : cq ≠ 102) (hkK23 : ∀ (k0 : Int32) (k1 : Int32) (k2 : fl_I) (k3 : fl_L), (K23 k0 k1 k2 k3).1 cq cj = k2 cq cj) : (f_X12_fillsHeap_53 fu K23 x1 x2 s l).1 cq cj = s cq cj := by
  unfold f_X12_fillsHeap_53
  repeat' (with_reducible apply itP1)
  all_goals first | with_reducible rfl | simp (disch := first | assumption | omega) only [fr_X12_fillsHeap_66, fr_X12_fillsHeap_81, hkK23, wi_f, wi_g, wc_f, ff_s, ff_l, su_f]
set_option maxHeartbeats 1000000 in
theorem ll_X12_fillsHeap_53 {fu : Nat} {K23 : Int32 → Int32 → fl_I → fl_L → fl_I × fl_L} {x1 : Int32} {x2 : Int32} {s : fl_I} {l : fl_L}  {cq cj : Nat}  (hkK23 : ∀ (k0 : Int32) (k1 : Int32) (k2 : fl_I) (k3 : fl_L), (K23 k0 k1 k2 k3).2 cq cj = k3 cq cj) : (f_X12_fillsHeap_53 fu K23 x1 x2 s l).2 cq cj = l cq cj := by
  unfold f_X12_fillsHeap_53
  repeat' (with_reducible apply itP2)
  all_goals first | with_reducible rfl | simp (disch := first | assumption | omega) only [ll_X12_fillsHeap_66, ll_X12_fillsHeap_81, hkK23, wl_f, wl_g, ff_l]
set_option maxHeartbeats 1000000 in
theorem fr_X12_fillsHeap_23 {fu : Nat}   {cq cj : Nat} (h0 : cq ≠ 102)  : ∀ (n : Nat) (x1 : Int32) (x2 : Int32) (s : fl_I) (l : fl_L), (f_X12_fillsHeap_23 fu n x1 x2 s l).1 cq cj = s cq cj := by
  intro n; induction n with
  | zero => intro x1 x2 s l; rfl
  | succ n ih =>
    intro x1 x2 s l; unfold f_X12_fillsHeap_23
    repeat' (with_reducible apply itP1)
    all_goals first | with_reducible rfl | with_reducible exact ih _ _ _ _ | simp (disch := first | assumption | omega | (intros; with_reducible exact ih _ _ _ _)) only [ih, fr_X12_fillsHeap_53, fr_X12_fillsHeap_66, wi_f, wi_g, wc_f, ff_s, ff_l, su_f]
set_option maxHeartbeats 1000000 in
theorem ll_X12_fillsHeap_23 {fu : Nat}   {cq cj : Nat}   : ∀ (n : Nat) (x1 : Int32) (x2 : Int32) (s : fl_I) (l : fl_L), (f_X12_fillsHeap_23 fu n x1 x2 s l).2 cq cj = l cq cj := by
  intro n; induction n with
  | zero => intro x1 x2 s l; rfl
  | succ n ih =>
    intro x1 x2 s l; unfold f_X12_fillsHeap_23
    repeat' (with_reducible apply itP2)
    all_goals first | with_reducible rfl | with_reducible exact ih _ _ _ _ | simp (disch := first | assumption | omega | (intros; with_reducible exact ih _ _ _ _)) only [ih, ll_X12_fillsHeap_53, ll_X12_fillsHeap_66, wl_f, wl_g, ff_l]
set_option maxHeartbeats 1000000 in
theorem fr_X12_fillsHeap_2 {fu : Nat}   {cq cj : Nat} (h0 : cq ≠ 102)  : ∀ (n : Nat) (x1 : Int32) (x2 : Int32) (s : fl_I) (l : fl_L), (f_X12_fillsHeap_2 fu n x1 x2 s l).1 cq cj = s cq cj := by
  intro n; induction n with
  | zero => intro x1 x2 s l; rfl
  | succ n ih =>
    intro x1 x2 s l; unfold f_X12_fillsHeap_2
    repeat' (with_reducible apply itP1)
    all_goals first | with_reducible rfl | with_reducible exact ih _ _ _ _ | simp (disch := first | assumption | omega | (intros; with_reducible exact ih _ _ _ _)) only [ih, fr_X12_fillsHeap_23, wi_f, wi_g, wc_f, ff_s, ff_l, su_f]
set_option maxHeartbeats 1000000 in
theorem ll_X12_fillsHeap_2 {fu : Nat}   {cq cj : Nat}   : ∀ (n : Nat) (x1 : Int32) (x2 : Int32) (s : fl_I) (l : fl_L), (f_X12_fillsHeap_2 fu n x1 x2 s l).2 cq cj = l cq cj := by
  intro n; induction n with
  | zero => intro x1 x2 s l; rfl
  | succ n ih =>
    intro x1 x2 s l; unfold f_X12_fillsHeap_2
    repeat' (with_reducible apply itP2)
    all_goals first | with_reducible rfl | with_reducible exact ih _ _ _ _ | simp (disch := first | assumption | omega | (intros; with_reducible exact ih _ _ _ _)) only [ih, ll_X12_fillsHeap_23, wl_f, wl_g, ff_l]
set_option maxHeartbeats 1000000 in
theorem fr_X12_fillsHeap {fu : Nat} {v0 : Int32} {s : fl_I} {l : fl_L}  {cq cj : Nat} (h0 : cq ≠ 102)  : (f_X12_fillsHeap fu v0 s l).1 cq cj = s cq cj := by
  unfold f_X12_fillsHeap
  repeat' (with_reducible apply itP1)
  all_goals first | with_reducible rfl | simp (disch := first | assumption | omega) only [fr_X12_fillsHeap_2, wi_f, wi_g, wc_f, ff_s, ff_l, su_f]
set_option maxHeartbeats 1000000 in
theorem ll_X12_fillsHeap {fu : Nat} {v0 : Int32} {s : fl_I} {l : fl_L}  {cq cj : Nat}   : (f_X12_fillsHeap fu v0 s l).2 cq cj = l cq cj := by
  unfold f_X12_fillsHeap
  repeat' (with_reducible apply itP2)
  all_goals first | with_reducible rfl | simp (disch := first | assumption | omega) only [ll_X12_fillsHeap_2, wl_f, wl_g, ff_l]
set_option maxHeartbeats 1000000 in
theorem fr_X12_sign_104 {fu : Nat} {s : fl_I} {l : fl_L}  {cq cj : Nat}   : (f_X12_sign_104 fu s l).2.1 cq cj = s cq cj := by
  unfold f_X12_sign_104
  repeat' (with_reducible apply itT1)
  all_goals first | with_reducible rfl | simp (disch := first | assumption | omega) only [wi_f, wi_g, wc_f, ff_s, ff_l, su_f]
set_option maxHeartbeats 1000000 in
theorem ll_X12_sign_104 {fu : Nat} {s : fl_I} {l : fl_L}    : (f_X12_sign_104 fu s l).2.2 = l := by
  unfold f_X12_sign_104
  repeat' (with_reducible apply itT3)
  all_goals first | with_reducible rfl | simp (disch := first | assumption | omega) only [ff_l]
set_option maxHeartbeats 1000000 in
theorem fr_X12_sign_95 {fu : Nat} {x1 : Int32} {x4 : Int32} {s : fl_I} {l : fl_L}  {cq cj : Nat} (h0 : ¬ (cq = 60 ∧ cj = 10)) (h1 : cq ≠ 63) (h2 : cq ≠ 64) (h3 : cq ≠ 65)  : (f_X12_sign_95 fu x1 x4 s l).2.1 cq cj = s cq cj := by
  unfold f_X12_sign_95
  repeat' (with_reducible apply itT1)
  all_goals first | with_reducible rfl | simp (disch := first | assumption | omega) only [fr_X12_sign_104, fr_X12_token, wi_f, wi_g, wc_f, ff_s, ff_l, su_f]
set_option maxHeartbeats 1000000 in
theorem ll_X12_sign_95 {fu : Nat} {x1 : Int32} {x4 : Int32} {s : fl_I} {l : fl_L}  {cq cj : Nat} (h0 : cq ≠ 66)  : (f_X12_sign_95 fu x1 x4 s l).2.2 cq cj = l cq cj := by
  unfold f_X12_sign_95
  repeat' (with_reducible apply itT2)
  all_goals first | with_reducible rfl | simp (disch := first | assumption | omega) only [ll_X12_sign_104, ll_X12_token, wl_f, wl_g, ff_l]
set_option maxHeartbeats 1000000 in
theorem fr_X12_sign_85 {fu : Nat} {x1 : Int32} {x2 : Int32} {x4 : Int32} {s : fl_I} {l : fl_L}  {cq cj : Nat} (h0 : ¬ (cq = 60 ∧ cj = 10)) (h1 : cq ≠ 63) (h2 : cq ≠ 64) (h3 : cq ≠ 65)  : (f_X12_sign_85 fu x1 x2 x4 s l).2.1 cq cj = s cq cj := by
  unfold f_X12_sign_85
  repeat' (with_reducible apply itT1)
  all_goals first | with_reducible rfl | simp (disch := first | assumption | omega) only [fr_X12_sign_95, wi_f, wi_g, wc_f, ff_s, ff_l, su_f]
set_option maxHeartbeats 1000000 in
theorem ll_X12_sign_85 {fu : Nat} {x1 : Int32} {x2 : Int32} {x4 : Int32} {s : fl_I} {l : fl_L}  {cq cj : Nat} (h0 : cq ≠ 66)  : (f_X12_sign_85 fu x1 x2 x4 s l).2.2 cq cj = l cq cj := by
  unfold f_X12_sign_85
  repeat' (with_reducible apply itT2)
  all_goals first | with_reducible rfl | simp (disch := first | assumption | omega) only [ll_X12_sign_95, wl_f, wl_g, ff_l]
set_option maxHeartbeats 1000000 in
theorem fr_X12_sign_75 {fu : Nat} {x1 : Int32} {x2 : Int32} {x4 : Int32} {s : fl_I} {l : fl_L}  {cq cj : Nat} (h0 : ¬ (cq = 60 ∧ cj = 10)) (h1 : cq ≠ 63) (h2 : cq ≠ 64) (h3 : cq ≠ 65)  : (f_X12_sign_75 fu x1 x2 x4 s l).2.1 cq cj = s cq cj := by
  unfold f_X12_sign_75
  repeat' (with_reducible apply itT1)
  all_goals first | with_reducible rfl | simp (disch := first | assumption | omega) only [fr_X12_sign_85, wi_f, wi_g, wc_f, ff_s, ff_l, su_f]
set_option maxHeartbeats 1000000 in
theorem ll_X12_sign_75 {fu : Nat} {x1 : Int32} {x2 : Int32} {x4 : Int32} {s : fl_I} {l : fl_L}  {cq cj : Nat} (h0 : cq ≠ 66)  : (f_X12_sign_75 fu x1 x2 x4 s l).2.2 cq cj = l cq cj := by
  unfold f_X12_sign_75
  repeat' (with_reducible apply itT2)
  all_goals first | with_reducible rfl | simp (disch := first | assumption | omega) only [ll_X12_sign_85, wl_f, wl_g, ff_l]
set_option maxHeartbeats 1000000 in
theorem fr_X12_sign_65 {fu : Nat} {x1 : Int32} {x2 : Int32} {x4 : Int32} {s : fl_I} {l : fl_L}  {cq cj : Nat} (h0 : ¬ (cq = 60 ∧ cj = 10)) (h1 : cq ≠ 63) (h2 : cq ≠ 64) (h3 : cq ≠ 65)  : (f_X12_sign_65 fu x1 x2 x4 s l).2.1 cq cj = s cq cj := by
  unfold f_X12_sign_65
  repeat' (with_reducible apply itT1)
  all_goals first | with_reducible rfl | simp (disch := first | assumption | omega) only [fr_X12_sign_75, wi_f, wi_g, wc_f, ff_s, ff_l, su_f]
set_option maxHeartbeats 1000000 in
theorem ll_X12_sign_65 {fu : Nat} {x1 : Int32} {x2 : Int32} {x4 : Int32} {s : fl_I} {l : fl_L}  {cq cj : Nat} (h0 : cq ≠ 66)  : (f_X12_sign_65 fu x1 x2 x4 s l).2.2 cq cj = l cq cj := by
  unfold f_X12_sign_65
  repeat' (with_reducible apply itT2)
  all_goals first | with_reducible rfl | simp (disch := first | assumption | omega) only [ll_X12_sign_75, wl_f, wl_g, ff_l]
set_option maxHeartbeats 1000000 in
theorem fr_X12_sign_55 {fu : Nat} {x1 : Int32} {x2 : Int32} {x4 : Int32} {s : fl_I} {l : fl_L}  {cq cj : Nat} (h0 : ¬ (cq = 60 ∧ cj = 10)) (h1 : cq ≠ 63) (h2 : cq ≠ 64) (h3 : cq ≠ 65)  : (f_X12_sign_55 fu x1 x2 x4 s l).2.1 cq cj = s cq cj := by
  unfold f_X12_sign_55
  repeat' (with_reducible apply itT1)
  all_goals first | with_reducible rfl | simp (disch := first | assumption | omega) only [fr_X12_sign_65, wi_f, wi_g, wc_f, ff_s, ff_l, su_f]
set_option maxHeartbeats 1000000 in
theorem ll_X12_sign_55 {fu : Nat} {x1 : Int32} {x2 : Int32} {x4 : Int32} {s : fl_I} {l : fl_L}  {cq cj : Nat} (h0 : cq ≠ 66)  : (f_X12_sign_55 fu x1 x2 x4 s l).2.2 cq cj = l cq cj := by
  unfold f_X12_sign_55
  repeat' (with_reducible apply itT2)
  all_goals first | with_reducible rfl | simp (disch := first | assumption | omega) only [ll_X12_sign_65, wl_f, wl_g, ff_l]
set_option maxHeartbeats 1000000 in
theorem fr_X12_sign {fu : Nat} {v0 : Int32} {v1 : Int32} {v2 : Int32} {s : fl_I} {l : fl_L}  {cq cj : Nat} (h0 : ¬ (cq = 60 ∧ cj = 10)) (h1 : cq ≠ 63) (h2 : cq ≠ 64) (h3 : cq ≠ 65)  : (f_X12_sign fu v0 v1 v2 s l).2.1 cq cj = s cq cj := by
  unfold f_X12_sign
  repeat' (with_reducible apply itT1)
  all_goals first | with_reducible rfl | simp (disch := first | assumption | omega) only [fr_X12_sign_55, wi_f, wi_g, wc_f, ff_s, ff_l, su_f]
set_option maxHeartbeats 1000000 in
theorem ll_X12_sign {fu : Nat} {v0 : Int32} {v1 : Int32} {v2 : Int32} {s : fl_I} {l : fl_L}  {cq cj : Nat} (h0 : cq ≠ 66)  : (f_X12_sign fu v0 v1 v2 s l).2.2 cq cj = l cq cj := by
  unfold f_X12_sign
  repeat' (with_reducible apply itT2)
  all_goals first | with_reducible rfl | simp (disch := first | assumption | omega) only [ll_X12_sign_55, wl_f, wl_g, ff_l]
set_option maxHeartbeats 1000000 in
theorem fr_X12_records_52 {fu : Nat}   {cq cj : Nat} (h0 : ¬ (cq = 60 ∧ cj = 58)) (h1 : cq ≠ 94) (h2 : cq ≠ 99)  : ∀ (n : Nat) (x1 : Int32) (s : fl_I) (l : fl_L), (f_X12_records_52 fu n x1 s l).1 cq cj = s cq cj := by
  intro n; induction n with
  | zero => intro x1 s l; rfl
  | succ n ih =>
    intro x1 s l; unfold f_X12_records_52
    repeat' (with_reducible apply itP1)
    all_goals first | with_reducible rfl | with_reducible exact ih _ _ _ | simp (disch := first | assumption | omega | (intros; with_reducible exact ih _ _ _)) only [ih, fr_X12_keepsRow, wi_f, wi_g, wc_f, ff_s, ff_l, su_f]
set_option maxHeartbeats 1000000 in
theorem ll_X12_records_52 {fu : Nat}     : ∀ (n : Nat) (x1 : Int32) (s : fl_I) (l : fl_L), (f_X12_records_52 fu n x1 s l).2 = l := by
  intro n; induction n with
  | zero => intro x1 s l; rfl
  | succ n ih =>
    intro x1 s l; unfold f_X12_records_52
    repeat' (with_reducible apply itP3)
    all_goals first | with_reducible rfl | with_reducible exact ih _ _ _ | simp (disch := first | assumption | omega | (intros; with_reducible exact ih _ _ _)) only [ih, ll_X12_keepsRow, ff_l]
set_option maxHeartbeats 1000000 in
theorem fr_X12_records_11 {fu : Nat}   {cq cj : Nat} (h0 : ¬ (cq = 60 ∧ cj = 58)) (h1 : cq ≠ 94) (h2 : cq ≠ 99)  : ∀ (n : Nat) (x1 : Int32) (s : fl_I) (l : fl_L), (f_X12_records_11 fu n x1 s l).1 cq cj = s cq cj := by
  intro n; induction n with
  | zero => intro x1 s l; rfl
  | succ n ih =>
    intro x1 s l; unfold f_X12_records_11
    repeat' (with_reducible apply itP1)
    all_goals first | with_reducible rfl | with_reducible exact ih _ _ _ | simp (disch := first | assumption | omega | (intros; with_reducible exact ih _ _ _)) only [ih, fr_X12_records_52, wi_f, wi_g, wc_f, ff_s, ff_l, su_f]
set_option maxHeartbeats 1000000 in
theorem ll_X12_records_11 {fu : Nat}     : ∀ (n : Nat) (x1 : Int32) (s : fl_I) (l : fl_L), (f_X12_records_11 fu n x1 s l).2 = l := by
  intro n; induction n with
  | zero => intro x1 s l; rfl
  | succ n ih =>
    intro x1 s l; unfold f_X12_records_11
    repeat' (with_reducible apply itP3)
    all_goals first | with_reducible rfl | with_reducible exact ih _ _ _ | simp (disch := first | assumption | omega | (intros; with_reducible exact ih _ _ _)) only [ih, ll_X12_records_52, ff_l]
set_option maxHeartbeats 1000000 in
theorem fr_X12_records {fu : Nat} {s : fl_I} {l : fl_L}  {cq cj : Nat} (h0 : ¬ (cq = 60 ∧ cj = 58)) (h1 : cq ≠ 94) (h2 : cq ≠ 99)  : (f_X12_records fu s l).1 cq cj = s cq cj := by
  unfold f_X12_records
  repeat' (with_reducible apply itP1)
  all_goals first | with_reducible rfl | simp (disch := first | assumption | omega) only [fr_X12_records_11, fr_X12_records_52, wi_f, wi_g, wc_f, ff_s, ff_l, su_f]
set_option maxHeartbeats 1000000 in
theorem ll_X12_records {fu : Nat} {s : fl_I} {l : fl_L}    : (f_X12_records fu s l).2 = l := by
  unfold f_X12_records
  repeat' (with_reducible apply itP3)
  all_goals first | with_reducible rfl | simp (disch := first | assumption | omega) only [ll_X12_records_11, ll_X12_records_52, ff_l]
set_option maxHeartbeats 1000000 in
theorem fr_X5_clear_97 {fu : Nat} {t : Nat} {s : fl_I} {l : fl_L}  {cq cj : Nat}   : (f_X5_clear_97 fu t s l).1 cq cj = s cq cj := by
  unfold f_X5_clear_97
  repeat' (with_reducible apply itP1)
  all_goals first | with_reducible rfl | simp (disch := first | assumption | omega) only [wi_f, wi_g, wc_f, ff_s, ff_l, su_f]
set_option maxHeartbeats 1000000 in
theorem ll_X5_clear_97 {fu : Nat} {t : Nat} {s : fl_I} {l : fl_L}    : (f_X5_clear_97 fu t s l).2 = l := by
  unfold f_X5_clear_97
  repeat' (with_reducible apply itP3)
  all_goals first | with_reducible rfl | simp (disch := first | assumption | omega) only [ff_l]
set_option maxHeartbeats 1000000 in
theorem fr_X5_clear_91 {fu : Nat} {t : Nat} {s : fl_I} {l : fl_L}  {cq cj : Nat} (h0 : cq ≠ (t + 9)) (h1 : ¬ (cq = t ∧ cj = 14))  : (f_X5_clear_91 fu t s l).1 cq cj = s cq cj := by
  unfold f_X5_clear_91
  repeat' (with_reducible apply itP1)
  all_goals first | with_reducible rfl | simp (disch := first | assumption | omega) only [fr_X5_addCode, fr_X5_clear_97, wi_f, wi_g, wc_f, ff_s, ff_l, su_f]
set_option maxHeartbeats 1000000 in
theorem ll_X5_clear_91 {fu : Nat} {t : Nat} {s : fl_I} {l : fl_L}    : (f_X5_clear_91 fu t s l).2 = l := by
  unfold f_X5_clear_91
  repeat' (with_reducible apply itP3)
  all_goals first | with_reducible rfl | simp (disch := first | assumption | omega) only [ll_X5_addCode, ll_X5_clear_97, ff_l]
set_option maxHeartbeats 1000000 in
theorem fr_X5_clear_66 {fu : Nat} {t : Nat} {s : fl_I} {l : fl_L}  {cq cj : Nat} (h0 : cq ≠ (t + 10)) (h1 : cq ≠ (t + 9)) (h2 : ¬ (cq = t ∧ cj = 14))  : (f_X5_clear_66 fu t s l).1 cq cj = s cq cj := by
  unfold f_X5_clear_66
  repeat' (with_reducible apply itP1)
  all_goals first | with_reducible rfl | simp (disch := first | assumption | omega) only [fr_X5_addCode, fr_X5_clear_91, wi_f, wi_g, wc_f, ff_s, ff_l, su_f]
set_option maxHeartbeats 1000000 in
theorem ll_X5_clear_66 {fu : Nat} {t : Nat} {s : fl_I} {l : fl_L}    : (f_X5_clear_66 fu t s l).2 = l := by
  unfold f_X5_clear_66
  repeat' (with_reducible apply itP3)
  all_goals first | with_reducible rfl | simp (disch := first | assumption | omega) only [ll_X5_addCode, ll_X5_clear_91, ff_l]
set_option maxHeartbeats 1000000 in
theorem fr_X5_clear_60 {fu : Nat} {t : Nat} {s : fl_I} {l : fl_L}  {cq cj : Nat} (h0 : cq ≠ (t + 10)) (h1 : cq ≠ (t + 9)) (h2 : ¬ (cq = t ∧ cj = 14))  : (f_X5_clear_60 fu t s l).1 cq cj = s cq cj := by
  unfold f_X5_clear_60
  repeat' (with_reducible apply itP1)
  all_goals first | with_reducible rfl | simp (disch := first | assumption | omega) only [fr_X5_addCode, fr_X5_clear_66, wi_f, wi_g, wc_f, ff_s, ff_l, su_f]
set_option maxHeartbeats 1000000 in
theorem ll_X5_clear_60 {fu : Nat} {t : Nat} {s : fl_I} {l : fl_L}    : (f_X5_clear_60 fu t s l).2 = l := by
  unfold f_X5_clear_60
  repeat' (with_reducible apply itP3)
  all_goals first | with_reducible rfl | simp (disch := first | assumption | omega) only [ll_X5_addCode, ll_X5_clear_66, ff_l]
set_option maxHeartbeats 1000000 in
theorem fr_X5_clear {fu : Nat} {t : Nat} {s : fl_I} {l : fl_L}  {cq cj : Nat} (h0 : cq ≠ (t + 10)) (h1 : cq ≠ (t + 9)) (h2 : ¬ (cq = t ∧ cj = 0)) (h3 : ¬ (cq = t ∧ cj = 1)) (h4 : ¬ (cq = t ∧ cj = 2)) (h5 : ¬ (cq = t ∧ cj = 3)) (h6 : ¬ (cq = t ∧ cj = 14)) (h7 : ¬ (cq = t ∧ cj = 15)) (h8 : ¬ (cq = t ∧ cj = 16)) (h9 : ¬ (cq = t ∧ cj = 17)) (h10 : ¬ (cq = t ∧ cj = 18))  : (f_X5_clear fu t s l).1 cq cj = s cq cj := by
  unfold f_X5_clear
  repeat' (with_reducible apply itP1)
  all_goals first | with_reducible rfl | simp (disch := first | assumption | omega) only [fr_X5_addCode, fr_X5_clear_60, wi_f, wi_g, wc_f, ff_s, ff_l, su_f]
set_option maxHeartbeats 1000000 in
theorem ll_X5_clear {fu : Nat} {t : Nat} {s : fl_I} {l : fl_L}    : (f_X5_clear fu t s l).2 = l := by
  unfold f_X5_clear
  repeat' (with_reducible apply itP3)
  all_goals first | with_reducible rfl | simp (disch := first | assumption | omega) only [ll_X5_addCode, ll_X5_clear_60, ff_l]
set_option maxHeartbeats 1000000 in
theorem fr_X12_roundFrom_11 {fu : Nat}   {cq cj : Nat} (h0 : ¬ (cq = 60 ∧ cj = 63))  : ∀ (n : Nat) (x1 : Int32) (x2 : Int32) (x3 : Int32) (x4 : Int32) (s : fl_I) (l : fl_L), (f_X12_roundFrom_11 fu n x1 x2 x3 x4 s l).2.1 cq cj = s cq cj := by
  intro n; induction n with
  | zero => intro x1 x2 x3 x4 s l; rfl
  | succ n ih =>
    intro x1 x2 x3 x4 s l; unfold f_X12_roundFrom_11
    repeat' (with_reducible apply itT1)
    all_goals first | with_reducible rfl | with_reducible exact ih _ _ _ _ _ _ | simp (disch := first | assumption | omega | (intros; with_reducible exact ih _ _ _ _ _ _)) only [ih, wi_f, wi_g, wc_f, ff_s, ff_l, su_f]
set_option maxHeartbeats 1000000 in
theorem ll_X12_roundFrom_11 {fu : Nat}     : ∀ (n : Nat) (x1 : Int32) (x2 : Int32) (x3 : Int32) (x4 : Int32) (s : fl_I) (l : fl_L), (f_X12_roundFrom_11 fu n x1 x2 x3 x4 s l).2.2 = l := by
  intro n; induction n with
  | zero => intro x1 x2 x3 x4 s l; rfl
  | succ n ih =>
    intro x1 x2 x3 x4 s l; unfold f_X12_roundFrom_11
    repeat' (with_reducible apply itT3)
    all_goals first | with_reducible rfl | with_reducible exact ih _ _ _ _ _ _ | simp (disch := first | assumption | omega | (intros; with_reducible exact ih _ _ _ _ _ _)) only [ih, ff_l]
set_option maxHeartbeats 1000000 in
theorem fr_X12_roundFrom {fu : Nat} {v0 : Int32} {v1 : Int32} {s : fl_I} {l : fl_L}  {cq cj : Nat} (h0 : ¬ (cq = 60 ∧ cj = 63))  : (f_X12_roundFrom fu v0 v1 s l).2.1 cq cj = s cq cj := by
  unfold f_X12_roundFrom
  repeat' (with_reducible apply itT1)
  all_goals first | with_reducible rfl | simp (disch := first | assumption | omega) only [fr_X12_roundFrom_11, wi_f, wi_g, wc_f, ff_s, ff_l, su_f]
set_option maxHeartbeats 1000000 in
theorem ll_X12_roundFrom {fu : Nat} {v0 : Int32} {v1 : Int32} {s : fl_I} {l : fl_L}    : (f_X12_roundFrom fu v0 v1 s l).2.2 = l := by
  unfold f_X12_roundFrom
  repeat' (with_reducible apply itT3)
  all_goals first | with_reducible rfl | simp (disch := first | assumption | omega) only [ll_X12_roundFrom_11, ff_l]
set_option maxHeartbeats 1000000 in
theorem fr_X12_give_39 {fu : Nat}   {cq cj : Nat} (h0 : ¬ (cq = 60 ∧ cj = 58)) (h1 : cq ≠ 94) (h2 : cq ≠ 95) (h3 : cq ≠ 99)  : ∀ (n : Nat) (x1 : Int32) (x2 : Int32) (x3 : Int32) (x4 : Int32) (x5 : Int32) (s : fl_I) (l : fl_L), (f_X12_give_39 fu n x1 x2 x3 x4 x5 s l).2.1 cq cj = s cq cj := by
  intro n; induction n with
  | zero => intro x1 x2 x3 x4 x5 s l; rfl
  | succ n ih =>
    intro x1 x2 x3 x4 x5 s l; unfold f_X12_give_39
    repeat' (with_reducible apply itT1)
    all_goals first | with_reducible rfl | with_reducible exact ih _ _ _ _ _ _ _ | simp (disch := first | assumption | omega | (intros; with_reducible exact ih _ _ _ _ _ _ _)) only [ih, fr_X12_records, wi_f, wi_g, wc_f, ff_s, ff_l, su_f]
set_option maxHeartbeats 1000000 in
theorem ll_X12_give_39 {fu : Nat}     : ∀ (n : Nat) (x1 : Int32) (x2 : Int32) (x3 : Int32) (x4 : Int32) (x5 : Int32) (s : fl_I) (l : fl_L), (f_X12_give_39 fu n x1 x2 x3 x4 x5 s l).2.2 = l := by
  intro n; induction n with
  | zero => intro x1 x2 x3 x4 x5 s l; rfl
  | succ n ih =>
    intro x1 x2 x3 x4 x5 s l; unfold f_X12_give_39
    repeat' (with_reducible apply itT3)
    all_goals first | with_reducible rfl | with_reducible exact ih _ _ _ _ _ _ _ | simp (disch := first | assumption | omega | (intros; with_reducible exact ih _ _ _ _ _ _ _)) only [ih, ll_X12_records, ff_l]
set_option maxHeartbeats 1000000 in
theorem fr_X12_give {fu : Nat} {v0 : Int32} {v1 : Int32} {s : fl_I} {l : fl_L}  {cq cj : Nat} (h0 : ¬ (cq = 60 ∧ cj = 52)) (h1 : ¬ (cq = 60 ∧ cj = 53)) (h2 : ¬ (cq = 60 ∧ cj = 58)) (h3 : cq ≠ 94) (h4 : cq ≠ 95) (h5 : cq ≠ 99)  : (f_X12_give fu v0 v1 s l).2.1 cq cj = s cq cj := by
  unfold f_X12_give
  repeat' (with_reducible apply itT1)
  all_goals first | with_reducible rfl | simp (disch := first | assumption | omega) only [fr_X12_copies, fr_X12_give_39, wi_f, wi_g, wc_f, ff_s, ff_l, su_f]
set_option maxHeartbeats 1000000 in
theorem ll_X12_give {fu : Nat} {v0 : Int32} {v1 : Int32} {s : fl_I} {l : fl_L}    : (f_X12_give fu v0 v1 s l).2.2 = l := by
  unfold f_X12_give
  repeat' (with_reducible apply itT3)
  all_goals first | with_reducible rfl | simp (disch := first | assumption | omega) only [ll_X12_copies, ll_X12_give_39, ff_l]
set_option maxHeartbeats 1000000 in
theorem fr_X6_nameKind_86 {fu : Nat}   {cq cj : Nat}   : ∀ (n : Nat) (x4 : Int64) (x6 : Int32) (s : fl_I) (l : fl_L), (f_X6_nameKind_86 fu n x4 x6 s l).2.1 cq cj = s cq cj := by
  intro n; induction n with
  | zero => intro x4 x6 s l; rfl
  | succ n ih =>
    intro x4 x6 s l; unfold f_X6_nameKind_86
    repeat' (with_reducible apply itT1)
    all_goals first | with_reducible rfl | with_reducible exact ih _ _ _ _ | simp (disch := first | assumption | omega | (intros; with_reducible exact ih _ _ _ _)) only [ih, wi_f, wi_g, wc_f, ff_s, ff_l, su_f]
set_option maxHeartbeats 1000000 in
theorem ll_X6_nameKind_86 {fu : Nat}     : ∀ (n : Nat) (x4 : Int64) (x6 : Int32) (s : fl_I) (l : fl_L), (f_X6_nameKind_86 fu n x4 x6 s l).2.2 = l := by
  intro n; induction n with
  | zero => intro x4 x6 s l; rfl
  | succ n ih =>
    intro x4 x6 s l; unfold f_X6_nameKind_86
    repeat' (with_reducible apply itT3)
    all_goals first | with_reducible rfl | with_reducible exact ih _ _ _ _ | simp (disch := first | assumption | omega | (intros; with_reducible exact ih _ _ _ _)) only [ih, ff_l]
set_option maxHeartbeats 1000000 in
theorem fr_X6_nameKind_5 {fu : Nat}   {cq cj : Nat} (h0 : ¬ (cq = 4 ∧ cj = 4))  : ∀ (n : Nat) (x2 : Int32) (x3 : Int32) (x4 : Int64) (s : fl_I) (l : fl_L), (f_X6_nameKind_5 fu n x2 x3 x4 s l).2.1 cq cj = s cq cj := by
  intro n; induction n with
  | zero => intro x2 x3 x4 s l; rfl
  | succ n ih =>
    intro x2 x3 x4 s l; unfold f_X6_nameKind_5
    repeat' (with_reducible apply itT1)
    all_goals first | with_reducible rfl | with_reducible exact ih _ _ _ _ _ | simp (disch := first | assumption | omega | (intros; with_reducible exact ih _ _ _ _ _)) only [ih, fr_X6_nameKind_86, wi_f, wi_g, wc_f, ff_s, ff_l, su_f]
set_option maxHeartbeats 1000000 in
theorem ll_X6_nameKind_5 {fu : Nat}   {cq cj : Nat} (h0 : cq ≠ 7)  : ∀ (n : Nat) (x2 : Int32) (x3 : Int32) (x4 : Int64) (s : fl_I) (l : fl_L), (f_X6_nameKind_5 fu n x2 x3 x4 s l).2.2 cq cj = l cq cj := by
  intro n; induction n with
  | zero => intro x2 x3 x4 s l; rfl
  | succ n ih =>
    intro x2 x3 x4 s l; unfold f_X6_nameKind_5
    repeat' (with_reducible apply itT2)
    all_goals first | with_reducible rfl | with_reducible exact ih _ _ _ _ _ | simp (disch := first | assumption | omega | (intros; with_reducible exact ih _ _ _ _ _)) only [ih, ll_X6_nameKind_86, wl_f, wl_g, ff_l]
set_option maxHeartbeats 1000000 in
theorem fr_X6_nameKind {fu : Nat} {v1 : Int32} {s : fl_I} {l : fl_L}  {cq cj : Nat} (h0 : ¬ (cq = 4 ∧ cj = 4))  : (f_X6_nameKind fu v1 s l).2.1 cq cj = s cq cj := by
  unfold f_X6_nameKind
  repeat' (with_reducible apply itT1)
  all_goals first | with_reducible rfl | simp (disch := first | assumption | omega) only [fr_X6_nameKind_5, wi_f, wi_g, wc_f, ff_s, ff_l, su_f]
set_option maxHeartbeats 1000000 in
theorem ll_X6_nameKind {fu : Nat} {v1 : Int32} {s : fl_I} {l : fl_L}  {cq cj : Nat} (h0 : cq ≠ 7)  : (f_X6_nameKind fu v1 s l).2.2 cq cj = l cq cj := by
  unfold f_X6_nameKind
  repeat' (with_reducible apply itT2)
  all_goals first | with_reducible rfl | simp (disch := first | assumption | omega) only [ll_X6_nameKind_5, wl_f, wl_g, ff_l]
set_option maxHeartbeats 1000000 in
theorem fr_X9_walk_2 {fu : Nat}  {a : Nat} {cq cj : Nat} (h0 : cq ≠ (a + 3)) (h1 : cq ≠ (a + 4))  : ∀ (n : Nat) (x1 : Int32) (s : fl_I) (l : fl_L), (f_X9_walk_2 fu n x1 a s l).1 cq cj = s cq cj := by
  intro n; induction n with
  | zero => intro x1 s l; rfl
  | succ n ih =>
    intro x1 s l; unfold f_X9_walk_2
    repeat' (with_reducible apply itP1)
    all_goals first | with_reducible rfl | with_reducible exact ih _ _ _ | simp (disch := first | assumption | omega | (intros; with_reducible exact ih _ _ _)) only [ih, wi_f, wi_g, wc_f, ff_s, ff_l, su_f]
set_option maxHeartbeats 1000000 in
theorem ll_X9_walk_2 {fu : Nat}  {a : Nat}   : ∀ (n : Nat) (x1 : Int32) (s : fl_I) (l : fl_L), (f_X9_walk_2 fu n x1 a s l).2 = l := by
  intro n; induction n with
  | zero => intro x1 s l; rfl
  | succ n ih =>
    intro x1 s l; unfold f_X9_walk_2
    repeat' (with_reducible apply itP3)
    all_goals first | with_reducible rfl | with_reducible exact ih _ _ _ | simp (disch := first | assumption | omega | (intros; with_reducible exact ih _ _ _)) only [ih, ff_l]
set_option maxHeartbeats 1000000 in
theorem fr_X9_walk {fu : Nat} {a : Nat} {s : fl_I} {l : fl_L}  {cq cj : Nat} (h0 : cq ≠ (a + 3)) (h1 : cq ≠ (a + 4))  : (f_X9_walk fu a s l).1 cq cj = s cq cj := by
  unfold f_X9_walk
  repeat' (with_reducible apply itP1)
  all_goals first | with_reducible rfl | simp (disch := first | assumption | omega) only [fr_X9_walk_2, wi_f, wi_g, wc_f, ff_s, ff_l, su_f]
set_option maxHeartbeats 1000000 in
theorem ll_X9_walk {fu : Nat} {a : Nat} {s : fl_I} {l : fl_L}    : (f_X9_walk fu a s l).2 = l := by
  unfold f_X9_walk
  repeat' (with_reducible apply itP3)
  all_goals first | with_reducible rfl | simp (disch := first | assumption | omega) only [ll_X9_walk_2, ff_l]
set_option maxHeartbeats 1000000 in
theorem fr_X12_plain_57 {fu : Nat}   {cq cj : Nat} (h0 : cq ≠ 82) (h1 : cq ≠ 83)  : ∀ (n : Nat) (x1 : Int32) (x2 : Int32) (s : fl_I) (l : fl_L), (f_X12_plain_57 fu n x1 x2 s l).1 cq cj = s cq cj := by
  intro n; induction n with
  | zero => intro x1 x2 s l; rfl
  | succ n ih =>
    intro x1 x2 s l; unfold f_X12_plain_57
    repeat' (with_reducible apply itP1)
    all_goals first | with_reducible rfl | with_reducible exact ih _ _ _ _ | simp (disch := first | assumption | omega | (intros; with_reducible exact ih _ _ _ _)) only [ih, wi_f, wi_g, wc_f, ff_s, ff_l, su_f]
set_option maxHeartbeats 1000000 in
theorem ll_X12_plain_57 {fu : Nat}     : ∀ (n : Nat) (x1 : Int32) (x2 : Int32) (s : fl_I) (l : fl_L), (f_X12_plain_57 fu n x1 x2 s l).2 = l := by
  intro n; induction n with
  | zero => intro x1 x2 s l; rfl
  | succ n ih =>
    intro x1 x2 s l; unfold f_X12_plain_57
    repeat' (with_reducible apply itP3)
    all_goals first | with_reducible rfl | with_reducible exact ih _ _ _ _ | simp (disch := first | assumption | omega | (intros; with_reducible exact ih _ _ _ _)) only [ih, ff_l]
set_option maxHeartbeats 1000000 in
theorem fr_X12_plain {fu : Nat} {v0 : Int32} {s : fl_I} {l : fl_L}  {cq cj : Nat} (h0 : cq ≠ 68) (h1 : cq ≠ 72) (h2 : cq ≠ 74) (h3 : cq ≠ 79) (h4 : cq ≠ 80) (h5 : cq ≠ 81) (h6 : cq ≠ 82) (h7 : cq ≠ 83)  : (f_X12_plain fu v0 s l).1 cq cj = s cq cj := by
  unfold f_X12_plain
  repeat' (with_reducible apply itP1)
  all_goals first | with_reducible rfl | simp (disch := first | assumption | omega) only [fr_X12_plain_57, wi_f, wi_g, wc_f, ff_s, ff_l, su_f]
set_option maxHeartbeats 1000000 in
theorem ll_X12_plain {fu : Nat} {v0 : Int32} {s : fl_I} {l : fl_L}    : (f_X12_plain fu v0 s l).2 = l := by
  unfold f_X12_plain
  repeat' (with_reducible apply itP3)
  all_goals first | with_reducible rfl | simp (disch := first | assumption | omega) only [ll_X12_plain_57, ff_l]
set_option maxHeartbeats 1000000 in
theorem fr_X12_fillsRest_37 {fu : Nat} {K2 : Int32 → fl_I → fl_L → fl_I × fl_L} {K14 : Int32 → Int32 → fl_I → fl_L → fl_I × fl_L}  {cq cj : Nat} (h0 : cq ≠ 101) (hkK2 : ∀ (k0 : Int32) (k1 : fl_I) (k2 : fl_L), (K2 k0 k1 k2).1 cq cj = k1 cq cj) (hkK14 : ∀ (k0 : Int32) (k1 : Int32) (k2 : fl_I) (k3 : fl_L), (K14 k0 k1 k2 k3).1 cq cj = k2 cq cj) : ∀ (n : Nat) (x1 : Int32) (x2 : Int32) (x3 : Int32) (x4 : Int32) (s : fl_I) (l : fl_L), (f_X12_fillsRest_37 fu K2 K14 n x1 x2 x3 x4 s l).1 cq cj = s cq cj := by
  intro n; induction n with
  | zero => intro x1 x2 x3 x4 s l; rfl
  | succ n ih =>
    intro x1 x2 x3 x4 s l; unfold f_X12_fillsRest_37
    repeat' (with_reducible apply itP1)
    all_goals first | with_reducible rfl | with_reducible exact ih _ _ _ _ _ _ | simp (disch := first | assumption | omega | (intros; with_reducible exact ih _ _ _ _ _ _)) only [ih, hkK2, hkK14, wi_f, wi_g, wc_f, ff_s, ff_l, su_f]
set_option maxHeartbeats 1000000 in
theorem ll_X12_fillsRest_37 {fu : Nat} {K2 : Int32 → fl_I → fl_L → fl_I × fl_L} {K14 : Int32 → Int32 → fl_I → fl_L → fl_I × fl_L}  {cq cj : Nat}  (hkK2 : ∀ (k0 : Int32) (k1 : fl_I) (k2 : fl_L), (K2 k0 k1 k2).2 cq cj = k2 cq cj) (hkK14 : ∀ (k0 : Int32) (k1 : Int32) (k2 : fl_I) (k3 : fl_L), (K14 k0 k1 k2 k3).2 cq cj = k3 cq cj) : ∀ (n : Nat) (x1 : Int32) (x2 : Int32) (x3 : Int32) (x4 : Int32) (s : fl_I) (l : fl_L), (f_X12_fillsRest_37 fu K2 K14 n x1 x2 x3 x4 s l).2 cq cj = l cq cj := by
  intro n; induction n with
  | zero => intro x1 x2 x3 x4 s l; rfl
  | succ n ih =>
    intro x1 x2 x3 x4 s l; unfold f_X12_fillsRest_37
    repeat' (with_reducible apply itP2)
    all_goals first | with_reducible rfl | with_reducible exact ih _ _ _ _ _ _ | simp (disch := first | assumption | omega | (intros; with_reducible exact ih _ _ _ _ _ _)) only [ih, hkK2, hkK14, wl_f, wl_g, ff_l]
set_option maxHeartbeats 1000000 in
theorem fr_X12_fillsRest_14 {fu : Nat} {K2 : Int32 → fl_I → fl_L → fl_I × fl_L}  {cq cj : Nat} (h0 : cq ≠ 101) (hkK2 : ∀ (k0 : Int32) (k1 : fl_I) (k2 : fl_L), (K2 k0 k1 k2).1 cq cj = k1 cq cj) : ∀ (n : Nat) (x1 : Int32) (x2 : Int32) (s : fl_I) (l : fl_L), (f_X12_fillsRest_14 fu K2 n x1 x2 s l).1 cq cj = s cq cj := by
  intro n; induction n with
  | zero => intro x1 x2 s l; rfl
  | succ n ih =>
    intro x1 x2 s l; unfold f_X12_fillsRest_14
    repeat' (with_reducible apply itP1)
    all_goals first | with_reducible rfl | with_reducible exact ih _ _ _ _ | simp (disch := first | assumption | omega | (intros; with_reducible exact ih _ _ _ _)) only [ih, fr_X12_fillsRest_37, hkK2, wi_f, wi_g, wc_f, ff_s, ff_l, su_f]
set_option maxHeartbeats 1000000 in
theorem ll_X12_fillsRest_14 {fu : Nat} {K2 : Int32 → fl_I → fl_L → fl_I × fl_L}  {cq cj : Nat}  (hkK2 : ∀ (k0 : Int32) (k1 : fl_I) (k2 : fl_L), (K2 k0 k1 k2).2 cq cj = k2 cq cj) : ∀ (n : Nat) (x1 : Int32) (x2 : Int32) (s : fl_I) (l : fl_L), (f_X12_fillsRest_14 fu K2 n x1 x2 s l).2 cq cj = l cq cj := by
  intro n; induction n with
  | zero => intro x1 x2 s l; rfl
  | succ n ih =>
    intro x1 x2 s l; unfold f_X12_fillsRest_14
    repeat' (with_reducible apply itP2)
    all_goals first | with_reducible rfl | with_reducible exact ih _ _ _ _ | simp (disch := first | assumption | omega | (intros; with_reducible exact ih _ _ _ _)) only [ih, ll_X12_fillsRest_37, hkK2, wl_f, wl_g, ff_l]
set_option maxHeartbeats 1000000 in
theorem fr_X12_fillsRest_2 {fu : Nat}   {cq cj : Nat} (h0 : cq ≠ 101)  : ∀ (n : Nat) (x1 : Int32) (s : fl_I) (l : fl_L), (f_X12_fillsRest_2 fu n x1 s l).1 cq cj = s cq cj := by
  intro n; induction n with
  | zero => intro x1 s l; rfl
  | succ n ih =>
    intro x1 s l; unfold f_X12_fillsRest_2
    repeat' (with_reducible apply itP1)
    all_goals first | with_reducible rfl | with_reducible exact ih _ _ _ | simp (disch := first | assumption | omega | (intros; with_reducible exact ih _ _ _)) only [ih, fr_X12_fillsRest_14, wi_f, wi_g, wc_f, ff_s, ff_l, su_f]
set_option maxHeartbeats 1000000 in
theorem ll_X12_fillsRest_2 {fu : Nat}   {cq cj : Nat}   : ∀ (n : Nat) (x1 : Int32) (s : fl_I) (l : fl_L), (f_X12_fillsRest_2 fu n x1 s l).2 cq cj = l cq cj := by
  intro n; induction n with
  | zero => intro x1 s l; rfl
  | succ n ih =>
    intro x1 s l; unfold f_X12_fillsRest_2
    repeat' (with_reducible apply itP2)
    all_goals first | with_reducible rfl | with_reducible exact ih _ _ _ | simp (disch := first | assumption | omega | (intros; with_reducible exact ih _ _ _)) only [ih, ll_X12_fillsRest_14, wl_f, wl_g, ff_l]
set_option maxHeartbeats 1000000 in
theorem fr_X12_fillsRest {fu : Nat} {s : fl_I} {l : fl_L}  {cq cj : Nat} (h0 : cq ≠ 101)  : (f_X12_fillsRest fu s l).1 cq cj = s cq cj := by
  unfold f_X12_fillsRest
  repeat' (with_reducible apply itP1)
  all_goals first | with_reducible rfl | simp (disch := first | assumption | omega) only [fr_X12_fillsRest_2, wi_f, wi_g, wc_f, ff_s, ff_l, su_f]
set_option maxHeartbeats 1000000 in
theorem ll_X12_fillsRest {fu : Nat} {s : fl_I} {l : fl_L}  {cq cj : Nat}   : (f_X12_fillsRest fu s l).2 cq cj = l cq cj := by
  unfold f_X12_fillsRest
  repeat' (with_reducible apply itP2)
  all_goals first | with_reducible rfl | simp (disch := first | assumption | omega) only [ll_X12_fillsRest_2, wl_f, wl_g, ff_l]
set_option maxHeartbeats 1000000 in
theorem fr_X12_pickerGoes_144 {fu : Nat} {s : fl_I} {l : fl_L}  {cq cj : Nat}   : (f_X12_pickerGoes_144 fu s l).1 cq cj = s cq cj := by
  unfold f_X12_pickerGoes_144
  repeat' (with_reducible apply itP1)
  all_goals first | with_reducible rfl | simp (disch := first | assumption | omega) only [wi_f, wi_g, wc_f, ff_s, ff_l, su_f]
set_option maxHeartbeats 1000000 in
theorem ll_X12_pickerGoes_144 {fu : Nat} {s : fl_I} {l : fl_L}    : (f_X12_pickerGoes_144 fu s l).2 = l := by
  unfold f_X12_pickerGoes_144
  repeat' (with_reducible apply itP3)
  all_goals first | with_reducible rfl | simp (disch := first | assumption | omega) only [ff_l]
set_option maxHeartbeats 1000000 in
theorem fr_X12_pickerGoes_123 {fu : Nat} {x1 : Int32} {x2 : Int32} {s : fl_I} {l : fl_L}  {cq cj : Nat} (h0 : cq ≠ 95)  : (f_X12_pickerGoes_123 fu x1 x2 s l).1 cq cj = s cq cj := by
  unfold f_X12_pickerGoes_123
  repeat' (with_reducible apply itP1)
  all_goals first | with_reducible rfl | simp (disch := first | assumption | omega) only [fr_X12_pickerGoes_144, wi_f, wi_g, wc_f, ff_s, ff_l, su_f]
set_option maxHeartbeats 1000000 in
theorem ll_X12_pickerGoes_123 {fu : Nat} {x1 : Int32} {x2 : Int32} {s : fl_I} {l : fl_L}    : (f_X12_pickerGoes_123 fu x1 x2 s l).2 = l := by
  unfold f_X12_pickerGoes_123
  repeat' (with_reducible apply itP3)
  all_goals first | with_reducible rfl | simp (disch := first | assumption | omega) only [ll_X12_pickerGoes_144, ff_l]
set_option maxHeartbeats 1000000 in
theorem fr_X12_pickerGoes {fu : Nat} {v0 : Int32} {s : fl_I} {l : fl_L}  {cq cj : Nat} (h0 : cq ≠ 95)  : (f_X12_pickerGoes fu v0 s l).1 cq cj = s cq cj := by
  unfold f_X12_pickerGoes
  repeat' (with_reducible apply itP1)
  all_goals first | with_reducible rfl | simp (disch := first | assumption | omega) only [fr_X12_pickerGoes_123, wi_f, wi_g, wc_f, ff_s, ff_l, su_f]
set_option maxHeartbeats 1000000 in
theorem ll_X12_pickerGoes {fu : Nat} {v0 : Int32} {s : fl_I} {l : fl_L}    : (f_X12_pickerGoes fu v0 s l).2 = l := by
  unfold f_X12_pickerGoes
  repeat' (with_reducible apply itP3)
  all_goals first | with_reducible rfl | simp (disch := first | assumption | omega) only [ll_X12_pickerGoes_123, ff_l]
set_option maxHeartbeats 1000000 in
theorem fr_X12_termOf_159 {fu : Nat} {K5 : Int32 → Int32 → Int32 → fl_I → fl_L → Int32 × fl_I × fl_L} {x2 : Int32} {x3 : Int32} {x4 : Int32} {s : fl_I} {l : fl_L}  {cq cj : Nat}  (hkK5 : ∀ (k0 : Int32) (k1 : Int32) (k2 : Int32) (k3 : fl_I) (k4 : fl_L), (K5 k0 k1 k2 k3 k4).2.1 cq cj = k3 cq cj) : (f_X12_termOf_159 fu K5 x2 x3 x4 s l).2.1 cq cj = s cq cj := by
  unfold f_X12_termOf_159
  repeat' (with_reducible apply itT1)
  all_goals first | with_reducible rfl | simp (disch := first | assumption | omega) only [hkK5, wi_f, wi_g, wc_f, ff_s, ff_l, su_f]
set_option maxHeartbeats 1000000 in
theorem ll_X12_termOf_159 {fu : Nat} {K5 : Int32 → Int32 → Int32 → fl_I → fl_L → Int32 × fl_I × fl_L} {x2 : Int32} {x3 : Int32} {x4 : Int32} {s : fl_I} {l : fl_L}  {cq cj : Nat}  (hkK5 : ∀ (k0 : Int32) (k1 : Int32) (k2 : Int32) (k3 : fl_I) (k4 : fl_L), (K5 k0 k1 k2 k3 k4).2.2 cq cj = k4 cq cj) : (f_X12_termOf_159 fu K5 x2 x3 x4 s l).2.2 cq cj = l cq cj := by
  unfold f_X12_termOf_159
  repeat' (with_reducible apply itT2)
  all_goals first | with_reducible rfl | simp (disch := first | assumption | omega) only [hkK5, wl_f, wl_g, ff_l]
set_option maxHeartbeats 1000000 in
theorem fr_X12_termOf_104 {fu : Nat} {K5 : Int32 → Int32 → Int32 → fl_I → fl_L → Int32 × fl_I × fl_L} {x2 : Int32} {x3 : Int32} {x4 : Int32} {x5 : Int32} {x6 : Int32} {x7 : Int32} {s : fl_I} {l : fl_L}  {cq cj : Nat} (h0 : cq ≠ 93) (hkK5 : ∀ (k0 : Int32) (k1 : Int32) (k2 : Int32) (k3 : fl_I) (k4 : fl_L), (K5 k0 k1 k2 k3 k4).2.1 cq cj = k3 cq cj) : (f_X12_termOf_104 fu K5 x2 x3 x4 x5 x6 x7 s l).2.1 cq cj = s cq cj := by
  unfold f_X12_termOf_104
  repeat' (with_reducible apply itT1)
  all_goals first | with_reducible rfl | simp (disch := first | assumption | omega) only [fr_X12_termOf_159, hkK5, wi_f, wi_g, wc_f, ff_s, ff_l, su_f]
set_option maxHeartbeats 1000000 in
theorem ll_X12_termOf_104 {fu : Nat} {K5 : Int32 → Int32 → Int32 → fl_I → fl_L → Int32 × fl_I × fl_L} {x2 : Int32} {x3 : Int32} {x4 : Int32} {x5 : Int32} {x6 : Int32} {x7 : Int32} {s : fl_I} {l : fl_L}  {cq cj : Nat}  (hkK5 : ∀ (k0 : Int32) (k1 : Int32) (k2 : Int32) (k3 : fl_I) (k4 : fl_L), (K5 k0 k1 k2 k3 k4).2.2 cq cj = k4 cq cj) : (f_X12_termOf_104 fu K5 x2 x3 x4 x5 x6 x7 s l).2.2 cq cj = l cq cj := by
  unfold f_X12_termOf_104
  repeat' (with_reducible apply itT2)
  all_goals first | with_reducible rfl | simp (disch := first | assumption | omega) only [ll_X12_termOf_159, hkK5, wl_f, wl_g, ff_l]
set_option maxHeartbeats 1000000 in
theorem fr_X12_termOf_5 {fu : Nat}   {cq cj : Nat} (h0 : ¬ (cq = 60 ∧ cj = 49)) (h1 : cq ≠ 93)  : ∀ (n : Nat) (x2 : Int32) (x3 : Int32) (x4 : Int32) (s : fl_I) (l : fl_L), (f_X12_termOf_5 fu n x2 x3 x4 s l).2.1 cq cj = s cq cj := by
  intro n; induction n with
  | zero => intro x2 x3 x4 s l; rfl
  | succ n ih =>
    intro x2 x3 x4 s l; unfold f_X12_termOf_5
    repeat' (with_reducible apply itT1)
    all_goals first | with_reducible rfl | with_reducible exact ih _ _ _ _ _ | simp (disch := first | assumption | omega | (intros; with_reducible exact ih _ _ _ _ _)) only [ih, fr_X12_termOf_104, fr_X12_termOf_159, wi_f, wi_g, wc_f, ff_s, ff_l, su_f]
set_option maxHeartbeats 1000000 in
theorem ll_X12_termOf_5 {fu : Nat}   {cq cj : Nat}   : ∀ (n : Nat) (x2 : Int32) (x3 : Int32) (x4 : Int32) (s : fl_I) (l : fl_L), (f_X12_termOf_5 fu n x2 x3 x4 s l).2.2 cq cj = l cq cj := by
  intro n; induction n with
  | zero => intro x2 x3 x4 s l; rfl
  | succ n ih =>
    intro x2 x3 x4 s l; unfold f_X12_termOf_5
    repeat' (with_reducible apply itT2)
    all_goals first | with_reducible rfl | with_reducible exact ih _ _ _ _ _ | simp (disch := first | assumption | omega | (intros; with_reducible exact ih _ _ _ _ _)) only [ih, ll_X12_termOf_104, ll_X12_termOf_159, wl_f, wl_g, ff_l]
set_option maxHeartbeats 1000000 in
theorem fr_X12_termOf {fu : Nat} {v0 : Int32} {v1 : Int32} {s : fl_I} {l : fl_L}  {cq cj : Nat} (h0 : ¬ (cq = 60 ∧ cj = 49)) (h1 : cq ≠ 93)  : (f_X12_termOf fu v0 v1 s l).2.1 cq cj = s cq cj := by
  unfold f_X12_termOf
  repeat' (with_reducible apply itT1)
  all_goals first | with_reducible rfl | simp (disch := first | assumption | omega) only [fr_X12_termOf_5, wi_f, wi_g, wc_f, ff_s, ff_l, su_f]
set_option maxHeartbeats 1000000 in
theorem ll_X12_termOf {fu : Nat} {v0 : Int32} {v1 : Int32} {s : fl_I} {l : fl_L}  {cq cj : Nat}   : (f_X12_termOf fu v0 v1 s l).2.2 cq cj = l cq cj := by
  unfold f_X12_termOf
  repeat' (with_reducible apply itT2)
  all_goals first | with_reducible rfl | simp (disch := first | assumption | omega) only [ll_X12_termOf_5, wl_f, wl_g, ff_l]
set_option maxHeartbeats 1000000 in
theorem fr_X1_value_247 {fu : Nat} {t : Nat} {s : fl_I} {l : fl_L}  {cq cj : Nat}   : (f_X1_value_247 fu t s l).2.1 cq cj = s cq cj := by
  unfold f_X1_value_247
  repeat' (with_reducible apply itT1)
  all_goals first | with_reducible rfl | simp (disch := first | assumption | omega) only [wi_f, wi_g, wc_f, ff_s, ff_l, su_f]
set_option maxHeartbeats 1000000 in
theorem ll_X1_value_247 {fu : Nat} {t : Nat} {s : fl_I} {l : fl_L}    : (f_X1_value_247 fu t s l).2.2 = l := by
  unfold f_X1_value_247
  repeat' (with_reducible apply itT3)
  all_goals first | with_reducible rfl | simp (disch := first | assumption | omega) only [ff_l]
set_option maxHeartbeats 1000000 in
theorem fr_X1_value_161 {fu : Nat} {t : Nat} {s : fl_I} {l : fl_L}  {cq cj : Nat}   : (f_X1_value_161 fu t s l).2.1 cq cj = s cq cj := by
  unfold f_X1_value_161
  repeat' (with_reducible apply itT1)
  all_goals first | with_reducible rfl | simp (disch := first | assumption | omega) only [wi_f, wi_g, wc_f, ff_s, ff_l, su_f]
set_option maxHeartbeats 1000000 in
theorem ll_X1_value_161 {fu : Nat} {t : Nat} {s : fl_I} {l : fl_L}    : (f_X1_value_161 fu t s l).2.2 = l := by
  unfold f_X1_value_161
  repeat' (with_reducible apply itT3)
  all_goals first | with_reducible rfl | simp (disch := first | assumption | omega) only [ff_l]
set_option maxHeartbeats 1000000 in
theorem fr_X1_value_241 {fu : Nat} {K19 : Int32 → Int32 → Int32 → fl_I → fl_L → Int32 × fl_I × fl_L} {x4 : Int32} {x5 : Int32} {x6 : Int32} {t : Nat} {s : fl_I} {l : fl_L}  {cq cj : Nat}  (hkK19 : ∀ (k0 : Int32) (k1 : Int32) (k2 : Int32) (k3 : fl_I) (k4 : fl_L), (K19 k0 k1 k2 k3 k4).2.1 cq cj = k3 cq cj) : (f_X1_value_241 fu K19 x4 x5 x6 t s l).2.1 cq cj = s cq cj := by
  unfold f_X1_value_241
  repeat' (with_reducible apply itT1)
  all_goals first | with_reducible rfl | simp (disch := first | assumption | omega) only [hkK19, wi_f, wi_g, wc_f, ff_s, ff_l, su_f]
set_option maxHeartbeats 1000000 in
theorem ll_X1_value_241 {fu : Nat} {K19 : Int32 → Int32 → Int32 → fl_I → fl_L → Int32 × fl_I × fl_L} {x4 : Int32} {x5 : Int32} {x6 : Int32} {t : Nat} {s : fl_I} {l : fl_L}  {cq cj : Nat}  (hkK19 : ∀ (k0 : Int32) (k1 : Int32) (k2 : Int32) (k3 : fl_I) (k4 : fl_L), (K19 k0 k1 k2 k3 k4).2.2 cq cj = k4 cq cj) : (f_X1_value_241 fu K19 x4 x5 x6 t s l).2.2 cq cj = l cq cj := by
  unfold f_X1_value_241
  repeat' (with_reducible apply itT2)
  all_goals first | with_reducible rfl | simp (disch := first | assumption | omega) only [hkK19, wl_f, wl_g, ff_l]
set_option maxHeartbeats 1000000 in
theorem fr_X1_value_163 {fu : Nat} {K19 : Int32 → Int32 → Int32 → fl_I → fl_L → Int32 × fl_I × fl_L} {x4 : Int32} {x5 : Int32} {x6 : Int32} {x7 : Int32} {t : Nat} {s : fl_I} {l : fl_L}  {cq cj : Nat} (h0 : cq ≠ 49) (hkK19 : ∀ (k0 : Int32) (k1 : Int32) (k2 : Int32) (k3 : fl_I) (k4 : fl_L), (K19 k0 k1 k2 k3 k4).2.1 cq cj = k3 cq cj) : (f_X1_value_163 fu K19 x4 x5 x6 x7 t s l).2.1 cq cj = s cq cj := by
  unfold f_X1_value_163
  repeat' (with_reducible apply itT1)
  all_goals first | with_reducible rfl | simp (disch := first | assumption | omega) only [fr_X1_value_241, hkK19, wi_f, wi_g, wc_f, ff_s, ff_l, su_f]
set_option maxHeartbeats 1000000 in
theorem ll_X1_value_163 {fu : Nat} {K19 : Int32 → Int32 → Int32 → fl_I → fl_L → Int32 × fl_I × fl_L} {x4 : Int32} {x5 : Int32} {x6 : Int32} {x7 : Int32} {t : Nat} {s : fl_I} {l : fl_L}  {cq cj : Nat}  (hkK19 : ∀ (k0 : Int32) (k1 : Int32) (k2 : Int32) (k3 : fl_I) (k4 : fl_L), (K19 k0 k1 k2 k3 k4).2.2 cq cj = k4 cq cj) : (f_X1_value_163 fu K19 x4 x5 x6 x7 t s l).2.2 cq cj = l cq cj := by
  unfold f_X1_value_163
  repeat' (with_reducible apply itT2)
  all_goals first | with_reducible rfl | simp (disch := first | assumption | omega) only [ll_X1_value_241, hkK19, wl_f, wl_g, ff_l]
set_option maxHeartbeats 1000000 in
theorem fr_X1_value_19 {fu : Nat}  {t : Nat} {cq cj : Nat} (h0 : cq ≠ 49)  : ∀ (n : Nat) (x4 : Int32) (x5 : Int32) (x6 : Int32) (s : fl_I) (l : fl_L), (f_X1_value_19 fu n x4 x5 x6 t s l).2.1 cq cj = s cq cj := by
  intro n; induction n with
  | zero => intro x4 x5 x6 s l; rfl
  | succ n ih =>
    intro x4 x5 x6 s l; unfold f_X1_value_19
    repeat' (with_reducible apply itT1)
    all_goals first | with_reducible rfl | with_reducible exact ih _ _ _ _ _ | simp (disch := first | assumption | omega | (intros; with_reducible exact ih _ _ _ _ _)) only [ih, fr_X1_value_161, fr_X1_value_163, fr_X1_value_241, fr_X1_value_247, wi_f, wi_g, wc_f, ff_s, ff_l, su_f]
set_option maxHeartbeats 1000000 in
theorem ll_X1_value_19 {fu : Nat}  {t : Nat} {cq cj : Nat}   : ∀ (n : Nat) (x4 : Int32) (x5 : Int32) (x6 : Int32) (s : fl_I) (l : fl_L), (f_X1_value_19 fu n x4 x5 x6 t s l).2.2 cq cj = l cq cj := by
  intro n; induction n with
  | zero => intro x4 x5 x6 s l; rfl
  | succ n ih =>
    intro x4 x5 x6 s l; unfold f_X1_value_19
    repeat' (with_reducible apply itT2)
    all_goals first | with_reducible rfl | with_reducible exact ih _ _ _ _ _ | simp (disch := first | assumption | omega | (intros; with_reducible exact ih _ _ _ _ _)) only [ih, ll_X1_value_161, ll_X1_value_163, ll_X1_value_241, ll_X1_value_247, wl_f, wl_g, ff_l]
