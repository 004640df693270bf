set_option maxHeartbeats 1000000 in
theorem fr_X1_value {fu : Nat} {v1 : Int32} {t : Nat} {s : fl_I} {l : fl_L}  {cq cj : Nat} (h0 : cq ≠ 49)  : (f_X1_value fu v1 t s l).2.1 cq cj = s cq cj := by
  unfold f_X1_value
  repeat' (with_reducible apply itT1)
  all_goals first | with_reducible rfl | simp (disch := first | assumption | omega) only [fr_X1_value_19, wi_f, wi_g, wc_f, ff_s, ff_l, su_f]
set_option maxHeartbeats 1000000 in
theorem ll_X1_value {fu : Nat} {v1 : Int32} {t : Nat} {s : fl_I} {l : fl_L}  {cq cj : Nat}   : (f_X1_value fu v1 t s l).2.2 cq cj = l cq cj := by
  unfold f_X1_value
  repeat' (with_reducible apply itT2)
  all_goals first | with_reducible rfl | simp (disch := first | assumption | omega) only [ll_X1_value_19, wl_f, wl_g, ff_l]
set_option maxHeartbeats 1000000 in
theorem fr_X12_expression_272 {fu : Nat} {s : fl_I} {l : fl_L}  {cq cj : Nat}   : (f_X12_expression_272 fu s l).1 cq cj = s cq cj := by
  unfold f_X12_expression_272
  repeat' (with_reducible apply itP1)
  all_goals first | with_reducible rfl | simp (disch := first | assumption | omega) only [wi_f, wi_g, wc_f, ff_s, ff_l, su_f]
set_option maxHeartbeats 1000000 in
theorem ll_X12_expression_272 {fu : Nat} {s : fl_I} {l : fl_L}    : (f_X12_expression_272 fu s l).2 = l := by
  unfold f_X12_expression_272
  repeat' (with_reducible apply itP3)
  all_goals first | with_reducible rfl | simp (disch := first | assumption | omega) only [ff_l]
set_option maxHeartbeats 1000000 in
theorem fr_X12_expression_269 {fu : Nat} {K12 : Int32 → Int32 → fl_I → fl_L → fl_I × fl_L} {x1 : Int32} {x2 : Int32} {s : fl_I} {l : fl_L}  {cq cj : Nat}  (hkK12 : ∀ (k0 : Int32) (k1 : Int32) (k2 : fl_I) (k3 : fl_L), (K12 k0 k1 k2 k3).1 cq cj = k2 cq cj) : (f_X12_expression_269 fu K12 x1 x2 s l).1 cq cj = s cq cj := by
  unfold f_X12_expression_269
  repeat' (with_reducible apply itP1)
  all_goals first | with_reducible rfl | simp (disch := first | assumption | omega) only [hkK12, wi_f, wi_g, wc_f, ff_s, ff_l, su_f]
set_option maxHeartbeats 1000000 in
theorem ll_X12_expression_269 {fu : Nat} {K12 : Int32 → Int32 → fl_I → fl_L → fl_I × fl_L} {x1 : Int32} {x2 : Int32} {s : fl_I} {l : fl_L}  {cq cj : Nat}  (hkK12 : ∀ (k0 : Int32) (k1 : Int32) (k2 : fl_I) (k3 : fl_L), (K12 k0 k1 k2 k3).2 cq cj = k3 cq cj) : (f_X12_expression_269 fu K12 x1 x2 s l).2 cq cj = l cq cj := by
  unfold f_X12_expression_269
  repeat' (with_reducible apply itP2)
  all_goals first | with_reducible rfl | simp (disch := first | assumption | omega) only [hkK12, wl_f, wl_g, ff_l]
set_option maxHeartbeats 1000000 in
theorem fr_X12_expression_237 {fu : Nat} {K12 : Int32 → Int32 → fl_I → fl_L → fl_I × fl_L} {x1 : Int32} {x2 : Int32} {s : fl_I} {l : fl_L}  {cq cj : Nat} (h0 : ¬ (cq = 60 ∧ cj = 11)) (h1 : ¬ (cq = 60 ∧ cj = 13)) (h2 : ¬ (cq = 60 ∧ cj = 14)) (h3 : ¬ (cq = 60 ∧ cj = 46)) (h4 : cq ≠ 91) (hkK12 : ∀ (k0 : Int32) (k1 : Int32) (k2 : fl_I) (k3 : fl_L), (K12 k0 k1 k2 k3).1 cq cj = k2 cq cj) : (f_X12_expression_237 fu K12 x1 x2 s l).1 cq cj = s cq cj := by
  unfold f_X12_expression_237
  repeat' (with_reducible apply itP1)
  all_goals first | with_reducible rfl | simp (disch := first | assumption | omega) only [fr_X12_expression_269, fr_X12_goesOn, hkK12, wi_f, wi_g, wc_f, ff_s, ff_l, su_f]
set_option maxHeartbeats 1000000 in
theorem ll_X12_expression_237 {fu : Nat} {K12 : Int32 → Int32 → fl_I → fl_L → fl_I × fl_L} {x1 : Int32} {x2 : Int32} {s : fl_I} {l : fl_L}  {cq cj : Nat}  (hkK12 : ∀ (k0 : Int32) (k1 : Int32) (k2 : fl_I) (k3 : fl_L), (K12 k0 k1 k2 k3).2 cq cj = k3 cq cj) : (f_X12_expression_237 fu K12 x1 x2 s l).2 cq cj = l cq cj := by
  unfold f_X12_expression_237
  repeat' (with_reducible apply itP2)
  all_goals first | with_reducible rfl | simp (disch := first | assumption | omega) only [ll_X12_expression_269, ll_X12_goesOn, hkK12, wl_f, wl_g, ff_l]
set_option maxHeartbeats 1000000 in
theorem fr_X12_expression_209 {fu : Nat} {s : fl_I} {l : fl_L}  {cq cj : Nat}   : (f_X12_expression_209 fu s l).1 cq cj = s cq cj := by
  unfold f_X12_expression_209
  repeat' (with_reducible apply itP1)
  all_goals first | with_reducible rfl | simp (disch := first | assumption | omega) only [wi_f, wi_g, wc_f, ff_s, ff_l, su_f]
set_option maxHeartbeats 1000000 in
theorem ll_X12_expression_209 {fu : Nat} {s : fl_I} {l : fl_L}    : (f_X12_expression_209 fu s l).2 = l := by
  unfold f_X12_expression_209
  repeat' (with_reducible apply itP3)
  all_goals first | with_reducible rfl | simp (disch := first | assumption | omega) only [ff_l]
set_option maxHeartbeats 1000000 in
theorem fr_X12_expression_204 {fu : Nat} {s : fl_I} {l : fl_L}  {cq cj : Nat} (h0 : ¬ (cq = 60 ∧ cj = 42)) (h1 : ¬ (cq = 60 ∧ cj = 46)) (h2 : cq ≠ 89) (h3 : cq ≠ 90)  : (f_X12_expression_204 fu s l).1 cq cj = s cq cj := by
  unfold f_X12_expression_204
  repeat' (with_reducible apply itP1)
  all_goals first | with_reducible rfl | simp (disch := first | assumption | omega) only [fr_X12_comesOut, fr_X12_expression_209, wi_f, wi_g, wc_f, ff_s, ff_l, su_f]
set_option maxHeartbeats 1000000 in
theorem ll_X12_expression_204 {fu : Nat} {s : fl_I} {l : fl_L}  {cq cj : Nat}   : (f_X12_expression_204 fu s l).2 cq cj = l cq cj := by
  unfold f_X12_expression_204
  repeat' (with_reducible apply itP2)
  all_goals first | with_reducible rfl | simp (disch := first | assumption | omega) only [ll_X12_comesOut, ll_X12_expression_209, wl_f, wl_g, ff_l]
set_option maxHeartbeats 1000000 in
theorem fr_X12_expression_181 {fu : Nat} {K12 : Int32 → Int32 → fl_I → fl_L → fl_I × fl_L} {x1 : Int32} {s : fl_I} {l : fl_L}  {cq cj : Nat} (h0 : ¬ (cq = 60 ∧ cj = 11)) (h1 : ¬ (cq = 60 ∧ cj = 13)) (h2 : ¬ (cq = 60 ∧ cj = 14)) (h3 : ¬ (cq = 60 ∧ cj = 42)) (h4 : ¬ (cq = 60 ∧ cj = 46)) (h5 : cq ≠ 89) (h6 : cq ≠ 90) (h7 : cq ≠ 91) (hkK12 : ∀ (k0 : Int32) (k1 : Int32) (k2 : fl_I) (k3 : fl_L), (K12 k0 k1 k2 k3).1 cq cj = k2 cq cj) : (f_X12_expression_181 fu K12 x1 s l).1 cq cj = s cq cj := by
  unfold f_X12_expression_181
  repeat' (with_reducible apply itP1)
  all_goals first | with_reducible rfl | simp (disch := first | assumption | omega) only [fr_X12_comesOut, fr_X12_expression_204, fr_X12_expression_237, fr_X12_fail, hkK12, wi_f, wi_g, wc_f, ff_s, ff_l, su_f]
set_option maxHeartbeats 1000000 in
theorem ll_X12_expression_181 {fu : Nat} {K12 : Int32 → Int32 → fl_I → fl_L → fl_I × fl_L} {x1 : Int32} {s : fl_I} {l : fl_L}  {cq cj : Nat}  (hkK12 : ∀ (k0 : Int32) (k1 : Int32) (k2 : fl_I) (k3 : fl_L), (K12 k0 k1 k2 k3).2 cq cj = k3 cq cj) : (f_X12_expression_181 fu K12 x1 s l).2 cq cj = l cq cj := by
  unfold f_X12_expression_181
  repeat' (with_reducible apply itP2)
  all_goals first | with_reducible rfl | simp (disch := first | assumption | omega) only [ll_X12_comesOut, ll_X12_expression_204, ll_X12_expression_237, ll_X12_fail, hkK12, wl_f, wl_g, ff_l]
set_option maxHeartbeats 1000000 in
theorem fr_X12_expression_145 {fu : Nat} {K12 : Int32 → Int32 → fl_I → fl_L → fl_I × fl_L} {x1 : Int32} {s : fl_I} {l : fl_L}  {cq cj : Nat} (h0 : ¬ (cq = 60 ∧ cj = 11)) (h1 : ¬ (cq = 60 ∧ cj = 13)) (h2 : ¬ (cq = 60 ∧ cj = 14)) (h3 : ¬ (cq = 60 ∧ cj = 42)) (h4 : ¬ (cq = 60 ∧ cj = 46)) (h5 : cq ≠ 89) (h6 : cq ≠ 90) (h7 : cq ≠ 91) (hkK12 : ∀ (k0 : Int32) (k1 : Int32) (k2 : fl_I) (k3 : fl_L), (K12 k0 k1 k2 k3).1 cq cj = k2 cq cj) : (f_X12_expression_145 fu K12 x1 s l).1 cq cj = s cq cj := by
  unfold f_X12_expression_145
  repeat' (with_reducible apply itP1)
  all_goals first | with_reducible rfl | simp (disch := first | assumption | omega) only [fr_X12_comesOut, fr_X12_expression_181, fr_X12_expression_204, fr_X12_expression_237, fr_X12_fail, hkK12, wi_f, wi_g, wc_f, ff_s, ff_l, su_f]
set_option maxHeartbeats 1000000 in
theorem ll_X12_expression_145 {fu : Nat} {K12 : Int32 → Int32 → fl_I → fl_L → fl_I × fl_L} {x1 : Int32} {s : fl_I} {l : fl_L}  {cq cj : Nat}  (hkK12 : ∀ (k0 : Int32) (k1 : Int32) (k2 : fl_I) (k3 : fl_L), (K12 k0 k1 k2 k3).2 cq cj = k3 cq cj) : (f_X12_expression_145 fu K12 x1 s l).2 cq cj = l cq cj := by
  unfold f_X12_expression_145
  repeat' (with_reducible apply itP2)
  all_goals first | with_reducible rfl | simp (disch := first | assumption | omega) only [ll_X12_comesOut, ll_X12_expression_181, ll_X12_expression_204, ll_X12_expression_237, ll_X12_fail, hkK12, wl_f, wl_g, ff_l]
set_option maxHeartbeats 1000000 in
theorem fr_X12_expression_142 {fu : Nat} {K12 : Int32 → Int32 → fl_I → fl_L → fl_I × fl_L} {K96 : Int32 → fl_I → fl_L → fl_I × fl_L} {x1 : Int32} {s : fl_I} {l : fl_L}  {cq cj : Nat}  (hkK12 : ∀ (k0 : Int32) (k1 : Int32) (k2 : fl_I) (k3 : fl_L), (K12 k0 k1 k2 k3).1 cq cj = k2 cq cj) (hkK96 : ∀ (k0 : Int32) (k1 : fl_I) (k2 : fl_L), (K96 k0 k1 k2).1 cq cj = k1 cq cj) : (f_X12_expression_142 fu K12 K96 x1 s l).1 cq cj = s cq cj := by
  unfold f_X12_expression_142
  repeat' (with_reducible apply itP1)
  all_goals first | with_reducible rfl | simp (disch := first | assumption | omega) only [hkK12, hkK96, wi_f, wi_g, wc_f, ff_s, ff_l, su_f]
set_option maxHeartbeats 1000000 in
theorem ll_X12_expression_142 {fu : Nat} {K12 : Int32 → Int32 → fl_I → fl_L → fl_I × fl_L} {K96 : Int32 → fl_I → fl_L → fl_I × fl_L} {x1 : Int32} {s : fl_I} {l : fl_L}  {cq cj : Nat}  (hkK12 : ∀ (k0 : Int32) (k1 : Int32) (k2 : fl_I) (k3 : fl_L), (K12 k0 k1 k2 k3).2 cq cj = k3 cq cj) (hkK96 : ∀ (k0 : Int32) (k1 : fl_I) (k2 : fl_L), (K96 k0 k1 k2).2 cq cj = k2 cq cj) : (f_X12_expression_142 fu K12 K96 x1 s l).2 cq cj = l cq cj := by
  unfold f_X12_expression_142
  repeat' (with_reducible apply itP2)
  all_goals first | with_reducible rfl | simp (disch := first | assumption | omega) only [hkK12, hkK96, wl_f, wl_g, ff_l]
set_option maxHeartbeats 1000000 in
theorem fr_X12_expression_118 {fu : Nat} {K12 : Int32 → Int32 → fl_I → fl_L → fl_I × fl_L} {K96 : Int32 → fl_I → fl_L → fl_I × fl_L} {x1 : Int32} {s : fl_I} {l : fl_L}  {cq cj : Nat} (h0 : ¬ (cq = 60 ∧ cj = 11)) (h1 : ¬ (cq = 60 ∧ cj = 12)) (h2 : ¬ (cq = 60 ∧ cj = 13)) (h3 : ¬ (cq = 60 ∧ cj = 14)) (h4 : ¬ (cq = 60 ∧ cj = 46)) (hkK12 : ∀ (k0 : Int32) (k1 : Int32) (k2 : fl_I) (k3 : fl_L), (K12 k0 k1 k2 k3).1 cq cj = k2 cq cj) (hkK96 : ∀ (k0 : Int32) (k1 : fl_I) (k2 : fl_L), (K96 k0 k1 k2).1 cq cj = k1 cq cj) : (f_X12_expression_118 fu K12 K96 x1 s l).1 cq cj = s cq cj := by
  unfold f_X12_expression_118
  repeat' (with_reducible apply itP1)
  all_goals first | with_reducible rfl | simp (disch := first | assumption | omega) only [fr_X12_expression_142, fr_X12_goesOn, hkK12, hkK96, wi_f, wi_g, wc_f, ff_s, ff_l, su_f]
set_option maxHeartbeats 1000000 in
theorem ll_X12_expression_118 {fu : Nat} {K12 : Int32 → Int32 → fl_I → fl_L → fl_I × fl_L} {K96 : Int32 → fl_I → fl_L → fl_I × fl_L} {x1 : Int32} {s : fl_I} {l : fl_L}  {cq cj : Nat}  (hkK12 : ∀ (k0 : Int32) (k1 : Int32) (k2 : fl_I) (k3 : fl_L), (K12 k0 k1 k2 k3).2 cq cj = k3 cq cj) (hkK96 : ∀ (k0 : Int32) (k1 : fl_I) (k2 : fl_L), (K96 k0 k1 k2).2 cq cj = k2 cq cj) : (f_X12_expression_118 fu K12 K96 x1 s l).2 cq cj = l cq cj := by
  unfold f_X12_expression_118
  repeat' (with_reducible apply itP2)
  all_goals first | with_reducible rfl | simp (disch := first | assumption | omega) only [ll_X12_expression_142, ll_X12_goesOn, hkK12, hkK96, wl_f, wl_g, ff_l]
set_option maxHeartbeats 1000000 in
theorem fr_X12_expression_96 {fu : Nat} {K12 : Int32 → Int32 → fl_I → fl_L → fl_I × fl_L}  {cq cj : Nat} (h0 : ¬ (cq = 60 ∧ cj = 11)) (h1 : ¬ (cq = 60 ∧ cj = 12)) (h2 : ¬ (cq = 60 ∧ cj = 13)) (h3 : ¬ (cq = 60 ∧ cj = 14)) (h4 : ¬ (cq = 60 ∧ cj = 42)) (h5 : ¬ (cq = 60 ∧ cj = 46)) (h6 : cq ≠ 89) (h7 : cq ≠ 90) (h8 : cq ≠ 91) (hkK12 : ∀ (k0 : Int32) (k1 : Int32) (k2 : fl_I) (k3 : fl_L), (K12 k0 k1 k2 k3).1 cq cj = k2 cq cj) : ∀ (n : Nat) (x1 : Int32) (s : fl_I) (l : fl_L), (f_X12_expression_96 fu K12 n x1 s l).1 cq cj = s cq cj := by
  intro n; induction n with
  | zero => intro x1 s l; rfl
  | succ n ih =>
    intro x1 s l; unfold f_X12_expression_96
    repeat' (with_reducible apply itP1)
    all_goals first | with_reducible rfl | with_reducible exact ih _ _ _ | simp (disch := first | assumption | omega | (intros; with_reducible exact ih _ _ _)) only [ih, fr_X12_comesOut, fr_X12_expression_118, fr_X12_expression_145, hkK12, wi_f, wi_g, wc_f, ff_s, ff_l, su_f]
set_option maxHeartbeats 1000000 in
theorem ll_X12_expression_96 {fu : Nat} {K12 : Int32 → Int32 → fl_I → fl_L → fl_I × fl_L}  {cq cj : Nat}  (hkK12 : ∀ (k0 : Int32) (k1 : Int32) (k2 : fl_I) (k3 : fl_L), (K12 k0 k1 k2 k3).2 cq cj = k3 cq cj) : ∀ (n : Nat) (x1 : Int32) (s : fl_I) (l : fl_L), (f_X12_expression_96 fu K12 n x1 s l).2 cq cj = l cq cj := by
  intro n; induction n with
  | zero => intro x1 s l; rfl
  | succ n ih =>
    intro x1 s l; unfold f_X12_expression_96
    repeat' (with_reducible apply itP2)
    all_goals first | with_reducible rfl | with_reducible exact ih _ _ _ | simp (disch := first | assumption | omega | (intros; with_reducible exact ih _ _ _)) only [ih, ll_X12_comesOut, ll_X12_expression_118, ll_X12_expression_145, hkK12, wl_f, wl_g, ff_l]
set_option maxHeartbeats 1000000 in
theorem fr_X12_expression_88 {fu : Nat} {K12 : Int32 → Int32 → fl_I → fl_L → fl_I × fl_L} {x1 : Int32} {s : fl_I} {l : fl_L}  {cq cj : Nat} (h0 : ¬ (cq = 60 ∧ cj = 11)) (h1 : ¬ (cq = 60 ∧ cj = 12)) (h2 : ¬ (cq = 60 ∧ cj = 13)) (h3 : ¬ (cq = 60 ∧ cj = 14)) (h4 : ¬ (cq = 60 ∧ cj = 42)) (h5 : ¬ (cq = 60 ∧ cj = 46)) (h6 : cq ≠ 89) (h7 : cq ≠ 90) (h8 : cq ≠ 91) (hkK12 : ∀ (k0 : Int32) (k1 : Int32) (k2 : fl_I) (k3 : fl_L), (K12 k0 k1 k2 k3).1 cq cj = k2 cq cj) : (f_X12_expression_88 fu K12 x1 s l).1 cq cj = s cq cj := by
  unfold f_X12_expression_88
  repeat' (with_reducible apply itP1)
  all_goals first | with_reducible rfl | simp (disch := first | assumption | omega) only [fr_X12_expression_96, hkK12, wi_f, wi_g, wc_f, ff_s, ff_l, su_f]
set_option maxHeartbeats 1000000 in
theorem ll_X12_expression_88 {fu : Nat} {K12 : Int32 → Int32 → fl_I → fl_L → fl_I × fl_L} {x1 : Int32} {s : fl_I} {l : fl_L}  {cq cj : Nat}  (hkK12 : ∀ (k0 : Int32) (k1 : Int32) (k2 : fl_I) (k3 : fl_L), (K12 k0 k1 k2 k3).2 cq cj = k3 cq cj) : (f_X12_expression_88 fu K12 x1 s l).2 cq cj = l cq cj := by
  unfold f_X12_expression_88
  repeat' (with_reducible apply itP2)
  all_goals first | with_reducible rfl | simp (disch := first | assumption | omega) only [ll_X12_expression_96, hkK12, wl_f, wl_g, ff_l]
set_option maxHeartbeats 1000000 in
theorem fr_X12_expression_60 {fu : Nat} {K12 : Int32 → Int32 → fl_I → fl_L → fl_I × fl_L} {K23 : Int32 → fl_I → fl_L → fl_I × fl_L} {x1 : Int32} {s : fl_I} {l : fl_L}  {cq cj : Nat} (h0 : ¬ (cq = 60 ∧ cj = 46)) (h1 : cq ≠ 91) (hkK12 : ∀ (k0 : Int32) (k1 : Int32) (k2 : fl_I) (k3 : fl_L), (K12 k0 k1 k2 k3).1 cq cj = k2 cq cj) (hkK23 : ∀ (k0 : Int32) (k1 : fl_I) (k2 : fl_L), (K23 k0 k1 k2).1 cq cj = k1 cq cj) : (f_X12_expression_60 fu K12 K23 x1 s l).1 cq cj = s cq cj := by
  unfold f_X12_expression_60
  repeat' (with_reducible apply itP1)
  all_goals first | with_reducible rfl | simp (disch := first | assumption | omega) only [hkK12, hkK23, wi_f, wi_g, wc_f, ff_s, ff_l, su_f]
set_option maxHeartbeats 1000000 in
theorem ll_X12_expression_60 {fu : Nat} {K12 : Int32 → Int32 → fl_I → fl_L → fl_I × fl_L} {K23 : Int32 → fl_I → fl_L → fl_I × fl_L} {x1 : Int32} {s : fl_I} {l : fl_L}  {cq cj : Nat}  (hkK12 : ∀ (k0 : Int32) (k1 : Int32) (k2 : fl_I) (k3 : fl_L), (K12 k0 k1 k2 k3).2 cq cj = k3 cq cj) (hkK23 : ∀ (k0 : Int32) (k1 : fl_I) (k2 : fl_L), (K23 k0 k1 k2).2 cq cj = k2 cq cj) : (f_X12_expression_60 fu K12 K23 x1 s l).2 cq cj = l cq cj := by
  unfold f_X12_expression_60
  repeat' (with_reducible apply itP2)
  all_goals first | with_reducible rfl | simp (disch := first | assumption | omega) only [hkK12, hkK23, wl_f, wl_g, ff_l]
set_option maxHeartbeats 1000000 in
theorem fr_X12_expression_46 {fu : Nat} {K12 : Int32 → Int32 → fl_I → fl_L → fl_I × fl_L} {K23 : Int32 → fl_I → fl_L → fl_I × fl_L} {x1 : Int32} {s : fl_I} {l : fl_L}  {cq cj : Nat} (h0 : ¬ (cq = 60 ∧ cj = 11)) (h1 : ¬ (cq = 60 ∧ cj = 12)) (h2 : ¬ (cq = 60 ∧ cj = 13)) (h3 : ¬ (cq = 60 ∧ cj = 14)) (h4 : ¬ (cq = 60 ∧ cj = 46)) (h5 : cq ≠ 91) (hkK12 : ∀ (k0 : Int32) (k1 : Int32) (k2 : fl_I) (k3 : fl_L), (K12 k0 k1 k2 k3).1 cq cj = k2 cq cj) (hkK23 : ∀ (k0 : Int32) (k1 : fl_I) (k2 : fl_L), (K23 k0 k1 k2).1 cq cj = k1 cq cj) : (f_X12_expression_46 fu K12 K23 x1 s l).1 cq cj = s cq cj := by
  unfold f_X12_expression_46
  repeat' (with_reducible apply itP1)
  all_goals first | with_reducible rfl | simp (disch := first | assumption | omega) only [fr_X12_expression_60, fr_X12_goesOn, hkK12, hkK23, wi_f, wi_g, wc_f, ff_s, ff_l, su_f]
set_option maxHeartbeats 1000000 in
theorem ll_X12_expression_46 {fu : Nat} {K12 : Int32 → Int32 → fl_I → fl_L → fl_I × fl_L} {K23 : Int32 → fl_I → fl_L → fl_I × fl_L} {x1 : Int32} {s : fl_I} {l : fl_L}  {cq cj : Nat}  (hkK12 : ∀ (k0 : Int32) (k1 : Int32) (k2 : fl_I) (k3 : fl_L), (K12 k0 k1 k2 k3).2 cq cj = k3 cq cj) (hkK23 : ∀ (k0 : Int32) (k1 : fl_I) (k2 : fl_L), (K23 k0 k1 k2).2 cq cj = k2 cq cj) : (f_X12_expression_46 fu K12 K23 x1 s l).2 cq cj = l cq cj := by
  unfold f_X12_expression_46
  repeat' (with_reducible apply itP2)
  all_goals first | with_reducible rfl | simp (disch := first | assumption | omega) only [ll_X12_expression_60, ll_X12_goesOn, hkK12, hkK23, wl_f, wl_g, ff_l]
set_option maxHeartbeats 1000000 in
theorem fr_X12_expression_23 {fu : Nat} {K12 : Int32 → Int32 → fl_I → fl_L → fl_I × fl_L}  {cq cj : Nat} (h0 : ¬ (cq = 60 ∧ cj = 11)) (h1 : ¬ (cq = 60 ∧ cj = 12)) (h2 : ¬ (cq = 60 ∧ cj = 13)) (h3 : ¬ (cq = 60 ∧ cj = 14)) (h4 : ¬ (cq = 60 ∧ cj = 42)) (h5 : ¬ (cq = 60 ∧ cj = 46)) (h6 : cq ≠ 89) (h7 : cq ≠ 90) (h8 : cq ≠ 91) (hkK12 : ∀ (k0 : Int32) (k1 : Int32) (k2 : fl_I) (k3 : fl_L), (K12 k0 k1 k2 k3).1 cq cj = k2 cq cj) : ∀ (n : Nat) (x1 : Int32) (s : fl_I) (l : fl_L), (f_X12_expression_23 fu K12 n x1 s l).1 cq cj = s cq cj := by
  intro n; induction n with
  | zero => intro x1 s l; rfl
  | succ n ih =>
    intro x1 s l; unfold f_X12_expression_23
    repeat' (with_reducible apply itP1)
    all_goals first | with_reducible rfl | with_reducible exact ih _ _ _ | simp (disch := first | assumption | omega | (intros; with_reducible exact ih _ _ _)) only [ih, fr_X12_expression_46, fr_X12_expression_88, fr_X12_fail, fr_X12_unit, hkK12, wi_f, wi_g, wc_f, ff_s, ff_l, su_f]
set_option maxHeartbeats 1000000 in
theorem ll_X12_expression_23 {fu : Nat} {K12 : Int32 → Int32 → fl_I → fl_L → fl_I × fl_L}  {cq cj : Nat}  (hkK12 : ∀ (k0 : Int32) (k1 : Int32) (k2 : fl_I) (k3 : fl_L), (K12 k0 k1 k2 k3).2 cq cj = k3 cq cj) : ∀ (n : Nat) (x1 : Int32) (s : fl_I) (l : fl_L), (f_X12_expression_23 fu K12 n x1 s l).2 cq cj = l cq cj := by
  intro n; induction n with
  | zero => intro x1 s l; rfl
  | succ n ih =>
    intro x1 s l; unfold f_X12_expression_23
    repeat' (with_reducible apply itP2)
    all_goals first | with_reducible rfl | with_reducible exact ih _ _ _ | simp (disch := first | assumption | omega | (intros; with_reducible exact ih _ _ _)) only [ih, ll_X12_expression_46, ll_X12_expression_88, ll_X12_fail, ll_X12_unit, hkK12, wl_f, wl_g, ff_l]
set_option maxHeartbeats 1000000 in
theorem fr_X12_expression_12 {fu : Nat}   {cq cj : Nat} (h0 : ¬ (cq = 60 ∧ cj = 11)) (h1 : ¬ (cq = 60 ∧ cj = 12)) (h2 : ¬ (cq = 60 ∧ cj = 13)) (h3 : ¬ (cq = 60 ∧ cj = 14)) (h4 : ¬ (cq = 60 ∧ cj = 42)) (h5 : ¬ (cq = 60 ∧ cj = 46)) (h6 : cq ≠ 89) (h7 : cq ≠ 90) (h8 : cq ≠ 91)  : ∀ (n : Nat) (x1 : Int32) (x2 : Int32) (s : fl_I) (l : fl_L), (f_X12_expression_12 fu n x1 x2 s l).1 cq cj = s cq cj := by
  intro n; induction n with
  | zero => intro x1 x2 s l; rfl
  | succ n ih =>
    intro x1 x2 s l; unfold f_X12_expression_12
    repeat' (with_reducible apply itP1)
    all_goals first | with_reducible rfl | with_reducible exact ih _ _ _ _ | simp (disch := first | assumption | omega | (intros; with_reducible exact ih _ _ _ _)) only [ih, fr_X12_expression_23, fr_X12_expression_272, wi_f, wi_g, wc_f, ff_s, ff_l, su_f]
set_option maxHeartbeats 1000000 in
theorem ll_X12_expression_12 {fu : Nat}   {cq cj : Nat}   : ∀ (n : Nat) (x1 : Int32) (x2 : Int32) (s : fl_I) (l : fl_L), (f_X12_expression_12 fu n x1 x2 s l).2 cq cj = l cq cj := by
  intro n; induction n with
  | zero => intro x1 x2 s l; rfl
  | succ n ih =>
    intro x1 x2 s l; unfold f_X12_expression_12
    repeat' (with_reducible apply itP2)
    all_goals first | with_reducible rfl | with_reducible exact ih _ _ _ _ | simp (disch := first | assumption | omega | (intros; with_reducible exact ih _ _ _ _)) only [ih, ll_X12_expression_23, ll_X12_expression_272, wl_f, wl_g, ff_l]
set_option maxHeartbeats 1000000 in
theorem fr_X12_expression {fu : Nat} {s : fl_I} {l : fl_L}  {cq cj : Nat} (h0 : ¬ (cq = 60 ∧ cj = 11)) (h1 : ¬ (cq = 60 ∧ cj = 12)) (h2 : ¬ (cq = 60 ∧ cj = 13)) (h3 : ¬ (cq = 60 ∧ cj = 14)) (h4 : ¬ (cq = 60 ∧ cj = 42)) (h5 : ¬ (cq = 60 ∧ cj = 46)) (h6 : cq ≠ 89) (h7 : cq ≠ 90) (h8 : cq ≠ 91)  : (f_X12_expression fu s l).1 cq cj = s cq cj := by
  unfold f_X12_expression
  repeat' (with_reducible apply itP1)
  all_goals first | with_reducible rfl | simp (disch := first | assumption | omega) only [fr_X12_expression_12, wi_f, wi_g, wc_f, ff_s, ff_l, su_f]
set_option maxHeartbeats 1000000 in
theorem ll_X12_expression {fu : Nat} {s : fl_I} {l : fl_L}  {cq cj : Nat}   : (f_X12_expression fu s l).2 cq cj = l cq cj := by
  unfold f_X12_expression
  repeat' (with_reducible apply itP2)
  all_goals first | with_reducible rfl | simp (disch := first | assumption | omega) only [ll_X12_expression_12, wl_f, wl_g, ff_l]
set_option maxHeartbeats 1000000 in
theorem fr_X12_begins_171 {fu : Nat}   {cq cj : Nat} (h0 : ¬ (cq = 60 ∧ cj = 52)) (h1 : ¬ (cq = 60 ∧ cj = 53)) (h2 : cq ≠ 95)  : ∀ (n : Nat) (x1 : Int32) (s : fl_I) (l : fl_L), (f_X12_begins_171 fu n x1 s l).1 cq cj = s cq cj := by
  intro n; induction n with
  | zero => intro x1 s l; rfl
  | succ n ih =>
    intro x1 s l; unfold f_X12_begins_171
    repeat' (with_reducible apply itP1)
    all_goals first | with_reducible rfl | with_reducible exact ih _ _ _ | simp (disch := first | assumption | omega | (intros; with_reducible exact ih _ _ _)) only [ih, wi_f, wi_g, wc_f, ff_s, ff_l, su_f]
set_option maxHeartbeats 1000000 in
theorem ll_X12_begins_171 {fu : Nat}     : ∀ (n : Nat) (x1 : Int32) (s : fl_I) (l : fl_L), (f_X12_begins_171 fu n x1 s l).2 = l := by
  intro n; induction n with
  | zero => intro x1 s l; rfl
  | succ n ih =>
    intro x1 s l; unfold f_X12_begins_171
    repeat' (with_reducible apply itP3)
    all_goals first | with_reducible rfl | with_reducible exact ih _ _ _ | simp (disch := first | assumption | omega | (intros; with_reducible exact ih _ _ _)) only [ih, ff_l]
set_option maxHeartbeats 1000000 in
theorem fr_X12_begins_53 {fu : Nat} {K29 : Int32 → fl_I → fl_L → fl_I × fl_L}  {cq cj : Nat} (h0 : ¬ (cq = 60 ∧ cj = 54)) (h1 : cq ≠ 95) (h2 : cq ≠ 96) (h3 : cq ≠ 97) (hkK29 : ∀ (k0 : Int32) (k1 : fl_I) (k2 : fl_L), (K29 k0 k1 k2).1 cq cj = k1 cq cj) : ∀ (n : Nat) (x1 : Int32) (x2 : Int32) (x3 : Int32) (s : fl_I) (l : fl_L), (f_X12_begins_53 fu K29 n x1 x2 x3 s l).1 cq cj = s cq cj := by
  intro n; induction n with
  | zero => intro x1 x2 x3 s l; rfl
  | succ n ih =>
    intro x1 x2 x3 s l; unfold f_X12_begins_53
    repeat' (with_reducible apply itP1)
    all_goals first | with_reducible rfl | with_reducible exact ih _ _ _ _ _ | simp (disch := first | assumption | omega | (intros; with_reducible exact ih _ _ _ _ _)) only [ih, hkK29, wi_f, wi_g, wc_f, ff_s, ff_l, su_f]
set_option maxHeartbeats 1000000 in
theorem ll_X12_begins_53 {fu : Nat} {K29 : Int32 → fl_I → fl_L → fl_I × fl_L}  {cq cj : Nat}  (hkK29 : ∀ (k0 : Int32) (k1 : fl_I) (k2 : fl_L), (K29 k0 k1 k2).2 cq cj = k2 cq cj) : ∀ (n : Nat) (x1 : Int32) (x2 : Int32) (x3 : Int32) (s : fl_I) (l : fl_L), (f_X12_begins_53 fu K29 n x1 x2 x3 s l).2 cq cj = l cq cj := by
  intro n; induction n with
  | zero => intro x1 x2 x3 s l; rfl
  | succ n ih =>
    intro x1 x2 x3 s l; unfold f_X12_begins_53
    repeat' (with_reducible apply itP2)
    all_goals first | with_reducible rfl | with_reducible exact ih _ _ _ _ _ | simp (disch := first | assumption | omega | (intros; with_reducible exact ih _ _ _ _ _)) only [ih, hkK29, wl_f, wl_g, ff_l]
set_option maxHeartbeats 1000000 in
theorem fr_X12_begins_29 {fu : Nat}   {cq cj : Nat} (h0 : ¬ (cq = 60 ∧ cj = 52)) (h1 : ¬ (cq = 60 ∧ cj = 53)) (h2 : ¬ (cq = 60 ∧ cj = 54)) (h3 : cq ≠ 95) (h4 : cq ≠ 96) (h5 : cq ≠ 97)  : ∀ (n : Nat) (x1 : Int32) (s : fl_I) (l : fl_L), (f_X12_begins_29 fu n x1 s l).1 cq cj = s cq cj := by
  intro n; induction n with
  | zero => intro x1 s l; rfl
  | succ n ih =>
    intro x1 s l; unfold f_X12_begins_29
    repeat' (with_reducible apply itP1)
    all_goals first | with_reducible rfl | with_reducible exact ih _ _ _ | simp (disch := first | assumption | omega | (intros; with_reducible exact ih _ _ _)) only [ih, fr_X12_begins_171, fr_X12_begins_53, wi_f, wi_g, wc_f, ff_s, ff_l, su_f]
set_option maxHeartbeats 1000000 in
theorem ll_X12_begins_29 {fu : Nat}   {cq cj : Nat}   : ∀ (n : Nat) (x1 : Int32) (s : fl_I) (l : fl_L), (f_X12_begins_29 fu n x1 s l).2 cq cj = l cq cj := by
  intro n; induction n with
  | zero => intro x1 s l; rfl
  | succ n ih =>
    intro x1 s l; unfold f_X12_begins_29
    repeat' (with_reducible apply itP2)
    all_goals first | with_reducible rfl | with_reducible exact ih _ _ _ | simp (disch := first | assumption | omega | (intros; with_reducible exact ih _ _ _)) only [ih, ll_X12_begins_171, ll_X12_begins_53, wl_f, wl_g, ff_l]
set_option maxHeartbeats 1000000 in
theorem fr_X12_begins_2 {fu : Nat}   {cq cj : Nat} (h0 : ¬ (cq = 60 ∧ cj = 52)) (h1 : ¬ (cq = 60 ∧ cj = 53)) (h2 : ¬ (cq = 60 ∧ cj = 54)) (h3 : cq ≠ 95) (h4 : cq ≠ 96) (h5 : cq ≠ 97)  : ∀ (n : Nat) (x1 : Int32) (s : fl_I) (l : fl_L), (f_X12_begins_2 fu n x1 s l).1 cq cj = s cq cj := by
  intro n; induction n with
  | zero => intro x1 s l; rfl
  | succ n ih =>
    intro x1 s l; unfold f_X12_begins_2
    repeat' (with_reducible apply itP1)
    all_goals first | with_reducible rfl | with_reducible exact ih _ _ _ | simp (disch := first | assumption | omega | (intros; with_reducible exact ih _ _ _)) only [ih, fr_X12_begins_29, wi_f, wi_g, wc_f, ff_s, ff_l, su_f]
set_option maxHeartbeats 1000000 in
theorem ll_X12_begins_2 {fu : Nat}   {cq cj : Nat}   : ∀ (n : Nat) (x1 : Int32) (s : fl_I) (l : fl_L), (f_X12_begins_2 fu n x1 s l).2 cq cj = l cq cj := by
  intro n; induction n with
  | zero => intro x1 s l; rfl
  | succ n ih =>
    intro x1 s l; unfold f_X12_begins_2
    repeat' (with_reducible apply itP2)
    all_goals first | with_reducible rfl | with_reducible exact ih _ _ _ | simp (disch := first | assumption | omega | (intros; with_reducible exact ih _ _ _)) only [ih, ll_X12_begins_29, wl_f, wl_g, ff_l]
set_option maxHeartbeats 1000000 in
theorem fr_X12_begins {fu : Nat} {s : fl_I} {l : fl_L}  {cq cj : Nat} (h0 : ¬ (cq = 60 ∧ cj = 52)) (h1 : ¬ (cq = 60 ∧ cj = 53)) (h2 : ¬ (cq = 60 ∧ cj = 54)) (h3 : cq ≠ 95) (h4 : cq ≠ 96) (h5 : cq ≠ 97)  : (f_X12_begins fu s l).1 cq cj = s cq cj := by
  unfold f_X12_begins
  repeat' (with_reducible apply itP1)
  all_goals first | with_reducible rfl | simp (disch := first | assumption | omega) only [fr_X12_begins_2, wi_f, wi_g, wc_f, ff_s, ff_l, su_f]
set_option maxHeartbeats 1000000 in
theorem ll_X12_begins {fu : Nat} {s : fl_I} {l : fl_L}  {cq cj : Nat}   : (f_X12_begins fu s l).2 cq cj = l cq cj := by
  unfold f_X12_begins
  repeat' (with_reducible apply itP2)
  all_goals first | with_reducible rfl | simp (disch := first | assumption | omega) only [ll_X12_begins_2, wl_f, wl_g, ff_l]
set_option maxHeartbeats 1000000 in
theorem fr_X12_cut_208 {fu : Nat} {K7 : Int32 → fl_I → fl_L → fl_I × fl_L}  {cq cj : Nat} (h0 : ¬ (cq = 60 ∧ cj = 10)) (h1 : cq ≠ 63) (h2 : cq ≠ 64) (h3 : cq ≠ 65) (hkK7 : ∀ (k0 : Int32) (k1 : fl_I) (k2 : fl_L), (K7 k0 k1 k2).1 cq cj = k1 cq cj) : ∀ (n : Nat) (x1 : Int32) (x3 : Int32) (x4 : Int32) (s : fl_I) (l : fl_L), (f_X12_cut_208 fu K7 n x1 x3 x4 s l).1 cq cj = s cq cj := by
  intro n; induction n with
  | zero => intro x1 x3 x4 s l; rfl
  | succ n ih =>
    intro x1 x3 x4 s l; unfold f_X12_cut_208
    repeat' (with_reducible apply itP1)
    all_goals first | with_reducible rfl | with_reducible exact ih _ _ _ _ _ | simp (disch := first | assumption | omega | (intros; with_reducible exact ih _ _ _ _ _)) only [ih, fr_X12_token, hkK7, wi_f, wi_g, wc_f, ff_s, ff_l, su_f]
set_option maxHeartbeats 1000000 in
theorem ll_X12_cut_208 {fu : Nat} {K7 : Int32 → fl_I → fl_L → fl_I × fl_L}  {cq cj : Nat} (h0 : cq ≠ 66) (hkK7 : ∀ (k0 : Int32) (k1 : fl_I) (k2 : fl_L), (K7 k0 k1 k2).2 cq cj = k2 cq cj) : ∀ (n : Nat) (x1 : Int32) (x3 : Int32) (x4 : Int32) (s : fl_I) (l : fl_L), (f_X12_cut_208 fu K7 n x1 x3 x4 s l).2 cq cj = l cq cj := by
  intro n; induction n with
  | zero => intro x1 x3 x4 s l; rfl
  | succ n ih =>
    intro x1 x3 x4 s l; unfold f_X12_cut_208
    repeat' (with_reducible apply itP2)
    all_goals first | with_reducible rfl | with_reducible exact ih _ _ _ _ _ | simp (disch := first | assumption | omega | (intros; with_reducible exact ih _ _ _ _ _)) only [ih, ll_X12_token, hkK7, wl_f, wl_g, ff_l]
set_option maxHeartbeats 1000000 in
theorem fr_X12_cut_146 {fu : Nat} {K7 : Int32 → fl_I → fl_L → fl_I × fl_L}  {cq cj : Nat} (h0 : ¬ (cq = 60 ∧ cj = 10)) (h1 : cq ≠ 63) (h2 : cq ≠ 64) (h3 : cq ≠ 65) (hkK7 : ∀ (k0 : Int32) (k1 : fl_I) (k2 : fl_L), (K7 k0 k1 k2).1 cq cj = k1 cq cj) : ∀ (n : Nat) (x1 : Int32) (x3 : Int32) (x4 : Int64) (x6 : Int32) (x7 : Int32) (s : fl_I) (l : fl_L), (f_X12_cut_146 fu K7 n x1 x3 x4 x6 x7 s l).1 cq cj = s cq cj := by
  intro n; induction n with
  | zero => intro x1 x3 x4 x6 x7 s l; rfl
  | succ n ih =>
    intro x1 x3 x4 x6 x7 s l; unfold f_X12_cut_146
    repeat' (with_reducible apply itP1)
    all_goals first | with_reducible rfl | with_reducible exact ih _ _ _ _ _ _ _ | simp (disch := first | assumption | omega | (intros; with_reducible exact ih _ _ _ _ _ _ _)) only [ih, fr_X12_token, hkK7, wi_f, wi_g, wc_f, ff_s, ff_l, su_f]
set_option maxHeartbeats 1000000 in
theorem ll_X12_cut_146 {fu : Nat} {K7 : Int32 → fl_I → fl_L → fl_I × fl_L}  {cq cj : Nat} (h0 : cq ≠ 66) (hkK7 : ∀ (k0 : Int32) (k1 : fl_I) (k2 : fl_L), (K7 k0 k1 k2).2 cq cj = k2 cq cj) : ∀ (n : Nat) (x1 : Int32) (x3 : Int32) (x4 : Int64) (x6 : Int32) (x7 : Int32) (s : fl_I) (l : fl_L), (f_X12_cut_146 fu K7 n x1 x3 x4 x6 x7 s l).2 cq cj = l cq cj := by
  intro n; induction n with
  | zero => intro x1 x3 x4 x6 x7 s l; rfl
  | succ n ih =>
    intro x1 x3 x4 x6 x7 s l; unfold f_X12_cut_146
    repeat' (with_reducible apply itP2)
    all_goals first | with_reducible rfl | with_reducible exact ih _ _ _ _ _ _ _ | simp (disch := first | assumption | omega | (intros; with_reducible exact ih _ _ _ _ _ _ _)) only [ih, ll_X12_token, hkK7, wl_f, wl_g, ff_l]
set_option maxHeartbeats 1000000 in
theorem fr_X12_cut_85 {fu : Nat} {K7 : Int32 → fl_I → fl_L → fl_I × fl_L}  {cq cj : Nat} (h0 : ¬ (cq = 60 ∧ cj = 10)) (h1 : cq ≠ 63) (h2 : cq ≠ 64) (h3 : cq ≠ 65) (hkK7 : ∀ (k0 : Int32) (k1 : fl_I) (k2 : fl_L), (K7 k0 k1 k2).1 cq cj = k1 cq cj) : ∀ (n : Nat) (x1 : Int32) (x3 : Int32) (x4 : Int64) (s : fl_I) (l : fl_L), (f_X12_cut_85 fu K7 n x1 x3 x4 s l).1 cq cj = s cq cj := by
  intro n; induction n with
  | zero => intro x1 x3 x4 s l; rfl
  | succ n ih =>
    intro x1 x3 x4 s l; unfold f_X12_cut_85
    repeat' (with_reducible apply itP1)
    all_goals first | with_reducible rfl | with_reducible exact ih _ _ _ _ _ | simp (disch := first | assumption | omega | (intros; with_reducible exact ih _ _ _ _ _)) only [ih, fr_X12_cut_146, fr_X12_token, hkK7, wi_f, wi_g, wc_f, ff_s, ff_l, su_f]
set_option maxHeartbeats 1000000 in
theorem ll_X12_cut_85 {fu : Nat} {K7 : Int32 → fl_I → fl_L → fl_I × fl_L}  {cq cj : Nat} (h0 : cq ≠ 66) (hkK7 : ∀ (k0 : Int32) (k1 : fl_I) (k2 : fl_L), (K7 k0 k1 k2).2 cq cj = k2 cq cj) : ∀ (n : Nat) (x1 : Int32) (x3 : Int32) (x4 : Int64) (s : fl_I) (l : fl_L), (f_X12_cut_85 fu K7 n x1 x3 x4 s l).2 cq cj = l cq cj := by
  intro n; induction n with
  | zero => intro x1 x3 x4 s l; rfl
  | succ n ih =>
    intro x1 x3 x4 s l; unfold f_X12_cut_85
    repeat' (with_reducible apply itP2)
    all_goals first | with_reducible rfl | with_reducible exact ih _ _ _ _ _ | simp (disch := first | assumption | omega | (intros; with_reducible exact ih _ _ _ _ _)) only [ih, ll_X12_cut_146, ll_X12_token, hkK7, wl_f, wl_g, ff_l]
set_option maxHeartbeats 1000000 in
theorem fr_X12_cut_7 {fu : Nat}   {cq cj : Nat} (h0 : ¬ (cq = 60 ∧ cj = 10)) (h1 : cq ≠ 63) (h2 : cq ≠ 64) (h3 : cq ≠ 65)  : ∀ (n : Nat) (x1 : Int32) (s : fl_I) (l : fl_L), (f_X12_cut_7 fu n x1 s l).1 cq cj = s cq cj := by
  intro n; induction n with
  | zero => intro x1 s l; rfl
  | succ n ih =>
    intro x1 s l; unfold f_X12_cut_7
    repeat' (with_reducible apply itP1)
    all_goals first | with_reducible rfl | with_reducible exact ih _ _ _ | simp (disch := first | assumption | omega | (intros; with_reducible exact ih _ _ _)) only [ih, fr_X12_cut_208, fr_X12_cut_85, fr_X12_sign, fr_X12_token, wi_f, wi_g, wc_f, ff_s, ff_l, su_f]
set_option maxHeartbeats 1000000 in
theorem ll_X12_cut_7 {fu : Nat}   {cq cj : Nat} (h0 : cq ≠ 66)  : ∀ (n : Nat) (x1 : Int32) (s : fl_I) (l : fl_L), (f_X12_cut_7 fu n x1 s l).2 cq cj = l cq cj := by
  intro n; induction n with
  | zero => intro x1 s l; rfl
  | succ n ih =>
    intro x1 s l; unfold f_X12_cut_7
    repeat' (with_reducible apply itP2)
    all_goals first | with_reducible rfl | with_reducible exact ih _ _ _ | simp (disch := first | assumption | omega | (intros; with_reducible exact ih _ _ _)) only [ih, ll_X12_cut_208, ll_X12_cut_85, ll_X12_sign, ll_X12_token, wl_f, wl_g, ff_l]
set_option maxHeartbeats 1000000 in
theorem fr_X12_cut {fu : Nat} {s : fl_I} {l : fl_L}  {cq cj : Nat} (h0 : ¬ (cq = 60 ∧ cj = 10)) (h1 : cq ≠ 63) (h2 : cq ≠ 64) (h3 : cq ≠ 65)  : (f_X12_cut fu s l).1 cq cj = s cq cj := by
  unfold f_X12_cut
  repeat' (with_reducible apply itP1)
  all_goals first | with_reducible rfl | simp (disch := first | assumption | omega) only [fr_X12_cut_7, wi_f, wi_g, wc_f, ff_s, ff_l, su_f]
set_option maxHeartbeats 1000000 in
theorem ll_X12_cut {fu : Nat} {s : fl_I} {l : fl_L}  {cq cj : Nat} (h0 : cq ≠ 66)  : (f_X12_cut fu s l).2 cq cj = l cq cj := by
  unfold f_X12_cut
  repeat' (with_reducible apply itP2)
  all_goals first | with_reducible rfl | simp (disch := first | assumption | omega) only [ll_X12_cut_7, wl_f, wl_g, ff_l]
set_option maxHeartbeats 1000000 in
theorem fr_X3_unit {fu : Nat} {KS : Int32 → Nat → fl_I → fl_L → Int32 × fl_I × fl_L} {v1 : Int32} {t : Nat} {s : fl_I} {l : fl_L}  {cq cj : Nat} (h0 : ¬ (cq = 3 ∧ cj = 0)) (h1 : ¬ (cq = 3 ∧ cj = 2)) (h2 : ¬ (cq = 3 ∧ cj = 3)) (h3 : cq ≠ (t + 9)) (h4 : ¬ (cq = t ∧ cj = 14)) (hkKS : ∀ (k0 : Int32) (k2 : fl_I) (k3 : fl_L), (KS k0 t k2 k3).2.1 cq cj = k2 cq cj) : (f_X3_unit fu KS v1 t s l).2.1 cq cj = s cq cj := by
  unfold f_X3_unit
  repeat' (with_reducible apply itT1)
  all_goals first | with_reducible rfl | simp (disch := first | assumption | omega) only [fr_X3_stop, fr_X3_take, fr_X5_addCode, hkKS, wi_f, wi_g, wc_f, ff_s, ff_l, su_f]
set_option maxHeartbeats 1000000 in
theorem ll_X3_unit {fu : Nat} {KS : Int32 → Nat → fl_I → fl_L → Int32 × fl_I × fl_L} {v1 : Int32} {t : Nat} {s : fl_I} {l : fl_L}  {cq cj : Nat}  (hkKS : ∀ (k0 : Int32) (k2 : fl_I) (k3 : fl_L), (KS k0 t k2 k3).2.2 cq cj = k3 cq cj) : (f_X3_unit fu KS v1 t s l).2.2 cq cj = l cq cj := by
  unfold f_X3_unit
  repeat' (with_reducible apply itT2)
  all_goals first | with_reducible rfl | simp (disch := first | assumption | omega) only [ll_X3_stop, ll_X3_take, ll_X5_addCode, hkKS, wl_f, wl_g, ff_l]
set_option maxHeartbeats 1000000 in
theorem fr_X3_product_10 {fu : Nat} {KS : Int32 → Nat → fl_I → fl_L → Int32 × fl_I × fl_L} {t : Nat} {cq cj : Nat} (h0 : ¬ (cq = 3 ∧ cj = 0)) (h1 : ¬ (cq = 3 ∧ cj = 2)) (h2 : ¬ (cq = 3 ∧ cj = 3)) (h3 : cq ≠ (t + 9)) (h4 : ¬ (cq = t ∧ cj = 14)) (hkKS : ∀ (k0 : Int32) (k2 : fl_I) (k3 : fl_L), (KS k0 t k2 k3).2.1 cq cj = k2 cq cj) : ∀ (n : Nat) (x2 : Int32) (x3 : Int32) (x4 : Int32) (s : fl_I) (l : fl_L), (f_X3_product_10 fu KS n x2 x3 x4 t s l).2.1 cq cj = s cq cj := by
  intro n; induction n with
  | zero => intro x2 x3 x4 s l; rfl
  | succ n ih =>
    intro x2 x3 x4 s l; unfold f_X3_product_10
    repeat' (with_reducible apply itT1)
    all_goals first | with_reducible rfl | with_reducible exact ih _ _ _ _ _ | simp (disch := first | assumption | omega | (intros; with_reducible exact ih _ _ _ _ _)) only [ih, fr_X3_take, fr_X3_unit, fr_X5_addCode, hkKS, wi_f, wi_g, wc_f, ff_s, ff_l, su_f]
set_option maxHeartbeats 1000000 in
theorem ll_X3_product_10 {fu : Nat} {KS : Int32 → Nat → fl_I → fl_L → Int32 × fl_I × fl_L} {t : Nat} {cq cj : Nat}  (hkKS : ∀ (k0 : Int32) (k2 : fl_I) (k3 : fl_L), (KS k0 t k2 k3).2.2 cq cj = k3 cq cj) : ∀ (n : Nat) (x2 : Int32) (x3 : Int32) (x4 : Int32) (s : fl_I) (l : fl_L), (f_X3_product_10 fu KS n x2 x3 x4 t s l).2.2 cq cj = l cq cj := by
  intro n; induction n with
  | zero => intro x2 x3 x4 s l; rfl
  | succ n ih =>
    intro x2 x3 x4 s l; unfold f_X3_product_10
    repeat' (with_reducible apply itT2)
    all_goals first | with_reducible rfl | with_reducible exact ih _ _ _ _ _ | simp (disch := first | assumption | omega | (intros; with_reducible exact ih _ _ _ _ _)) only [ih, ll_X3_take, ll_X3_unit, ll_X5_addCode, hkKS, wl_f, wl_g, ff_l]
set_option maxHeartbeats 1000000 in
theorem fr_X3_product {fu : Nat} {KS : Int32 → Nat → fl_I → fl_L → Int32 × fl_I × fl_L} {v1 : Int32} {t : Nat} {s : fl_I} {l : fl_L}  {cq cj : Nat} (h0 : ¬ (cq = 3 ∧ cj = 0)) (h1 : ¬ (cq = 3 ∧ cj = 2)) (h2 : ¬ (cq = 3 ∧ cj = 3)) (h3 : cq ≠ (t + 9)) (h4 : ¬ (cq = t ∧ cj = 14)) (hkKS : ∀ (k0 : Int32) (k2 : fl_I) (k3 : fl_L), (KS k0 t k2 k3).2.1 cq cj = k2 cq cj) : (f_X3_product fu KS v1 t s l).2.1 cq cj = s cq cj := by
  unfold f_X3_product
  repeat' (with_reducible apply itT1)
  all_goals first | with_reducible rfl | simp (disch := first | assumption | omega) only [fr_X3_product_10, fr_X3_unit, hkKS, wi_f, wi_g, wc_f, ff_s, ff_l, su_f]
set_option maxHeartbeats 1000000 in
theorem ll_X3_product {fu : Nat} {KS : Int32 → Nat → fl_I → fl_L → Int32 × fl_I × fl_L} {v1 : Int32} {t : Nat} {s : fl_I} {l : fl_L}  {cq cj : Nat}  (hkKS : ∀ (k0 : Int32) (k2 : fl_I) (k3 : fl_L), (KS k0 t k2 k3).2.2 cq cj = k3 cq cj) : (f_X3_product fu KS v1 t s l).2.2 cq cj = l cq cj := by
  unfold f_X3_product
  repeat' (with_reducible apply itT2)
  all_goals first | with_reducible rfl | simp (disch := first | assumption | omega) only [ll_X3_product_10, ll_X3_unit, hkKS, wl_f, wl_g, ff_l]
set_option maxHeartbeats 1000000 in
theorem fr_X3_sum_10 {fu : Nat} {KS : Int32 → Nat → fl_I → fl_L → Int32 × fl_I × fl_L} {t : Nat} {cq cj : Nat} (h0 : ¬ (cq = 3 ∧ cj = 0)) (h1 : ¬ (cq = 3 ∧ cj = 2)) (h2 : ¬ (cq = 3 ∧ cj = 3)) (h3 : cq ≠ (t + 9)) (h4 : ¬ (cq = t ∧ cj = 14)) (hkKS : ∀ (k0 : Int32) (k2 : fl_I) (k3 : fl_L), (KS k0 t k2 k3).2.1 cq cj = k2 cq cj) : ∀ (n : Nat) (x2 : Int32) (x3 : Int32) (x4 : Int32) (s : fl_I) (l : fl_L), (f_X3_sum_10 fu KS n x2 x3 x4 t s l).2.1 cq cj = s cq cj := by
  intro n; induction n with
  | zero => intro x2 x3 x4 s l; rfl
  | succ n ih =>
    intro x2 x3 x4 s l; unfold f_X3_sum_10
    repeat' (with_reducible apply itT1)
    all_goals first | with_reducible rfl | with_reducible exact ih _ _ _ _ _ | simp (disch := first | assumption | omega | (intros; with_reducible exact ih _ _ _ _ _)) only [ih, fr_X3_product, fr_X3_take, fr_X5_addCode, hkKS, wi_f, wi_g, wc_f, ff_s, ff_l, su_f]
set_option maxHeartbeats 1000000 in
theorem ll_X3_sum_10 {fu : Nat} {KS : Int32 → Nat → fl_I → fl_L → Int32 × fl_I × fl_L} {t : Nat} {cq cj : Nat}  (hkKS : ∀ (k0 : Int32) (k2 : fl_I) (k3 : fl_L), (KS k0 t k2 k3).2.2 cq cj = k3 cq cj) : ∀ (n : Nat) (x2 : Int32) (x3 : Int32) (x4 : Int32) (s : fl_I) (l : fl_L), (f_X3_sum_10 fu KS n x2 x3 x4 t s l).2.2 cq cj = l cq cj := by
  intro n; induction n with
  | zero => intro x2 x3 x4 s l; rfl
  | succ n ih =>
    intro x2 x3 x4 s l; unfold f_X3_sum_10
    repeat' (with_reducible apply itT2)
    all_goals first | with_reducible rfl | with_reducible exact ih _ _ _ _ _ | simp (disch := first | assumption | omega | (intros; with_reducible exact ih _ _ _ _ _)) only [ih, ll_X3_product, ll_X3_take, ll_X5_addCode, hkKS, wl_f, wl_g, ff_l]
set_option maxHeartbeats 1000000 in
theorem fr_X3_sum {fu : Nat} {KS : Int32 → Nat → fl_I → fl_L → Int32 × fl_I × fl_L} {v1 : Int32} {t : Nat} {s : fl_I} {l : fl_L}  {cq cj : Nat} (h0 : ¬ (cq = 3 ∧ cj = 0)) (h1 : ¬ (cq = 3 ∧ cj = 2)) (h2 : ¬ (cq = 3 ∧ cj = 3)) (h3 : cq ≠ (t + 9)) (h4 : ¬ (cq = t ∧ cj = 14)) (hkKS : ∀ (k0 : Int32) (k2 : fl_I) (k3 : fl_L), (KS k0 t k2 k3).2.1 cq cj = k2 cq cj) : (f_X3_sum fu KS v1 t s l).2.1 cq cj = s cq cj := by
  unfold f_X3_sum
  repeat' (with_reducible apply itT1)
  all_goals first | with_reducible rfl | simp (disch := first | assumption | omega) only [fr_X3_product, fr_X3_sum_10, hkKS, wi_f, wi_g, wc_f, ff_s, ff_l, su_f]
set_option maxHeartbeats 1000000 in
theorem ll_X3_sum {fu : Nat} {KS : Int32 → Nat → fl_I → fl_L → Int32 × fl_I × fl_L} {v1 : Int32} {t : Nat} {s : fl_I} {l : fl_L}  {cq cj : Nat}  (hkKS : ∀ (k0 : Int32) (k2 : fl_I) (k3 : fl_L), (KS k0 t k2 k3).2.2 cq cj = k3 cq cj) : (f_X3_sum fu KS v1 t s l).2.2 cq cj = l cq cj := by
  unfold f_X3_sum
  repeat' (with_reducible apply itT2)
  all_goals first | with_reducible rfl | simp (disch := first | assumption | omega) only [ll_X3_product, ll_X3_sum_10, hkKS, wl_f, wl_g, ff_l]
set_option maxHeartbeats 1000000 in
theorem fr_sumD {fu : Nat}  {t : Nat} {cq cj : Nat} (h0 : ¬ (cq = 3 ∧ cj = 0)) (h1 : ¬ (cq = 3 ∧ cj = 2)) (h2 : ¬ (cq = 3 ∧ cj = 3)) (h3 : cq ≠ (t + 9)) (h4 : ¬ (cq = t ∧ cj = 14))  : ∀ (n : Nat) (v : Int32) (s : fl_I) (l : fl_L), (f_sumD fu n v t s l).2.1 cq cj = s cq cj := by
  intro n; induction n with
  | zero => intro v s l; rfl
  | succ n ih =>
    intro v s l; unfold f_sumD
    repeat' (with_reducible apply itT1)
    all_goals first | with_reducible rfl | with_reducible exact ih _ _ _ | simp (disch := first | assumption | omega | (intros; with_reducible exact ih _ _ _)) only [ih, fr_X3_sum, wi_f, wi_g, wc_f, ff_s, ff_l, su_f]
set_option maxHeartbeats 1000000 in
theorem ll_sumD {fu : Nat}  {t : Nat} {cq cj : Nat}   : ∀ (n : Nat) (v : Int32) (s : fl_I) (l : fl_L), (f_sumD fu n v t s l).2.2 cq cj = l cq cj := by
  intro n; induction n with
  | zero => intro v s l; rfl
  | succ n ih =>
    intro v s l; unfold f_sumD
    repeat' (with_reducible apply itT2)
    all_goals first | with_reducible rfl | with_reducible exact ih _ _ _ | simp (disch := first | assumption | omega | (intros; with_reducible exact ih _ _ _)) only [ih, ll_X3_sum, wl_f, wl_g, ff_l]
set_option maxHeartbeats 1000000 in
theorem fr_X12_copiesStill {fu : Nat} {s : fl_I} {l : fl_L}  {cq cj : Nat} (h0 : ¬ (cq = 60 ∧ cj = 52)) (h1 : ¬ (cq = 60 ∧ cj = 53)) (h2 : cq ≠ 95)  : (f_X12_copiesStill fu s l).1 cq cj = s cq cj := by
  unfold f_X12_copiesStill
  repeat' (with_reducible apply itP1)
  all_goals first | with_reducible rfl | simp (disch := first | assumption | omega) only [fr_X12_copies, wi_f, wi_g, wc_f, ff_s, ff_l, su_f]
set_option maxHeartbeats 1000000 in
theorem ll_X12_copiesStill {fu : Nat} {s : fl_I} {l : fl_L}    : (f_X12_copiesStill fu s l).2 = l := by
  unfold f_X12_copiesStill
  repeat' (with_reducible apply itP3)
  all_goals first | with_reducible rfl | simp (disch := first | assumption | omega) only [ll_X12_copies, ff_l]
set_option maxHeartbeats 1000000 in
theorem fr_X12_must {fu : Nat} {v0 : Int32} {s : fl_I} {l : fl_L}  {cq cj : Nat} (h0 : ¬ (cq = 60 ∧ cj = 11)) (h1 : ¬ (cq = 60 ∧ cj = 13)) (h2 : ¬ (cq = 60 ∧ cj = 14))  : (f_X12_must fu v0 s l).1 cq cj = s cq cj := by
  unfold f_X12_must
  repeat' (with_reducible apply itP1)
  all_goals first | with_reducible rfl | simp (disch := first | assumption | omega) only [fr_X12_fail, fr_X12_goesOn, wi_f, wi_g, wc_f, ff_s, ff_l, su_f]
set_option maxHeartbeats 1000000 in
theorem ll_X12_must {fu : Nat} {v0 : Int32} {s : fl_I} {l : fl_L}    : (f_X12_must fu v0 s l).2 = l := by
  unfold f_X12_must
  repeat' (with_reducible apply itP3)
  all_goals first | with_reducible rfl | simp (disch := first | assumption | omega) only [ll_X12_fail, ll_X12_goesOn, ff_l]
set_option maxHeartbeats 1000000 in
theorem fr_X12_roomFor {fu : Nat} {v0 : Int32} {v1 : Int32} {s : fl_I} {l : fl_L}  {cq cj : Nat} (h0 : ¬ (cq = 60 ∧ cj = 11)) (h1 : ¬ (cq = 60 ∧ cj = 13)) (h2 : ¬ (cq = 60 ∧ cj = 14))  : (f_X12_roomFor fu v0 v1 s l).1 cq cj = s cq cj := by
  unfold f_X12_roomFor
  repeat' (with_reducible apply itP1)
  all_goals first | with_reducible rfl | simp (disch := first | assumption | omega) only [fr_X12_fail, fr_X12_goesOn, wi_f, wi_g, wc_f, ff_s, ff_l, su_f]
set_option maxHeartbeats 1000000 in
theorem ll_X12_roomFor {fu : Nat} {v0 : Int32} {v1 : Int32} {s : fl_I} {l : fl_L}    : (f_X12_roomFor fu v0 v1 s l).2 = l := by
  unfold f_X12_roomFor
  repeat' (with_reducible apply itP3)
  all_goals first | with_reducible rfl | simp (disch := first | assumption | omega) only [ll_X12_fail, ll_X12_goesOn, ff_l]
set_option maxHeartbeats 1000000 in
theorem fr_X12_toldInt {fu : Nat} {v0 : Int32} {v1 : Int32} {s : fl_I} {l : fl_L}  {cq cj : Nat} (h0 : ¬ (cq = 60 ∧ cj = 11)) (h1 : ¬ (cq = 60 ∧ cj = 13)) (h2 : ¬ (cq = 60 ∧ cj = 14)) (h3 : ¬ (cq = 60 ∧ cj = 15)) (h4 : ¬ (cq = 60 ∧ cj = 16))  : (f_X12_toldInt fu v0 v1 s l).2.1 cq cj = s cq cj := by
  unfold f_X12_toldInt
  repeat' (with_reducible apply itT1)
  all_goals first | with_reducible rfl | simp (disch := first | assumption | omega) only [fr_X12_bounded, fr_X12_goesOn, fr_X12_must, wi_f, wi_g, wc_f, ff_s, ff_l, su_f]
set_option maxHeartbeats 1000000 in
theorem ll_X12_toldInt {fu : Nat} {v0 : Int32} {v1 : Int32} {s : fl_I} {l : fl_L}    : (f_X12_toldInt fu v0 v1 s l).2.2 = l := by
  unfold f_X12_toldInt
  repeat' (with_reducible apply itT3)
  all_goals first | with_reducible rfl | simp (disch := first | assumption | omega) only [ll_X12_bounded, ll_X12_goesOn, ll_X12_must, ff_l]
set_option maxHeartbeats 1000000 in
theorem fr_X12_lies {fu : Nat} {v0 : Int32} {v1 : Int32} {s : fl_I} {l : fl_L}  {cq cj : Nat} (h0 : ¬ (cq = 60 ∧ cj = 52)) (h1 : ¬ (cq = 60 ∧ cj = 53)) (h2 : cq ≠ 95)  : (f_X12_lies fu v0 v1 s l).2.1 cq cj = s cq cj := by
  unfold f_X12_lies
  repeat' (with_reducible apply itT1)
  all_goals first | with_reducible rfl | simp (disch := first | assumption | omega) only [fr_X12_copies, wi_f, wi_g, wc_f, ff_s, ff_l, su_f]
set_option maxHeartbeats 1000000 in
theorem ll_X12_lies {fu : Nat} {v0 : Int32} {v1 : Int32} {s : fl_I} {l : fl_L}    : (f_X12_lies fu v0 v1 s l).2.2 = l := by
  unfold f_X12_lies
  repeat' (with_reducible apply itT3)
  all_goals first | with_reducible rfl | simp (disch := first | assumption | omega) only [ll_X12_copies, ff_l]
set_option maxHeartbeats 1000000 in
theorem fr_X12_missing {fu : Nat} {v0 : Int32} {v1 : Int32} {s : fl_I} {l : fl_L}  {cq cj : Nat} (h0 : cq ≠ 102)  : (f_X12_missing fu v0 v1 s l).2.1 cq cj = s cq cj := by
  unfold f_X12_missing
  repeat' (with_reducible apply itT1)
  all_goals first | with_reducible rfl | simp (disch := first | assumption | omega) only [fr_X12_fillsHeap, wi_f, wi_g, wc_f, ff_s, ff_l, su_f]
set_option maxHeartbeats 1000000 in
theorem ll_X12_missing {fu : Nat} {v0 : Int32} {v1 : Int32} {s : fl_I} {l : fl_L}  {cq cj : Nat}   : (f_X12_missing fu v0 v1 s l).2.2 cq cj = l cq cj := by
  unfold f_X12_missing
  repeat' (with_reducible apply itT2)
  all_goals first | with_reducible rfl | simp (disch := first | assumption | omega) only [ll_X12_fillsHeap, wl_f, wl_g, ff_l]
set_option maxHeartbeats 1000000 in
theorem fr_X11_tell {fu : Nat} {v0 : Int32} {v1 : Int32} {s : fl_I} {l : fl_L}  {cq cj : Nat} (h0 : ¬ (cq = 57 ∧ cj = 0)) (h1 : cq ≠ 58)  : (f_X11_tell fu v0 v1 s l).2.1 cq cj = s cq cj := by
  unfold f_X11_tell
  repeat' (with_reducible apply itT1)
  all_goals first | with_reducible rfl | simp (disch := first | assumption | omega) only [fr_X7_add, wi_f, wi_g, wc_f, ff_s, ff_l, su_f]
set_option maxHeartbeats 1000000 in
theorem ll_X11_tell {fu : Nat} {v0 : Int32} {v1 : Int32} {s : fl_I} {l : fl_L}    : (f_X11_tell fu v0 v1 s l).2.2 = l := by
  unfold f_X11_tell
  repeat' (with_reducible apply itT3)
  all_goals first | with_reducible rfl | simp (disch := first | assumption | omega) only [ll_X7_add, ff_l]
set_option maxHeartbeats 1000000 in
theorem fr_X3_takeInt {fu : Nat} {v0 : Int32} {v1 : Int32} {s : fl_I} {l : fl_L}  {cq cj : Nat} (h0 : ¬ (cq = 3 ∧ cj = 0)) (h1 : ¬ (cq = 3 ∧ cj = 2)) (h2 : ¬ (cq = 3 ∧ cj = 3)) (h3 : ¬ (cq = 3 ∧ cj = 4)) (h4 : ¬ (cq = 3 ∧ cj = 5)) (h5 : ¬ (cq = 3 ∧ cj = 6))  : (f_X3_takeInt fu v0 v1 s l).2.1 cq cj = s cq cj := by
  unfold f_X3_takeInt
  repeat' (with_reducible apply itT1)
  all_goals first | with_reducible rfl | simp (disch := first | assumption | omega) only [fr_X3_noteLater, fr_X3_take, wi_f, wi_g, wc_f, ff_s, ff_l, su_f]
set_option maxHeartbeats 1000000 in
theorem ll_X3_takeInt {fu : Nat} {v0 : Int32} {v1 : Int32} {s : fl_I} {l : fl_L}    : (f_X3_takeInt fu v0 v1 s l).2.2 = l := by
  unfold f_X3_takeInt
  repeat' (with_reducible apply itT3)
  all_goals first | with_reducible rfl | simp (disch := first | assumption | omega) only [ll_X3_noteLater, ll_X3_take, ff_l]
set_option maxHeartbeats 1000000 in
theorem fr_X0_putBack_8 {fu : Nat}   {cq cj : Nat} (h0 : cq ≠ 56)  : ∀ (n : Nat) (x1 : Int64) (x3 : Int32) (x4 : Int32) (s : fl_I) (l : fl_L), (f_X0_putBack_8 fu n x1 x3 x4 s l).1 cq cj = s cq cj := by
  intro n; induction n with
  | zero => intro x1 x3 x4 s l; rfl
  | succ n ih =>
    intro x1 x3 x4 s l; unfold f_X0_putBack_8
    repeat' (with_reducible apply itP1)
    all_goals first | with_reducible rfl | with_reducible exact ih _ _ _ _ _ | simp (disch := first | assumption | omega | (intros; with_reducible exact ih _ _ _ _ _)) only [ih, wi_f, wi_g, wc_f, ff_s, ff_l, su_f]
set_option maxHeartbeats 1000000 in
theorem ll_X0_putBack_8 {fu : Nat}     : ∀ (n : Nat) (x1 : Int64) (x3 : Int32) (x4 : Int32) (s : fl_I) (l : fl_L), (f_X0_putBack_8 fu n x1 x3 x4 s l).2 = l := by
  intro n; induction n with
  | zero => intro x1 x3 x4 s l; rfl
  | succ n ih =>
    intro x1 x3 x4 s l; unfold f_X0_putBack_8
    repeat' (with_reducible apply itP3)
    all_goals first | with_reducible rfl | with_reducible exact ih _ _ _ _ _ | simp (disch := first | assumption | omega | (intros; with_reducible exact ih _ _ _ _ _)) only [ih, ff_l]
set_option maxHeartbeats 1000000 in
theorem fr_X0_putBack {fu : Nat} {v0 : Int64} {s : fl_I} {l : fl_L}  {cq cj : Nat} (h0 : cq ≠ 56)  : (f_X0_putBack fu v0 s l).1 cq cj = s cq cj := by
  unfold f_X0_putBack
  repeat' (with_reducible apply itP1)
  all_goals first | with_reducible rfl | simp (disch := first | assumption | omega) only [fr_X0_putBack_8, wi_f, wi_g, wc_f, ff_s, ff_l, su_f]
set_option maxHeartbeats 1000000 in
theorem ll_X0_putBack {fu : Nat} {v0 : Int64} {s : fl_I} {l : fl_L}    : (f_X0_putBack fu v0 s l).2 = l := by
  unfold f_X0_putBack
  repeat' (with_reducible apply itP3)
  all_goals first | with_reducible rfl | simp (disch := first | assumption | omega) only [ll_X0_putBack_8, ff_l]
set_option maxHeartbeats 1000000 in
theorem fr_X3_rainTold {fu : Nat} {t : Nat} {s : fl_I} {l : fl_L}  {cq cj : Nat} (h0 : ¬ (cq = 3 ∧ cj = 0)) (h1 : ¬ (cq = 3 ∧ cj = 2)) (h2 : ¬ (cq = 3 ∧ cj = 3)) (h3 : ¬ (cq = 3 ∧ cj = 4)) (h4 : ¬ (cq = 3 ∧ cj = 5)) (h5 : ¬ (cq = 3 ∧ cj = 6)) (h6 : ¬ (cq = t ∧ cj = 17))  : (f_X3_rainTold fu t s l).2.1 cq cj = s cq cj := by
  unfold f_X3_rainTold
  repeat' (with_reducible apply itT1)
  all_goals first | with_reducible rfl | simp (disch := first | assumption | omega) only [fr_X3_take, fr_X3_takeInt, wi_f, wi_g, wc_f, ff_s, ff_l, su_f]
set_option maxHeartbeats 1000000 in
theorem ll_X3_rainTold {fu : Nat} {t : Nat} {s : fl_I} {l : fl_L}    : (f_X3_rainTold fu t s l).2.2 = l := by
  unfold f_X3_rainTold
  repeat' (with_reducible apply itT3)
  all_goals first | with_reducible rfl | simp (disch := first | assumption | omega) only [ll_X3_take, ll_X3_takeInt, ff_l]
set_option maxHeartbeats 1000000 in
theorem fr_X3_seedTold {fu : Nat} {t : Nat} {s : fl_I} {l : fl_L}  {cq cj : Nat} (h0 : ¬ (cq = 3 ∧ cj = 0)) (h1 : ¬ (cq = 3 ∧ cj = 2)) (h2 : ¬ (cq = 3 ∧ cj = 3)) (h3 : ¬ (cq = 3 ∧ cj = 4)) (h4 : ¬ (cq = 3 ∧ cj = 5)) (h5 : ¬ (cq = 3 ∧ cj = 6)) (h6 : ¬ (cq = t ∧ cj = 18))  : (f_X3_seedTold fu t s l).2.1 cq cj = s cq cj := by
  unfold f_X3_seedTold
  repeat' (with_reducible apply itT1)
  all_goals first | with_reducible rfl | simp (disch := first | assumption | omega) only [fr_X3_take, fr_X3_takeInt, wi_f, wi_g, wc_f, ff_s, ff_l, su_f]
set_option maxHeartbeats 1000000 in
theorem ll_X3_seedTold {fu : Nat} {t : Nat} {s : fl_I} {l : fl_L}    : (f_X3_seedTold fu t s l).2.2 = l := by
  unfold f_X3_seedTold
  repeat' (with_reducible apply itT3)
  all_goals first | with_reducible rfl | simp (disch := first | assumption | omega) only [ll_X3_take, ll_X3_takeInt, ff_l]
set_option maxHeartbeats 1000000 in
theorem fr_X12_steps {fu : Nat} {v0 : Int32} {v1 : Int32} {v2 : Int32} {s : fl_I} {l : fl_L}  {cq cj : Nat} (h0 : ¬ (cq = 60 ∧ cj = 52)) (h1 : ¬ (cq = 60 ∧ cj = 53)) (h2 : cq ≠ 95)  : (f_X12_steps fu v0 v1 v2 s l).2.1 cq cj = s cq cj := by
  unfold f_X12_steps
  repeat' (with_reducible apply itT1)
  all_goals first | with_reducible rfl | simp (disch := first | assumption | omega) only [fr_X12_copies, wi_f, wi_g, wc_f, ff_s, ff_l, su_f]
set_option maxHeartbeats 1000000 in
theorem ll_X12_steps {fu : Nat} {v0 : Int32} {v1 : Int32} {v2 : Int32} {s : fl_I} {l : fl_L}    : (f_X12_steps fu v0 v1 v2 s l).2.2 = l := by
  unfold f_X12_steps
  repeat' (with_reducible apply itT3)
  all_goals first | with_reducible rfl | simp (disch := first | assumption | omega) only [ll_X12_copies, ff_l]
set_option maxHeartbeats 1000000 in
theorem fr_X10_countCells_16 {fu : Nat}  {a : Nat} {q : Nat} {cq cj : Nat}   : ∀ (n : Nat) (x2 : Int32) (x4 : Int32) (x5 : Int32) (s : fl_I) (l : fl_L), (f_X10_countCells_16 fu n x2 x4 x5 a q s l).2.1 cq cj = s cq cj := by
  intro n; induction n with
  | zero => intro x2 x4 x5 s l; rfl
  | succ n ih =>
    intro x2 x4 x5 s l; unfold f_X10_countCells_16
    repeat' (with_reducible apply itT1)
    all_goals first | with_reducible rfl | with_reducible exact ih _ _ _ _ _ | simp (disch := first | assumption | omega | (intros; with_reducible exact ih _ _ _ _ _)) only [ih, wi_f, wi_g, wc_f, ff_s, ff_l, su_f]
set_option maxHeartbeats 1000000 in
theorem ll_X10_countCells_16 {fu : Nat}  {a : Nat} {q : Nat}   : ∀ (n : Nat) (x2 : Int32) (x4 : Int32) (x5 : Int32) (s : fl_I) (l : fl_L), (f_X10_countCells_16 fu n x2 x4 x5 a q s l).2.2 = l := by
  intro n; induction n with
  | zero => intro x2 x4 x5 s l; rfl
  | succ n ih =>
    intro x2 x4 x5 s l; unfold f_X10_countCells_16
    repeat' (with_reducible apply itT3)
    all_goals first | with_reducible rfl | with_reducible exact ih _ _ _ _ _ | simp (disch := first | assumption | omega | (intros; with_reducible exact ih _ _ _ _ _)) only [ih, ff_l]
set_option maxHeartbeats 1000000 in
theorem fr_X10_countCells {fu : Nat} {a : Nat} {q : Nat} {s : fl_I} {l : fl_L}  {cq cj : Nat} (h0 : cq ≠ q)  : (f_X10_countCells fu a q s l).2.1 cq cj = s cq cj := by
  unfold f_X10_countCells
  repeat' (with_reducible apply itT1)
  all_goals first | with_reducible rfl | simp (disch := first | assumption | omega) only [fr_X10_countAll, fr_X10_countCells_16, wi_f, wi_g, wc_f, ff_s, ff_l, su_f]
set_option maxHeartbeats 1000000 in
theorem ll_X10_countCells {fu : Nat} {a : Nat} {q : Nat} {s : fl_I} {l : fl_L}    : (f_X10_countCells fu a q s l).2.2 = l := by
  unfold f_X10_countCells
  repeat' (with_reducible apply itT3)
  all_goals first | with_reducible rfl | simp (disch := first | assumption | omega) only [ll_X10_countAll, ll_X10_countCells_16, ff_l]
set_option maxHeartbeats 1000000 in
theorem fr_X12_term {fu : Nat} {s : fl_I} {l : fl_L}  {cq cj : Nat} (h0 : ¬ (cq = 60 ∧ cj = 11)) (h1 : ¬ (cq = 60 ∧ cj = 12)) (h2 : ¬ (cq = 60 ∧ cj = 13)) (h3 : ¬ (cq = 60 ∧ cj = 14)) (h4 : ¬ (cq = 60 ∧ cj = 36)) (h5 : ¬ (cq = 60 ∧ cj = 42)) (h6 : ¬ (cq = 60 ∧ cj = 46)) (h7 : cq ≠ 87) (h8 : cq ≠ 88) (h9 : cq ≠ 89) (h10 : cq ≠ 90) (h11 : cq ≠ 91)  : (f_X12_term fu s l).1 cq cj = s cq cj := by
  unfold f_X12_term
  repeat' (with_reducible apply itP1)
  all_goals first | with_reducible rfl | simp (disch := first | assumption | omega) only [fr_X12_expression, wi_f, wi_g, wc_f, ff_s, ff_l, su_f]
set_option maxHeartbeats 1000000 in
theorem ll_X12_term {fu : Nat} {s : fl_I} {l : fl_L}  {cq cj : Nat}   : (f_X12_term fu s l).2 cq cj = l cq cj := by
  unfold f_X12_term
  repeat' (with_reducible apply itP2)
  all_goals first | with_reducible rfl | simp (disch := first | assumption | omega) only [ll_X12_expression, wl_f, wl_g, ff_l]
set_option maxHeartbeats 1000000 in
theorem fr_X12_toldStep_36 {fu : Nat} {x1 : Int32} {y0 : Int32} {s : fl_I} {l : fl_L}  {cq cj : Nat}   : (f_X12_toldStep_36 fu x1 y0 s l).2.1 cq cj = s cq cj := by
  unfold f_X12_toldStep_36
  repeat' (with_reducible apply itT1)
  all_goals first | with_reducible rfl | simp (disch := first | assumption | omega) only [wi_f, wi_g, wc_f, ff_s, ff_l, su_f]
set_option maxHeartbeats 1000000 in
theorem ll_X12_toldStep_36 {fu : Nat} {x1 : Int32} {y0 : Int32} {s : fl_I} {l : fl_L}    : (f_X12_toldStep_36 fu x1 y0 s l).2.2 = l := by
  unfold f_X12_toldStep_36
  repeat' (with_reducible apply itT3)
  all_goals first | with_reducible rfl | simp (disch := first | assumption | omega) only [ff_l]
set_option maxHeartbeats 1000000 in
theorem fr_X12_toldStep_30 {fu : Nat} {x1 : Int32} {s : fl_I} {l : fl_L}  {cq cj : Nat} (h0 : ¬ (cq = 60 ∧ cj = 11)) (h1 : ¬ (cq = 60 ∧ cj = 13)) (h2 : ¬ (cq = 60 ∧ cj = 14)) (h3 : ¬ (cq = 60 ∧ cj = 15)) (h4 : ¬ (cq = 60 ∧ cj = 16))  : (f_X12_toldStep_30 fu x1 s l).2.1 cq cj = s cq cj := by
  unfold f_X12_toldStep_30
  repeat' (with_reducible apply itT1)
  all_goals first | with_reducible rfl | simp (disch := first | assumption | omega) only [fr_X12_bounded, fr_X12_toldStep_36, wi_f, wi_g, wc_f, ff_s, ff_l, su_f]
set_option maxHeartbeats 1000000 in
theorem ll_X12_toldStep_30 {fu : Nat} {x1 : Int32} {s : fl_I} {l : fl_L}    : (f_X12_toldStep_30 fu x1 s l).2.2 = l := by
  unfold f_X12_toldStep_30
  repeat' (with_reducible apply itT3)
  all_goals first | with_reducible rfl | simp (disch := first | assumption | omega) only [ll_X12_bounded, ll_X12_toldStep_36, ff_l]
set_option maxHeartbeats 1000000 in
theorem fr_X12_toldStep_20 {fu : Nat} {s : fl_I} {l : fl_L}  {cq cj : Nat} (h0 : ¬ (cq = 60 ∧ cj = 11)) (h1 : ¬ (cq = 60 ∧ cj = 13)) (h2 : ¬ (cq = 60 ∧ cj = 14)) (h3 : ¬ (cq = 60 ∧ cj = 15)) (h4 : ¬ (cq = 60 ∧ cj = 16))  : (f_X12_toldStep_20 fu s l).2.1 cq cj = s cq cj := by
  unfold f_X12_toldStep_20
  repeat' (with_reducible apply itT1)
  all_goals first | with_reducible rfl | simp (disch := first | assumption | omega) only [fr_X12_goesOn, fr_X12_toldStep_30, wi_f, wi_g, wc_f, ff_s, ff_l, su_f]
set_option maxHeartbeats 1000000 in
theorem ll_X12_toldStep_20 {fu : Nat} {s : fl_I} {l : fl_L}    : (f_X12_toldStep_20 fu s l).2.2 = l := by
  unfold f_X12_toldStep_20
  repeat' (with_reducible apply itT3)
  all_goals first | with_reducible rfl | simp (disch := first | assumption | omega) only [ll_X12_goesOn, ll_X12_toldStep_30, ff_l]
set_option maxHeartbeats 1000000 in
theorem fr_X12_toldStep {fu : Nat} {s : fl_I} {l : fl_L}  {cq cj : Nat} (h0 : ¬ (cq = 60 ∧ cj = 11)) (h1 : ¬ (cq = 60 ∧ cj = 13)) (h2 : ¬ (cq = 60 ∧ cj = 14)) (h3 : ¬ (cq = 60 ∧ cj = 15)) (h4 : ¬ (cq = 60 ∧ cj = 16))  : (f_X12_toldStep fu s l).2.1 cq cj = s cq cj := by
  unfold f_X12_toldStep
  repeat' (with_reducible apply itT1)
  all_goals first | with_reducible rfl | simp (disch := first | assumption | omega) only [fr_X12_goesOn, fr_X12_toldStep_20, fr_X12_toldStep_30, wi_f, wi_g, wc_f, ff_s, ff_l, su_f]
set_option maxHeartbeats 1000000 in
theorem ll_X12_toldStep {fu : Nat} {s : fl_I} {l : fl_L}    : (f_X12_toldStep fu s l).2.2 = l := by
  unfold f_X12_toldStep
  repeat' (with_reducible apply itT3)
  all_goals first | with_reducible rfl | simp (disch := first | assumption | omega) only [ll_X12_goesOn, ll_X12_toldStep_20, ll_X12_toldStep_30, ff_l]
set_option maxHeartbeats 1000000 in
theorem fr_X0_takeOut_11 {fu : Nat}   {cq cj : Nat} (h0 : cq ≠ 56)  : ∀ (n : Nat) (x1 : Int64) (x3 : Int32) (x4 : Int32) (x5 : Int32) (s : fl_I) (l : fl_L), (f_X0_takeOut_11 fu n x1 x3 x4 x5 s l).2.1 cq cj = s cq cj := by
  intro n; induction n with
  | zero => intro x1 x3 x4 x5 s l; rfl
  | succ n ih =>
    intro x1 x3 x4 x5 s l; unfold f_X0_takeOut_11
    repeat' (with_reducible apply itT1)
    all_goals first | with_reducible rfl | with_reducible exact ih _ _ _ _ _ _ | simp (disch := first | assumption | omega | (intros; with_reducible exact ih _ _ _ _ _ _)) only [ih, wi_f, wi_g, wc_f, ff_s, ff_l, su_f]
set_option maxHeartbeats 1000000 in
theorem ll_X0_takeOut_11 {fu : Nat}     : ∀ (n : Nat) (x1 : Int64) (x3 : Int32) (x4 : Int32) (x5 : Int32) (s : fl_I) (l : fl_L), (f_X0_takeOut_11 fu n x1 x3 x4 x5 s l).2.2 = l := by
  intro n; induction n with
  | zero => intro x1 x3 x4 x5 s l; rfl
  | succ n ih =>
    intro x1 x3 x4 x5 s l; unfold f_X0_takeOut_11
    repeat' (with_reducible apply itT3)
    all_goals first | with_reducible rfl | with_reducible exact ih _ _ _ _ _ _ | simp (disch := first | assumption | omega | (intros; with_reducible exact ih _ _ _ _ _ _)) only [ih, ff_l]
set_option maxHeartbeats 1000000 in
theorem fr_X0_takeOut {fu : Nat} {v0 : Int64} {s : fl_I} {l : fl_L}  {cq cj : Nat} (h0 : cq ≠ 56)  : (f_X0_takeOut fu v0 s l).2.1 cq cj = s cq cj := by
  unfold f_X0_takeOut
  repeat' (with_reducible apply itT1)
  all_goals first | with_reducible rfl | simp (disch := first | assumption | omega) only [fr_X0_takeOut_11, wi_f, wi_g, wc_f, ff_s, ff_l, su_f]
set_option maxHeartbeats 1000000 in
theorem ll_X0_takeOut {fu : Nat} {v0 : Int64} {s : fl_I} {l : fl_L}    : (f_X0_takeOut fu v0 s l).2.2 = l := by
  unfold f_X0_takeOut
  repeat' (with_reducible apply itT3)
  all_goals first | with_reducible rfl | simp (disch := first | assumption | omega) only [ll_X0_takeOut_11, ff_l]
set_option maxHeartbeats 1000000 in
theorem fr_X3_takeStep_37 {fu : Nat} {s : fl_I} {l : fl_L}  {cq cj : Nat}   : (f_X3_takeStep_37 fu s l).2.1 cq cj = s cq cj := by
  unfold f_X3_takeStep_37
  repeat' (with_reducible apply itT1)
  all_goals first | with_reducible rfl | simp (disch := first | assumption | omega) only [wi_f, wi_g, wc_f, ff_s, ff_l, su_f]
set_option maxHeartbeats 1000000 in
theorem ll_X3_takeStep_37 {fu : Nat} {s : fl_I} {l : fl_L}    : (f_X3_takeStep_37 fu s l).2.2 = l := by
  unfold f_X3_takeStep_37
  repeat' (with_reducible apply itT3)
  all_goals first | with_reducible rfl | simp (disch := first | assumption | omega) only [ff_l]
set_option maxHeartbeats 1000000 in
theorem fr_X3_takeStep_34 {fu : Nat} {x1 : Int32} {y0 : Int32} {s : fl_I} {l : fl_L}  {cq cj : Nat} (h0 : ¬ (cq = 3 ∧ cj = 6))  : (f_X3_takeStep_34 fu x1 y0 s l).2.1 cq cj = s cq cj := by
  unfold f_X3_takeStep_34
  repeat' (with_reducible apply itT1)
  all_goals first | with_reducible rfl | simp (disch := first | assumption | omega) only [fr_X3_takeStep_37, wi_f, wi_g, wc_f, ff_s, ff_l, su_f]
set_option maxHeartbeats 1000000 in
theorem ll_X3_takeStep_34 {fu : Nat} {x1 : Int32} {y0 : Int32} {s : fl_I} {l : fl_L}    : (f_X3_takeStep_34 fu x1 y0 s l).2.2 = l := by
  unfold f_X3_takeStep_34
  repeat' (with_reducible apply itT3)
  all_goals first | with_reducible rfl | simp (disch := first | assumption | omega) only [ll_X3_takeStep_37, ff_l]
set_option maxHeartbeats 1000000 in
theorem fr_X3_takeStep_28 {fu : Nat} {x1 : Int32} {s : fl_I} {l : fl_L}  {cq cj : Nat} (h0 : ¬ (cq = 3 ∧ cj = 0)) (h1 : ¬ (cq = 3 ∧ cj = 2)) (h2 : ¬ (cq = 3 ∧ cj = 3)) (h3 : ¬ (cq = 3 ∧ cj = 4)) (h4 : ¬ (cq = 3 ∧ cj = 5)) (h5 : ¬ (cq = 3 ∧ cj = 6))  : (f_X3_takeStep_28 fu x1 s l).2.1 cq cj = s cq cj := by
  unfold f_X3_takeStep_28
  repeat' (with_reducible apply itT1)
  all_goals first | with_reducible rfl | simp (disch := first | assumption | omega) only [fr_X3_takeInt, fr_X3_takeStep_34, wi_f, wi_g, wc_f, ff_s, ff_l, su_f]
set_option maxHeartbeats 1000000 in
theorem ll_X3_takeStep_28 {fu : Nat} {x1 : Int32} {s : fl_I} {l : fl_L}    : (f_X3_takeStep_28 fu x1 s l).2.2 = l := by
  unfold f_X3_takeStep_28
  repeat' (with_reducible apply itT3)
  all_goals first | with_reducible rfl | simp (disch := first | assumption | omega) only [ll_X3_takeInt, ll_X3_takeStep_34, ff_l]
set_option maxHeartbeats 1000000 in
theorem fr_X3_takeStep_25 {fu : Nat} {x1 : Int32} {y0 : Int32} {s : fl_I} {l : fl_L}  {cq cj : Nat} (h0 : ¬ (cq = 3 ∧ cj = 0)) (h1 : ¬ (cq = 3 ∧ cj = 2)) (h2 : ¬ (cq = 3 ∧ cj = 3)) (h3 : ¬ (cq = 3 ∧ cj = 4)) (h4 : ¬ (cq = 3 ∧ cj = 5)) (h5 : ¬ (cq = 3 ∧ cj = 6))  : (f_X3_takeStep_25 fu x1 y0 s l).2.1 cq cj = s cq cj := by
  unfold f_X3_takeStep_25
  repeat' (with_reducible apply itT1)
  all_goals first | with_reducible rfl | simp (disch := first | assumption | omega) only [fr_X3_takeStep_28, fr_X3_takeStep_37, wi_f, wi_g, wc_f, ff_s, ff_l, su_f]
set_option maxHeartbeats 1000000 in
theorem ll_X3_takeStep_25 {fu : Nat} {x1 : Int32} {y0 : Int32} {s : fl_I} {l : fl_L}    : (f_X3_takeStep_25 fu x1 y0 s l).2.2 = l := by
  unfold f_X3_takeStep_25
  repeat' (with_reducible apply itT3)
  all_goals first | with_reducible rfl | simp (disch := first | assumption | omega) only [ll_X3_takeStep_28, ll_X3_takeStep_37, ff_l]
set_option maxHeartbeats 1000000 in
theorem fr_X3_takeStep {fu : Nat} {s : fl_I} {l : fl_L}  {cq cj : Nat} (h0 : ¬ (cq = 3 ∧ cj = 0)) (h1 : ¬ (cq = 3 ∧ cj = 2)) (h2 : ¬ (cq = 3 ∧ cj = 3)) (h3 : ¬ (cq = 3 ∧ cj = 4)) (h4 : ¬ (cq = 3 ∧ cj = 5)) (h5 : ¬ (cq = 3 ∧ cj = 6))  : (f_X3_takeStep fu s l).2.1 cq cj = s cq cj := by
  unfold f_X3_takeStep
  repeat' (with_reducible apply itT1)
  all_goals first | with_reducible rfl | simp (disch := first | assumption | omega) only [fr_X3_take, fr_X3_takeStep_25, fr_X3_takeStep_28, wi_f, wi_g, wc_f, ff_s, ff_l, su_f]
set_option maxHeartbeats 1000000 in
theorem ll_X3_takeStep {fu : Nat} {s : fl_I} {l : fl_L}    : (f_X3_takeStep fu s l).2.2 = l := by
  unfold f_X3_takeStep
  repeat' (with_reducible apply itT3)
  all_goals first | with_reducible rfl | simp (disch := first | assumption | omega) only [ll_X3_take, ll_X3_takeStep_25, ll_X3_takeStep_28, ff_l]
