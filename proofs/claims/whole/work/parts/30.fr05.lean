set_option maxHeartbeats 1000000 in
theorem fr_X12_tellPicker_90 {fu : Nat} {s : fl_I} {l : fl_L}  {cq cj : Nat} (h0 : cq ≠ 74)  : (f_X12_tellPicker_90 fu s l).1 cq cj = s cq cj := by
  unfold f_X12_tellPicker_90
  repeat' (with_reducible apply itP1)
  all_goals first | with_reducible rfl | simp (disch := first | assumption | omega) only [fr_X12_tellPicker_110, wi_f, wi_g, wc_f, ff_s, ff_l, su_f]
set_option maxHeartbeats 1000000 in
theorem ll_X12_tellPicker_90 {fu : Nat} {s : fl_I} {l : fl_L}    : (f_X12_tellPicker_90 fu s l).2 = l := by
  unfold f_X12_tellPicker_90
  repeat' (with_reducible apply itP3)
  all_goals first | with_reducible rfl | simp (disch := first | assumption | omega) only [ll_X12_tellPicker_110, ff_l]
set_option maxHeartbeats 1000000 in
theorem fr_X12_tellPicker_84 {fu : Nat} {y1 : Int32} {y2 : Int32} {s : fl_I} {l : fl_L}  {cq cj : Nat} (h0 : ¬ (cq = 60 ∧ cj = 11)) (h1 : ¬ (cq = 60 ∧ cj = 13)) (h2 : ¬ (cq = 60 ∧ cj = 14)) (h3 : cq ≠ 74) (h4 : cq ≠ 78)  : (f_X12_tellPicker_84 fu y1 y2 s l).1 cq cj = s cq cj := by
  unfold f_X12_tellPicker_84
  repeat' (with_reducible apply itP1)
  all_goals first | with_reducible rfl | simp (disch := first | assumption | omega) only [fr_X12_must, fr_X12_tellPicker_90, wi_f, wi_g, wc_f, ff_s, ff_l, su_f]
set_option maxHeartbeats 1000000 in
theorem ll_X12_tellPicker_84 {fu : Nat} {y1 : Int32} {y2 : Int32} {s : fl_I} {l : fl_L}    : (f_X12_tellPicker_84 fu y1 y2 s l).2 = l := by
  unfold f_X12_tellPicker_84
  repeat' (with_reducible apply itP3)
  all_goals first | with_reducible rfl | simp (disch := first | assumption | omega) only [ll_X12_must, ll_X12_tellPicker_90, ff_l]
set_option maxHeartbeats 1000000 in
theorem fr_X12_tellPicker_71 {fu : Nat} {x1 : Int32} {y1 : Int32} {y2 : Int32} {s : fl_I} {l : fl_L}  {cq cj : Nat} (h0 : ¬ (cq = 60 ∧ cj = 11)) (h1 : ¬ (cq = 60 ∧ cj = 13)) (h2 : ¬ (cq = 60 ∧ cj = 14)) (h3 : ¬ (cq = 60 ∧ cj = 15)) (h4 : ¬ (cq = 60 ∧ cj = 16)) (h5 : cq ≠ 74) (h6 : cq ≠ 77) (h7 : cq ≠ 78)  : (f_X12_tellPicker_71 fu x1 y1 y2 s l).1 cq cj = s cq cj := by
  unfold f_X12_tellPicker_71
  repeat' (with_reducible apply itP1)
  all_goals first | with_reducible rfl | simp (disch := first | assumption | omega) only [fr_X12_bounded, fr_X12_tellPicker_84, wi_f, wi_g, wc_f, ff_s, ff_l, su_f]
set_option maxHeartbeats 1000000 in
theorem ll_X12_tellPicker_71 {fu : Nat} {x1 : Int32} {y1 : Int32} {y2 : Int32} {s : fl_I} {l : fl_L}    : (f_X12_tellPicker_71 fu x1 y1 y2 s l).2 = l := by
  unfold f_X12_tellPicker_71
  repeat' (with_reducible apply itP3)
  all_goals first | with_reducible rfl | simp (disch := first | assumption | omega) only [ll_X12_bounded, ll_X12_tellPicker_84, ff_l]
set_option maxHeartbeats 1000000 in
theorem fr_X12_tellPicker_58 {fu : Nat} {x1 : Int32} {y1 : Int32} {y2 : Int32} {s : fl_I} {l : fl_L}  {cq cj : Nat} (h0 : ¬ (cq = 60 ∧ cj = 11)) (h1 : ¬ (cq = 60 ∧ cj = 13)) (h2 : ¬ (cq = 60 ∧ cj = 14)) (h3 : ¬ (cq = 60 ∧ cj = 15)) (h4 : ¬ (cq = 60 ∧ cj = 16)) (h5 : cq ≠ 74) (h6 : cq ≠ 76) (h7 : cq ≠ 77) (h8 : cq ≠ 78)  : (f_X12_tellPicker_58 fu x1 y1 y2 s l).1 cq cj = s cq cj := by
  unfold f_X12_tellPicker_58
  repeat' (with_reducible apply itP1)
  all_goals first | with_reducible rfl | simp (disch := first | assumption | omega) only [fr_X12_bounded, fr_X12_tellPicker_71, wi_f, wi_g, wc_f, ff_s, ff_l, su_f]
set_option maxHeartbeats 1000000 in
theorem ll_X12_tellPicker_58 {fu : Nat} {x1 : Int32} {y1 : Int32} {y2 : Int32} {s : fl_I} {l : fl_L}    : (f_X12_tellPicker_58 fu x1 y1 y2 s l).2 = l := by
  unfold f_X12_tellPicker_58
  repeat' (with_reducible apply itP3)
  all_goals first | with_reducible rfl | simp (disch := first | assumption | omega) only [ll_X12_bounded, ll_X12_tellPicker_71, ff_l]
set_option maxHeartbeats 1000000 in
theorem fr_X12_tellPicker_45 {fu : Nat} {x1 : Int32} {y1 : Int32} {y2 : Int64} {s : fl_I} {l : fl_L}  {cq cj : Nat} (h0 : ¬ (cq = 60 ∧ cj = 11)) (h1 : ¬ (cq = 60 ∧ cj = 13)) (h2 : ¬ (cq = 60 ∧ cj = 14)) (h3 : ¬ (cq = 60 ∧ cj = 15)) (h4 : ¬ (cq = 60 ∧ cj = 16)) (h5 : cq ≠ 74) (h6 : cq ≠ 76) (h7 : cq ≠ 77) (h8 : cq ≠ 78)  : (f_X12_tellPicker_45 fu x1 y1 y2 s l).1 cq cj = s cq cj := by
  unfold f_X12_tellPicker_45
  repeat' (with_reducible apply itP1)
  all_goals first | with_reducible rfl | simp (disch := first | assumption | omega) only [fr_X12_bounded, fr_X12_tellPicker_58, wi_f, wi_g, wc_f, ff_s, ff_l, su_f]
set_option maxHeartbeats 1000000 in
theorem ll_X12_tellPicker_45 {fu : Nat} {x1 : Int32} {y1 : Int32} {y2 : Int64} {s : fl_I} {l : fl_L}  {cq cj : Nat} (h0 : cq ≠ 75)  : (f_X12_tellPicker_45 fu x1 y1 y2 s l).2 cq cj = l cq cj := by
  unfold f_X12_tellPicker_45
  repeat' (with_reducible apply itP2)
  all_goals first | with_reducible rfl | simp (disch := first | assumption | omega) only [ll_X12_bounded, ll_X12_tellPicker_58, wl_f, wl_g, ff_l]
set_option maxHeartbeats 1000000 in
theorem fr_X12_tellPicker {fu : Nat} {s : fl_I} {l : fl_L}  {cq cj : Nat} (h0 : ¬ (cq = 60 ∧ cj = 11)) (h1 : ¬ (cq = 60 ∧ cj = 13)) (h2 : ¬ (cq = 60 ∧ cj = 14)) (h3 : ¬ (cq = 60 ∧ cj = 15)) (h4 : ¬ (cq = 60 ∧ cj = 16)) (h5 : cq ≠ 74) (h6 : cq ≠ 76) (h7 : cq ≠ 77) (h8 : cq ≠ 78)  : (f_X12_tellPicker fu s l).1 cq cj = s cq cj := by
  unfold f_X12_tellPicker
  repeat' (with_reducible apply itP1)
  all_goals first | with_reducible rfl | simp (disch := first | assumption | omega) only [fr_X12_named, fr_X12_tellPicker_45, wi_f, wi_g, wc_f, ff_s, ff_l, su_f]
set_option maxHeartbeats 1000000 in
theorem ll_X12_tellPicker {fu : Nat} {s : fl_I} {l : fl_L}  {cq cj : Nat} (h0 : cq ≠ 75)  : (f_X12_tellPicker fu s l).2 cq cj = l cq cj := by
  unfold f_X12_tellPicker
  repeat' (with_reducible apply itP2)
  all_goals first | with_reducible rfl | simp (disch := first | assumption | omega) only [ll_X12_named, ll_X12_tellPicker_45, wl_f, wl_g, ff_l]
set_option maxHeartbeats 1000000 in
theorem fr_X5_addLetter_25 {fu : Nat}  {t : Nat} {cq cj : Nat} (h0 : cq ≠ (t + 4)) (h1 : cq ≠ (t + 5)) (h2 : cq ≠ (t + 6)) (h3 : ¬ (cq = t ∧ cj = 0)) (h4 : ¬ (cq = t ∧ cj = 3))  : ∀ (n : Nat) (x1 : Int64) (x3 : Int32) (x4 : Int32) (x5 : Int32) (x6 : Int32) (s : fl_I) (l : fl_L), (f_X5_addLetter_25 fu n x1 x3 x4 x5 x6 t s l).1 cq cj = s cq cj := by
  intro n; induction n with
  | zero => intro x1 x3 x4 x5 x6 s l; rfl
  | succ n ih =>
    intro x1 x3 x4 x5 x6 s l; unfold f_X5_addLetter_25
    repeat' (with_reducible apply itP1)
    all_goals first | with_reducible rfl | with_reducible exact ih _ _ _ _ _ _ _ | simp (disch := first | assumption | omega | (intros; with_reducible exact ih _ _ _ _ _ _ _)) only [ih, wi_f, wi_g, wc_f, ff_s, ff_l, su_f]
set_option maxHeartbeats 1000000 in
theorem ll_X5_addLetter_25 {fu : Nat}  {t : Nat} {cq cj : Nat} (h0 : cq ≠ (t + 1))  : ∀ (n : Nat) (x1 : Int64) (x3 : Int32) (x4 : Int32) (x5 : Int32) (x6 : Int32) (s : fl_I) (l : fl_L), (f_X5_addLetter_25 fu n x1 x3 x4 x5 x6 t s l).2 cq cj = l cq cj := by
  intro n; induction n with
  | zero => intro x1 x3 x4 x5 x6 s l; rfl
  | succ n ih =>
    intro x1 x3 x4 x5 x6 s l; unfold f_X5_addLetter_25
    repeat' (with_reducible apply itP2)
    all_goals first | with_reducible rfl | with_reducible exact ih _ _ _ _ _ _ _ | simp (disch := first | assumption | omega | (intros; with_reducible exact ih _ _ _ _ _ _ _)) only [ih, wl_f, wl_g, ff_l]
set_option maxHeartbeats 1000000 in
theorem fr_X5_addLetter {fu : Nat} {v0 : Int64} {v1 : Int32} {v2 : Int32} {t : Nat} {s : fl_I} {l : fl_L}  {cq cj : Nat} (h0 : cq ≠ (t + 4)) (h1 : cq ≠ (t + 5)) (h2 : cq ≠ (t + 6)) (h3 : ¬ (cq = t ∧ cj = 0)) (h4 : ¬ (cq = t ∧ cj = 3))  : (f_X5_addLetter fu v0 v1 v2 t s l).1 cq cj = s cq cj := by
  unfold f_X5_addLetter
  repeat' (with_reducible apply itP1)
  all_goals first | with_reducible rfl | simp (disch := first | assumption | omega) only [fr_X5_addLetter_25, wi_f, wi_g, wc_f, ff_s, ff_l, su_f]
set_option maxHeartbeats 1000000 in
theorem ll_X5_addLetter {fu : Nat} {v0 : Int64} {v1 : Int32} {v2 : Int32} {t : Nat} {s : fl_I} {l : fl_L}  {cq cj : Nat} (h0 : cq ≠ (t + 1))  : (f_X5_addLetter fu v0 v1 v2 t s l).2 cq cj = l cq cj := by
  unfold f_X5_addLetter
  repeat' (with_reducible apply itP2)
  all_goals first | with_reducible rfl | simp (disch := first | assumption | omega) only [ll_X5_addLetter_25, wl_f, wl_g, ff_l]
set_option maxHeartbeats 1000000 in
theorem fr_X6_split_133 {fu : Nat} {s : fl_I} {l : fl_L}  {cq cj : Nat}   : (f_X6_split_133 fu s l).1 cq cj = s cq cj := by
  unfold f_X6_split_133
  repeat' (with_reducible apply itP1)
  all_goals first | with_reducible rfl | simp (disch := first | assumption | omega) only [wi_f, wi_g, wc_f, ff_s, ff_l, su_f]
set_option maxHeartbeats 1000000 in
theorem ll_X6_split_133 {fu : Nat} {s : fl_I} {l : fl_L}    : (f_X6_split_133 fu s l).2 = l := by
  unfold f_X6_split_133
  repeat' (with_reducible apply itP3)
  all_goals first | with_reducible rfl | simp (disch := first | assumption | omega) only [ff_l]
set_option maxHeartbeats 1000000 in
theorem fr_X6_split_125 {fu : Nat} {K9 : Int32 → Int32 → fl_I → fl_L → fl_I × fl_L} {x3 : Int32} {s : fl_I} {l : fl_L}  {cq cj : Nat}  (hkK9 : ∀ (k0 : Int32) (k1 : Int32) (k2 : fl_I) (k3 : fl_L), (K9 k0 k1 k2 k3).1 cq cj = k2 cq cj) : (f_X6_split_125 fu K9 x3 s l).1 cq cj = s cq cj := by
  unfold f_X6_split_125
  repeat' (with_reducible apply itP1)
  all_goals first | with_reducible rfl | simp (disch := first | assumption | omega) only [hkK9, wi_f, wi_g, wc_f, ff_s, ff_l, su_f]
set_option maxHeartbeats 1000000 in
theorem ll_X6_split_125 {fu : Nat} {K9 : Int32 → Int32 → fl_I → fl_L → fl_I × fl_L} {x3 : Int32} {s : fl_I} {l : fl_L}  {cq cj : Nat}  (hkK9 : ∀ (k0 : Int32) (k1 : Int32) (k2 : fl_I) (k3 : fl_L), (K9 k0 k1 k2 k3).2 cq cj = k3 cq cj) : (f_X6_split_125 fu K9 x3 s l).2 cq cj = l cq cj := by
  unfold f_X6_split_125
  repeat' (with_reducible apply itP2)
  all_goals first | with_reducible rfl | simp (disch := first | assumption | omega) only [hkK9, wl_f, wl_g, ff_l]
set_option maxHeartbeats 1000000 in
theorem fr_X6_split_101 {fu : Nat} {K9 : Int32 → Int32 → fl_I → fl_L → fl_I × fl_L} {x3 : Int32} {y1 : Int32} {y2 : Int32} {s : fl_I} {l : fl_L}  {cq cj : Nat} (h0 : cq ≠ 5) (hkK9 : ∀ (k0 : Int32) (k1 : Int32) (k2 : fl_I) (k3 : fl_L), (K9 k0 k1 k2 k3).1 cq cj = k2 cq cj) : (f_X6_split_101 fu K9 x3 y1 y2 s l).1 cq cj = s cq cj := by
  unfold f_X6_split_101
  repeat' (with_reducible apply itP1)
  all_goals first | with_reducible rfl | simp (disch := first | assumption | omega) only [fr_X6_split_125, hkK9, wi_f, wi_g, wc_f, ff_s, ff_l, su_f]
set_option maxHeartbeats 1000000 in
theorem ll_X6_split_101 {fu : Nat} {K9 : Int32 → Int32 → fl_I → fl_L → fl_I × fl_L} {x3 : Int32} {y1 : Int32} {y2 : Int32} {s : fl_I} {l : fl_L}  {cq cj : Nat}  (hkK9 : ∀ (k0 : Int32) (k1 : Int32) (k2 : fl_I) (k3 : fl_L), (K9 k0 k1 k2 k3).2 cq cj = k3 cq cj) : (f_X6_split_101 fu K9 x3 y1 y2 s l).2 cq cj = l cq cj := by
  unfold f_X6_split_101
  repeat' (with_reducible apply itP2)
  all_goals first | with_reducible rfl | simp (disch := first | assumption | omega) only [ll_X6_split_125, hkK9, wl_f, wl_g, ff_l]
set_option maxHeartbeats 1000000 in
theorem fr_X6_split_58 {fu : Nat} {K9 : Int32 → Int32 → fl_I → fl_L → fl_I × fl_L} {x3 : Int32} {s : fl_I} {l : fl_L}  {cq cj : Nat} (h0 : ¬ (cq = 4 ∧ cj = 4)) (h1 : cq ≠ 5) (h2 : cq ≠ 6) (hkK9 : ∀ (k0 : Int32) (k1 : Int32) (k2 : fl_I) (k3 : fl_L), (K9 k0 k1 k2 k3).1 cq cj = k2 cq cj) : (f_X6_split_58 fu K9 x3 s l).1 cq cj = s cq cj := by
  unfold f_X6_split_58
  repeat' (with_reducible apply itP1)
  all_goals first | with_reducible rfl | simp (disch := first | assumption | omega) only [fr_X6_kindFrom, fr_X6_split_101, hkK9, wi_f, wi_g, wc_f, ff_s, ff_l, su_f]
set_option maxHeartbeats 1000000 in
theorem ll_X6_split_58 {fu : Nat} {K9 : Int32 → Int32 → fl_I → fl_L → fl_I × fl_L} {x3 : Int32} {s : fl_I} {l : fl_L}  {cq cj : Nat} (h0 : cq ≠ 7) (hkK9 : ∀ (k0 : Int32) (k1 : Int32) (k2 : fl_I) (k3 : fl_L), (K9 k0 k1 k2 k3).2 cq cj = k3 cq cj) : (f_X6_split_58 fu K9 x3 s l).2 cq cj = l cq cj := by
  unfold f_X6_split_58
  repeat' (with_reducible apply itP2)
  all_goals first | with_reducible rfl | simp (disch := first | assumption | omega) only [ll_X6_kindFrom, ll_X6_split_101, hkK9, wl_f, wl_g, ff_l]
set_option maxHeartbeats 1000000 in
theorem fr_X6_split_20 {fu : Nat} {K9 : Int32 → Int32 → fl_I → fl_L → fl_I × fl_L}  {cq cj : Nat} (h0 : ¬ (cq = 4 ∧ cj = 4)) (h1 : cq ≠ 5) (h2 : cq ≠ 6) (hkK9 : ∀ (k0 : Int32) (k1 : Int32) (k2 : fl_I) (k3 : fl_L), (K9 k0 k1 k2 k3).1 cq cj = k2 cq cj) : ∀ (n : Nat) (x3 : Int32) (s : fl_I) (l : fl_L), (f_X6_split_20 fu K9 n x3 s l).1 cq cj = s cq cj := by
  intro n; induction n with
  | zero => intro x3 s l; rfl
  | succ n ih =>
    intro x3 s l; unfold f_X6_split_20
    repeat' (with_reducible apply itP1)
    all_goals first | with_reducible rfl | with_reducible exact ih _ _ _ | simp (disch := first | assumption | omega | (intros; with_reducible exact ih _ _ _)) only [ih, fr_X6_split_58, hkK9, wi_f, wi_g, wc_f, ff_s, ff_l, su_f]
set_option maxHeartbeats 1000000 in
theorem ll_X6_split_20 {fu : Nat} {K9 : Int32 → Int32 → fl_I → fl_L → fl_I × fl_L}  {cq cj : Nat} (h0 : cq ≠ 7) (hkK9 : ∀ (k0 : Int32) (k1 : Int32) (k2 : fl_I) (k3 : fl_L), (K9 k0 k1 k2 k3).2 cq cj = k3 cq cj) : ∀ (n : Nat) (x3 : Int32) (s : fl_I) (l : fl_L), (f_X6_split_20 fu K9 n x3 s l).2 cq cj = l cq cj := by
  intro n; induction n with
  | zero => intro x3 s l; rfl
  | succ n ih =>
    intro x3 s l; unfold f_X6_split_20
    repeat' (with_reducible apply itP2)
    all_goals first | with_reducible rfl | with_reducible exact ih _ _ _ | simp (disch := first | assumption | omega | (intros; with_reducible exact ih _ _ _)) only [ih, ll_X6_split_58, hkK9, wl_f, wl_g, ff_l]
set_option maxHeartbeats 1000000 in
theorem fr_X6_split_9 {fu : Nat}   {cq cj : Nat} (h0 : ¬ (cq = 4 ∧ cj = 4)) (h1 : cq ≠ 5) (h2 : cq ≠ 6)  : ∀ (n : Nat) (x2 : Int32) (x3 : Int32) (s : fl_I) (l : fl_L), (f_X6_split_9 fu n x2 x3 s l).1 cq cj = s cq cj := by
  intro n; induction n with
  | zero => intro x2 x3 s l; rfl
  | succ n ih =>
    intro x2 x3 s l; unfold f_X6_split_9
    repeat' (with_reducible apply itP1)
    all_goals first | with_reducible rfl | with_reducible exact ih _ _ _ _ | simp (disch := first | assumption | omega | (intros; with_reducible exact ih _ _ _ _)) only [ih, fr_X6_split_133, fr_X6_split_20, wi_f, wi_g, wc_f, ff_s, ff_l, su_f]
set_option maxHeartbeats 1000000 in
theorem ll_X6_split_9 {fu : Nat}   {cq cj : Nat} (h0 : cq ≠ 7)  : ∀ (n : Nat) (x2 : Int32) (x3 : Int32) (s : fl_I) (l : fl_L), (f_X6_split_9 fu n x2 x3 s l).2 cq cj = l cq cj := by
  intro n; induction n with
  | zero => intro x2 x3 s l; rfl
  | succ n ih =>
    intro x2 x3 s l; unfold f_X6_split_9
    repeat' (with_reducible apply itP2)
    all_goals first | with_reducible rfl | with_reducible exact ih _ _ _ _ | simp (disch := first | assumption | omega | (intros; with_reducible exact ih _ _ _ _)) only [ih, ll_X6_split_133, ll_X6_split_20, wl_f, wl_g, ff_l]
set_option maxHeartbeats 1000000 in
theorem fr_X6_split {fu : Nat} {s : fl_I} {l : fl_L}  {cq cj : Nat} (h0 : ¬ (cq = 4 ∧ cj = 4)) (h1 : cq ≠ 5) (h2 : cq ≠ 6)  : (f_X6_split fu s l).1 cq cj = s cq cj := by
  unfold f_X6_split
  repeat' (with_reducible apply itP1)
  all_goals first | with_reducible rfl | simp (disch := first | assumption | omega) only [fr_X6_split_9, wi_f, wi_g, wc_f, ff_s, ff_l, su_f]
set_option maxHeartbeats 1000000 in
theorem ll_X6_split {fu : Nat} {s : fl_I} {l : fl_L}  {cq cj : Nat} (h0 : cq ≠ 7)  : (f_X6_split fu s l).2 cq cj = l cq cj := by
  unfold f_X6_split
  repeat' (with_reducible apply itP2)
  all_goals first | with_reducible rfl | simp (disch := first | assumption | omega) only [ll_X6_split_9, wl_f, wl_g, ff_l]
set_option maxHeartbeats 1000000 in
theorem fr_X12_share_80 {fu : Nat}   {cq cj : Nat} (h0 : ¬ (cq = 60 ∧ cj = 63))  : ∀ (n : Nat) (x3 : Int32) (x4 : Int32) (x5 : Int32) (x6 : Int32) (x7 : Int32) (s : fl_I) (l : fl_L), (f_X12_share_80 fu n x3 x4 x5 x6 x7 s l).2.1 cq cj = s cq cj := by
  intro n; induction n with
  | zero => intro x3 x4 x5 x6 x7 s l; rfl
  | succ n ih =>
    intro x3 x4 x5 x6 x7 s l; unfold f_X12_share_80
    repeat' (with_reducible apply itT1)
    all_goals first | with_reducible rfl | with_reducible exact ih _ _ _ _ _ _ _ | simp (disch := first | assumption | omega | (intros; with_reducible exact ih _ _ _ _ _ _ _)) only [ih, fr_X12_roundFrom, wi_f, wi_g, wc_f, ff_s, ff_l, su_f]
set_option maxHeartbeats 1000000 in
theorem ll_X12_share_80 {fu : Nat}     : ∀ (n : Nat) (x3 : Int32) (x4 : Int32) (x5 : Int32) (x6 : Int32) (x7 : Int32) (s : fl_I) (l : fl_L), (f_X12_share_80 fu n x3 x4 x5 x6 x7 s l).2.2 = l := by
  intro n; induction n with
  | zero => intro x3 x4 x5 x6 x7 s l; rfl
  | succ n ih =>
    intro x3 x4 x5 x6 x7 s l; unfold f_X12_share_80
    repeat' (with_reducible apply itT3)
    all_goals first | with_reducible rfl | with_reducible exact ih _ _ _ _ _ _ _ | simp (disch := first | assumption | omega | (intros; with_reducible exact ih _ _ _ _ _ _ _)) only [ih, ll_X12_roundFrom, ff_l]
set_option maxHeartbeats 1000000 in
theorem fr_X12_share {fu : Nat} {v0 : Int32} {v1 : Int32} {s : fl_I} {l : fl_L}  {cq cj : Nat} (h0 : ¬ (cq = 60 ∧ cj = 52)) (h1 : ¬ (cq = 60 ∧ cj = 53)) (h2 : ¬ (cq = 60 ∧ cj = 60)) (h3 : ¬ (cq = 60 ∧ cj = 63)) (h4 : cq ≠ 95) (h5 : cq ≠ 100) (h6 : cq ≠ 101)  : (f_X12_share fu v0 v1 s l).2.1 cq cj = s cq cj := by
  unfold f_X12_share
  repeat' (with_reducible apply itT1)
  all_goals first | with_reducible rfl | simp (disch := first | assumption | omega) only [fr_X12_copies, fr_X12_fillsCells, fr_X12_fillsRest, fr_X12_share_80, wi_f, wi_g, wc_f, ff_s, ff_l, su_f]
set_option maxHeartbeats 1000000 in
theorem ll_X12_share {fu : Nat} {v0 : Int32} {v1 : Int32} {s : fl_I} {l : fl_L}  {cq cj : Nat}   : (f_X12_share fu v0 v1 s l).2.2 cq cj = l cq cj := by
  unfold f_X12_share
  repeat' (with_reducible apply itT2)
  all_goals first | with_reducible rfl | simp (disch := first | assumption | omega) only [ll_X12_copies, ll_X12_fillsCells, ll_X12_fillsRest, ll_X12_share_80, wl_f, wl_g, ff_l]
set_option maxHeartbeats 1000000 in
theorem fr_X9_blow_10 {fu : Nat}  {t : Nat} {a : Nat} {cq cj : Nat} (h0 : cq ≠ 48) (h1 : cq ≠ 49) (h2 : cq ≠ (a + 1)) (h3 : cq ≠ (a + 2))  : ∀ (n : Nat) (x3 : Int32) (s : fl_I) (l : fl_L), (f_X9_blow_10 fu n x3 t a s l).1 cq cj = s cq cj := by
  intro n; induction n with
  | zero => intro x3 s l; rfl
  | succ n ih =>
    intro x3 s l; unfold f_X9_blow_10
    repeat' (with_reducible apply itP1)
    all_goals first | with_reducible rfl | with_reducible exact ih _ _ _ | simp (disch := first | assumption | omega | (intros; with_reducible exact ih _ _ _)) only [ih, fr_X1_ofPiece, wi_f, wi_g, wc_f, ff_s, ff_l, su_f]
set_option maxHeartbeats 1000000 in
theorem ll_X9_blow_10 {fu : Nat}  {t : Nat} {a : Nat} {cq cj : Nat}   : ∀ (n : Nat) (x3 : Int32) (s : fl_I) (l : fl_L), (f_X9_blow_10 fu n x3 t a s l).2 cq cj = l cq cj := by
  intro n; induction n with
  | zero => intro x3 s l; rfl
  | succ n ih =>
    intro x3 s l; unfold f_X9_blow_10
    repeat' (with_reducible apply itP2)
    all_goals first | with_reducible rfl | with_reducible exact ih _ _ _ | simp (disch := first | assumption | omega | (intros; with_reducible exact ih _ _ _)) only [ih, ll_X1_ofPiece, wl_f, wl_g, ff_l]
set_option maxHeartbeats 1000000 in
theorem fr_X9_blow {fu : Nat} {t : Nat} {a : Nat} {s : fl_I} {l : fl_L}  {cq cj : Nat} (h0 : cq ≠ 48) (h1 : cq ≠ 49) (h2 : cq ≠ 50) (h3 : cq ≠ (a + 1)) (h4 : cq ≠ (a + 2))  : (f_X9_blow fu t a s l).1 cq cj = s cq cj := by
  unfold f_X9_blow
  repeat' (with_reducible apply itP1)
  all_goals first | with_reducible rfl | simp (disch := first | assumption | omega) only [fr_X10_countAll, fr_X9_blow_10, wi_f, wi_g, wc_f, ff_s, ff_l, su_f]
set_option maxHeartbeats 1000000 in
theorem ll_X9_blow {fu : Nat} {t : Nat} {a : Nat} {s : fl_I} {l : fl_L}  {cq cj : Nat}   : (f_X9_blow fu t a s l).2 cq cj = l cq cj := by
  unfold f_X9_blow
  repeat' (with_reducible apply itP2)
  all_goals first | with_reducible rfl | simp (disch := first | assumption | omega) only [ll_X10_countAll, ll_X9_blow_10, wl_f, wl_g, ff_l]
set_option maxHeartbeats 1000000 in
theorem fr_X12_lawTells_137 {fu : Nat} {y0 : Int32} {s : fl_I} {l : fl_L}  {cq cj : Nat}   : (f_X12_lawTells_137 fu y0 s l).2.1 cq cj = s cq cj := by
  unfold f_X12_lawTells_137
  repeat' (with_reducible apply itT1)
  all_goals first | with_reducible rfl | simp (disch := first | assumption | omega) only [wi_f, wi_g, wc_f, ff_s, ff_l, su_f]
set_option maxHeartbeats 1000000 in
theorem ll_X12_lawTells_137 {fu : Nat} {y0 : Int32} {s : fl_I} {l : fl_L}    : (f_X12_lawTells_137 fu y0 s l).2.2 = l := by
  unfold f_X12_lawTells_137
  repeat' (with_reducible apply itT3)
  all_goals first | with_reducible rfl | simp (disch := first | assumption | omega) only [ff_l]
set_option maxHeartbeats 1000000 in
theorem fr_X12_lawTells_119 {fu : Nat} {x4 : Int32} {s : fl_I} {l : fl_L}  {cq cj : Nat} (h0 : ¬ (cq = 60 ∧ cj = 49)) (h1 : cq ≠ 93)  : (f_X12_lawTells_119 fu x4 s l).2.1 cq cj = s cq cj := by
  unfold f_X12_lawTells_119
  repeat' (with_reducible apply itT1)
  all_goals first | with_reducible rfl | simp (disch := first | assumption | omega) only [fr_X12_lawTells_137, fr_X12_termOf, wi_f, wi_g, wc_f, ff_s, ff_l, su_f]
set_option maxHeartbeats 1000000 in
theorem ll_X12_lawTells_119 {fu : Nat} {x4 : Int32} {s : fl_I} {l : fl_L}  {cq cj : Nat}   : (f_X12_lawTells_119 fu x4 s l).2.2 cq cj = l cq cj := by
  unfold f_X12_lawTells_119
  repeat' (with_reducible apply itT2)
  all_goals first | with_reducible rfl | simp (disch := first | assumption | omega) only [ll_X12_lawTells_137, ll_X12_termOf, wl_f, wl_g, ff_l]
set_option maxHeartbeats 1000000 in
theorem fr_X12_lawTells_98 {fu : Nat} {K39 : Int32 → Int32 → fl_I → fl_L → Int32 × fl_I × fl_L} {x3 : Int32} {x4 : Int32} {x5 : Int32} {y0 : Int32} {s : fl_I} {l : fl_L}  {cq cj : Nat} (h0 : ¬ (cq = 60 ∧ cj = 49)) (h1 : cq ≠ 93) (hkK39 : ∀ (k0 : Int32) (k1 : Int32) (k2 : fl_I) (k3 : fl_L), (K39 k0 k1 k2 k3).2.1 cq cj = k2 cq cj) : (f_X12_lawTells_98 fu K39 x3 x4 x5 y0 s l).2.1 cq cj = s cq cj := by
  unfold f_X12_lawTells_98
  repeat' (with_reducible apply itT1)
  all_goals first | with_reducible rfl | simp (disch := first | assumption | omega) only [fr_X12_lawTells_119, hkK39, wi_f, wi_g, wc_f, ff_s, ff_l, su_f]
set_option maxHeartbeats 1000000 in
theorem ll_X12_lawTells_98 {fu : Nat} {K39 : Int32 → Int32 → fl_I → fl_L → Int32 × fl_I × fl_L} {x3 : Int32} {x4 : Int32} {x5 : Int32} {y0 : Int32} {s : fl_I} {l : fl_L}  {cq cj : Nat}  (hkK39 : ∀ (k0 : Int32) (k1 : Int32) (k2 : fl_I) (k3 : fl_L), (K39 k0 k1 k2 k3).2.2 cq cj = k3 cq cj) : (f_X12_lawTells_98 fu K39 x3 x4 x5 y0 s l).2.2 cq cj = l cq cj := by
  unfold f_X12_lawTells_98
  repeat' (with_reducible apply itT2)
  all_goals first | with_reducible rfl | simp (disch := first | assumption | omega) only [ll_X12_lawTells_119, hkK39, wl_f, wl_g, ff_l]
set_option maxHeartbeats 1000000 in
theorem fr_X12_lawTells_78 {fu : Nat} {K39 : Int32 → Int32 → fl_I → fl_L → Int32 × fl_I × fl_L} {x3 : Int32} {x4 : Int32} {y0 : Int32} {s : fl_I} {l : fl_L}  {cq cj : Nat} (h0 : ¬ (cq = 60 ∧ cj = 49)) (h1 : cq ≠ 93) (hkK39 : ∀ (k0 : Int32) (k1 : Int32) (k2 : fl_I) (k3 : fl_L), (K39 k0 k1 k2 k3).2.1 cq cj = k2 cq cj) : (f_X12_lawTells_78 fu K39 x3 x4 y0 s l).2.1 cq cj = s cq cj := by
  unfold f_X12_lawTells_78
  repeat' (with_reducible apply itT1)
  all_goals first | with_reducible rfl | simp (disch := first | assumption | omega) only [fr_X12_lawTells_98, fr_X12_termOf, hkK39, wi_f, wi_g, wc_f, ff_s, ff_l, su_f]
set_option maxHeartbeats 1000000 in
theorem ll_X12_lawTells_78 {fu : Nat} {K39 : Int32 → Int32 → fl_I → fl_L → Int32 × fl_I × fl_L} {x3 : Int32} {x4 : Int32} {y0 : Int32} {s : fl_I} {l : fl_L}  {cq cj : Nat}  (hkK39 : ∀ (k0 : Int32) (k1 : Int32) (k2 : fl_I) (k3 : fl_L), (K39 k0 k1 k2 k3).2.2 cq cj = k3 cq cj) : (f_X12_lawTells_78 fu K39 x3 x4 y0 s l).2.2 cq cj = l cq cj := by
  unfold f_X12_lawTells_78
  repeat' (with_reducible apply itT2)
  all_goals first | with_reducible rfl | simp (disch := first | assumption | omega) only [ll_X12_lawTells_98, ll_X12_termOf, hkK39, wl_f, wl_g, ff_l]
set_option maxHeartbeats 1000000 in
theorem fr_X12_lawTells_39 {fu : Nat}   {cq cj : Nat} (h0 : ¬ (cq = 60 ∧ cj = 49)) (h1 : cq ≠ 93)  : ∀ (n : Nat) (x3 : Int32) (x4 : Int32) (s : fl_I) (l : fl_L), (f_X12_lawTells_39 fu n x3 x4 s l).2.1 cq cj = s cq cj := by
  intro n; induction n with
  | zero => intro x3 x4 s l; rfl
  | succ n ih =>
    intro x3 x4 s l; unfold f_X12_lawTells_39
    repeat' (with_reducible apply itT1)
    all_goals first | with_reducible rfl | with_reducible exact ih _ _ _ _ | simp (disch := first | assumption | omega | (intros; with_reducible exact ih _ _ _ _)) only [ih, fr_X12_lawTells_119, fr_X12_lawTells_78, fr_X12_termOf, wi_f, wi_g, wc_f, ff_s, ff_l, su_f]
set_option maxHeartbeats 1000000 in
theorem ll_X12_lawTells_39 {fu : Nat}   {cq cj : Nat}   : ∀ (n : Nat) (x3 : Int32) (x4 : Int32) (s : fl_I) (l : fl_L), (f_X12_lawTells_39 fu n x3 x4 s l).2.2 cq cj = l cq cj := by
  intro n; induction n with
  | zero => intro x3 x4 s l; rfl
  | succ n ih =>
    intro x3 x4 s l; unfold f_X12_lawTells_39
    repeat' (with_reducible apply itT2)
    all_goals first | with_reducible rfl | with_reducible exact ih _ _ _ _ | simp (disch := first | assumption | omega | (intros; with_reducible exact ih _ _ _ _)) only [ih, ll_X12_lawTells_119, ll_X12_lawTells_78, ll_X12_termOf, wl_f, wl_g, ff_l]
set_option maxHeartbeats 1000000 in
theorem fr_X12_lawTells {fu : Nat} {v0 : Int32} {v1 : Int32} {s : fl_I} {l : fl_L}  {cq cj : Nat} (h0 : ¬ (cq = 60 ∧ cj = 49)) (h1 : cq ≠ 93)  : (f_X12_lawTells fu v0 v1 s l).2.1 cq cj = s cq cj := by
  unfold f_X12_lawTells
  repeat' (with_reducible apply itT1)
  all_goals first | with_reducible rfl | simp (disch := first | assumption | omega) only [fr_X12_lawTells_39, wi_f, wi_g, wc_f, ff_s, ff_l, su_f]
set_option maxHeartbeats 1000000 in
theorem ll_X12_lawTells {fu : Nat} {v0 : Int32} {v1 : Int32} {s : fl_I} {l : fl_L}  {cq cj : Nat}   : (f_X12_lawTells fu v0 v1 s l).2.2 cq cj = l cq cj := by
  unfold f_X12_lawTells
  repeat' (with_reducible apply itT2)
  all_goals first | with_reducible rfl | simp (disch := first | assumption | omega) only [ll_X12_lawTells_39, wl_f, wl_g, ff_l]
set_option maxHeartbeats 1000000 in
theorem fr_X12_tellLaw_148 {fu : Nat} {x1 : Int32} {x2 : Int32} {s : fl_I} {l : fl_L}  {cq cj : Nat} (h0 : cq ≠ 82) (h1 : cq ≠ 83)  : (f_X12_tellLaw_148 fu x1 x2 s l).1 cq cj = s cq cj := by
  unfold f_X12_tellLaw_148
  repeat' (with_reducible apply itP1)
  all_goals first | with_reducible rfl | simp (disch := first | assumption | omega) only [wi_f, wi_g, wc_f, ff_s, ff_l, su_f]
set_option maxHeartbeats 1000000 in
theorem ll_X12_tellLaw_148 {fu : Nat} {x1 : Int32} {x2 : Int32} {s : fl_I} {l : fl_L}    : (f_X12_tellLaw_148 fu x1 x2 s l).2 = l := by
  unfold f_X12_tellLaw_148
  repeat' (with_reducible apply itP3)
  all_goals first | with_reducible rfl | simp (disch := first | assumption | omega) only [ff_l]
set_option maxHeartbeats 1000000 in
theorem fr_X12_tellLaw_143 {fu : Nat} {x1 : Int32} {x2 : Int32} {s : fl_I} {l : fl_L}  {cq cj : Nat} (h0 : ¬ (cq = 60 ∧ cj = 11)) (h1 : ¬ (cq = 60 ∧ cj = 13)) (h2 : ¬ (cq = 60 ∧ cj = 14)) (h3 : cq ≠ 82) (h4 : cq ≠ 83)  : (f_X12_tellLaw_143 fu x1 x2 s l).1 cq cj = s cq cj := by
  unfold f_X12_tellLaw_143
  repeat' (with_reducible apply itP1)
  all_goals first | with_reducible rfl | simp (disch := first | assumption | omega) only [fr_X12_must, fr_X12_tellLaw_148, wi_f, wi_g, wc_f, ff_s, ff_l, su_f]
set_option maxHeartbeats 1000000 in
theorem ll_X12_tellLaw_143 {fu : Nat} {x1 : Int32} {x2 : Int32} {s : fl_I} {l : fl_L}    : (f_X12_tellLaw_143 fu x1 x2 s l).2 = l := by
  unfold f_X12_tellLaw_143
  repeat' (with_reducible apply itP3)
  all_goals first | with_reducible rfl | simp (disch := first | assumption | omega) only [ll_X12_must, ll_X12_tellLaw_148, ff_l]
set_option maxHeartbeats 1000000 in
theorem fr_X12_tellLaw_129 {fu : Nat} {x1 : Int32} {x2 : Int32} {s : fl_I} {l : fl_L}  {cq cj : Nat} (h0 : ¬ (cq = 60 ∧ cj = 11)) (h1 : ¬ (cq = 60 ∧ cj = 12)) (h2 : ¬ (cq = 60 ∧ cj = 13)) (h3 : ¬ (cq = 60 ∧ cj = 14)) (h4 : ¬ (cq = 60 ∧ cj = 36)) (h5 : ¬ (cq = 60 ∧ cj = 42)) (h6 : ¬ (cq = 60 ∧ cj = 46)) (h7 : cq ≠ 82) (h8 : cq ≠ 83) (h9 : cq ≠ 84) (h10 : cq ≠ 87) (h11 : cq ≠ 88) (h12 : cq ≠ 89) (h13 : cq ≠ 90) (h14 : cq ≠ 91)  : (f_X12_tellLaw_129 fu x1 x2 s l).1 cq cj = s cq cj := by
  unfold f_X12_tellLaw_129
  repeat' (with_reducible apply itP1)
  all_goals first | with_reducible rfl | simp (disch := first | assumption | omega) only [fr_X12_tellLaw_143, fr_X12_term, wi_f, wi_g, wc_f, ff_s, ff_l, su_f]
set_option maxHeartbeats 1000000 in
theorem ll_X12_tellLaw_129 {fu : Nat} {x1 : Int32} {x2 : Int32} {s : fl_I} {l : fl_L}  {cq cj : Nat}   : (f_X12_tellLaw_129 fu x1 x2 s l).2 cq cj = l cq cj := by
  unfold f_X12_tellLaw_129
  repeat' (with_reducible apply itP2)
  all_goals first | with_reducible rfl | simp (disch := first | assumption | omega) only [ll_X12_tellLaw_143, ll_X12_term, wl_f, wl_g, ff_l]
set_option maxHeartbeats 1000000 in
theorem fr_X12_tellLaw_126 {fu : Nat} {K12 : Int32 → Int32 → Int32 → fl_I → fl_L → fl_I × fl_L} {x1 : Int32} {x2 : Int32} {x3 : Int32} {s : fl_I} {l : fl_L}  {cq cj : Nat}  (hkK12 : ∀ (k0 : Int32) (k1 : Int32) (k2 : Int32) (k3 : fl_I) (k4 : fl_L), (K12 k0 k1 k2 k3 k4).1 cq cj = k3 cq cj) : (f_X12_tellLaw_126 fu K12 x1 x2 x3 s l).1 cq cj = s cq cj := by
  unfold f_X12_tellLaw_126
  repeat' (with_reducible apply itP1)
  all_goals first | with_reducible rfl | simp (disch := first | assumption | omega) only [hkK12, wi_f, wi_g, wc_f, ff_s, ff_l, su_f]
set_option maxHeartbeats 1000000 in
theorem ll_X12_tellLaw_126 {fu : Nat} {K12 : Int32 → Int32 → Int32 → fl_I → fl_L → fl_I × fl_L} {x1 : Int32} {x2 : Int32} {x3 : Int32} {s : fl_I} {l : fl_L}  {cq cj : Nat}  (hkK12 : ∀ (k0 : Int32) (k1 : Int32) (k2 : Int32) (k3 : fl_I) (k4 : fl_L), (K12 k0 k1 k2 k3 k4).2 cq cj = k4 cq cj) : (f_X12_tellLaw_126 fu K12 x1 x2 x3 s l).2 cq cj = l cq cj := by
  unfold f_X12_tellLaw_126
  repeat' (with_reducible apply itP2)
  all_goals first | with_reducible rfl | simp (disch := first | assumption | omega) only [hkK12, wl_f, wl_g, ff_l]
set_option maxHeartbeats 1000000 in
theorem fr_X12_tellLaw_120 {fu : Nat} {K12 : Int32 → Int32 → Int32 → fl_I → fl_L → fl_I × fl_L} {x1 : Int32} {x2 : Int32} {x3 : Int32} {s : fl_I} {l : fl_L}  {cq cj : Nat} (h0 : ¬ (cq = 60 ∧ cj = 11)) (h1 : ¬ (cq = 60 ∧ cj = 13)) (h2 : ¬ (cq = 60 ∧ cj = 14)) (hkK12 : ∀ (k0 : Int32) (k1 : Int32) (k2 : Int32) (k3 : fl_I) (k4 : fl_L), (K12 k0 k1 k2 k3 k4).1 cq cj = k3 cq cj) : (f_X12_tellLaw_120 fu K12 x1 x2 x3 s l).1 cq cj = s cq cj := by
  unfold f_X12_tellLaw_120
  repeat' (with_reducible apply itP1)
  all_goals first | with_reducible rfl | simp (disch := first | assumption | omega) only [fr_X12_must, fr_X12_tellLaw_126, hkK12, wi_f, wi_g, wc_f, ff_s, ff_l, su_f]
set_option maxHeartbeats 1000000 in
theorem ll_X12_tellLaw_120 {fu : Nat} {K12 : Int32 → Int32 → Int32 → fl_I → fl_L → fl_I × fl_L} {x1 : Int32} {x2 : Int32} {x3 : Int32} {s : fl_I} {l : fl_L}  {cq cj : Nat}  (hkK12 : ∀ (k0 : Int32) (k1 : Int32) (k2 : Int32) (k3 : fl_I) (k4 : fl_L), (K12 k0 k1 k2 k3 k4).2 cq cj = k4 cq cj) : (f_X12_tellLaw_120 fu K12 x1 x2 x3 s l).2 cq cj = l cq cj := by
  unfold f_X12_tellLaw_120
  repeat' (with_reducible apply itP2)
  all_goals first | with_reducible rfl | simp (disch := first | assumption | omega) only [ll_X12_must, ll_X12_tellLaw_126, hkK12, wl_f, wl_g, ff_l]
set_option maxHeartbeats 1000000 in
theorem fr_X12_tellLaw_116 {fu : Nat} {K12 : Int32 → Int32 → Int32 → fl_I → fl_L → fl_I × fl_L} {x1 : Int32} {x2 : Int32} {x3 : Int32} {s : fl_I} {l : fl_L}  {cq cj : Nat} (h0 : ¬ (cq = 60 ∧ cj = 11)) (h1 : ¬ (cq = 60 ∧ cj = 12)) (h2 : ¬ (cq = 60 ∧ cj = 13)) (h3 : ¬ (cq = 60 ∧ cj = 14)) (h4 : ¬ (cq = 60 ∧ cj = 36)) (h5 : ¬ (cq = 60 ∧ cj = 42)) (h6 : ¬ (cq = 60 ∧ cj = 46)) (h7 : cq ≠ 87) (h8 : cq ≠ 88) (h9 : cq ≠ 89) (h10 : cq ≠ 90) (h11 : cq ≠ 91) (hkK12 : ∀ (k0 : Int32) (k1 : Int32) (k2 : Int32) (k3 : fl_I) (k4 : fl_L), (K12 k0 k1 k2 k3 k4).1 cq cj = k3 cq cj) : (f_X12_tellLaw_116 fu K12 x1 x2 x3 s l).1 cq cj = s cq cj := by
  unfold f_X12_tellLaw_116
  repeat' (with_reducible apply itP1)
  all_goals first | with_reducible rfl | simp (disch := first | assumption | omega) only [fr_X12_tellLaw_120, fr_X12_term, hkK12, wi_f, wi_g, wc_f, ff_s, ff_l, su_f]
set_option maxHeartbeats 1000000 in
theorem ll_X12_tellLaw_116 {fu : Nat} {K12 : Int32 → Int32 → Int32 → fl_I → fl_L → fl_I × fl_L} {x1 : Int32} {x2 : Int32} {x3 : Int32} {s : fl_I} {l : fl_L}  {cq cj : Nat}  (hkK12 : ∀ (k0 : Int32) (k1 : Int32) (k2 : Int32) (k3 : fl_I) (k4 : fl_L), (K12 k0 k1 k2 k3 k4).2 cq cj = k4 cq cj) : (f_X12_tellLaw_116 fu K12 x1 x2 x3 s l).2 cq cj = l cq cj := by
  unfold f_X12_tellLaw_116
  repeat' (with_reducible apply itP2)
  all_goals first | with_reducible rfl | simp (disch := first | assumption | omega) only [ll_X12_tellLaw_120, ll_X12_term, hkK12, wl_f, wl_g, ff_l]
set_option maxHeartbeats 1000000 in
theorem fr_X12_tellLaw_110 {fu : Nat} {K12 : Int32 → Int32 → Int32 → fl_I → fl_L → fl_I × fl_L} {x1 : Int32} {x2 : Int32} {x3 : Int32} {s : fl_I} {l : fl_L}  {cq cj : Nat} (h0 : ¬ (cq = 60 ∧ cj = 11)) (h1 : ¬ (cq = 60 ∧ cj = 12)) (h2 : ¬ (cq = 60 ∧ cj = 13)) (h3 : ¬ (cq = 60 ∧ cj = 14)) (h4 : ¬ (cq = 60 ∧ cj = 36)) (h5 : ¬ (cq = 60 ∧ cj = 42)) (h6 : ¬ (cq = 60 ∧ cj = 46)) (h7 : cq ≠ 87) (h8 : cq ≠ 88) (h9 : cq ≠ 89) (h10 : cq ≠ 90) (h11 : cq ≠ 91) (hkK12 : ∀ (k0 : Int32) (k1 : Int32) (k2 : Int32) (k3 : fl_I) (k4 : fl_L), (K12 k0 k1 k2 k3 k4).1 cq cj = k3 cq cj) : (f_X12_tellLaw_110 fu K12 x1 x2 x3 s l).1 cq cj = s cq cj := by
  unfold f_X12_tellLaw_110
  repeat' (with_reducible apply itP1)
  all_goals first | with_reducible rfl | simp (disch := first | assumption | omega) only [fr_X12_must, fr_X12_tellLaw_116, hkK12, wi_f, wi_g, wc_f, ff_s, ff_l, su_f]
set_option maxHeartbeats 1000000 in
theorem ll_X12_tellLaw_110 {fu : Nat} {K12 : Int32 → Int32 → Int32 → fl_I → fl_L → fl_I × fl_L} {x1 : Int32} {x2 : Int32} {x3 : Int32} {s : fl_I} {l : fl_L}  {cq cj : Nat}  (hkK12 : ∀ (k0 : Int32) (k1 : Int32) (k2 : Int32) (k3 : fl_I) (k4 : fl_L), (K12 k0 k1 k2 k3 k4).2 cq cj = k4 cq cj) : (f_X12_tellLaw_110 fu K12 x1 x2 x3 s l).2 cq cj = l cq cj := by
  unfold f_X12_tellLaw_110
  repeat' (with_reducible apply itP2)
  all_goals first | with_reducible rfl | simp (disch := first | assumption | omega) only [ll_X12_must, ll_X12_tellLaw_116, hkK12, wl_f, wl_g, ff_l]
set_option maxHeartbeats 1000000 in
theorem fr_X12_tellLaw_86 {fu : Nat} {K12 : Int32 → Int32 → Int32 → fl_I → fl_L → fl_I × fl_L} {x1 : Int32} {x2 : Int32} {x3 : Int32} {s : fl_I} {l : fl_L}  {cq cj : Nat} (h0 : ¬ (cq = 60 ∧ cj = 11)) (h1 : ¬ (cq = 60 ∧ cj = 12)) (h2 : ¬ (cq = 60 ∧ cj = 13)) (h3 : ¬ (cq = 60 ∧ cj = 14)) (h4 : ¬ (cq = 60 ∧ cj = 36)) (h5 : ¬ (cq = 60 ∧ cj = 42)) (h6 : ¬ (cq = 60 ∧ cj = 46)) (h7 : cq ≠ 86) (h8 : cq ≠ 87) (h9 : cq ≠ 88) (h10 : cq ≠ 89) (h11 : cq ≠ 90) (h12 : cq ≠ 91) (hkK12 : ∀ (k0 : Int32) (k1 : Int32) (k2 : Int32) (k3 : fl_I) (k4 : fl_L), (K12 k0 k1 k2 k3 k4).1 cq cj = k3 cq cj) : (f_X12_tellLaw_86 fu K12 x1 x2 x3 s l).1 cq cj = s cq cj := by
  unfold f_X12_tellLaw_86
  repeat' (with_reducible apply itP1)
  all_goals first | with_reducible rfl | simp (disch := first | assumption | omega) only [fr_X12_expression, fr_X12_tellLaw_110, hkK12, wi_f, wi_g, wc_f, ff_s, ff_l, su_f]
set_option maxHeartbeats 1000000 in
theorem ll_X12_tellLaw_86 {fu : Nat} {K12 : Int32 → Int32 → Int32 → fl_I → fl_L → fl_I × fl_L} {x1 : Int32} {x2 : Int32} {x3 : Int32} {s : fl_I} {l : fl_L}  {cq cj : Nat}  (hkK12 : ∀ (k0 : Int32) (k1 : Int32) (k2 : Int32) (k3 : fl_I) (k4 : fl_L), (K12 k0 k1 k2 k3 k4).2 cq cj = k4 cq cj) : (f_X12_tellLaw_86 fu K12 x1 x2 x3 s l).2 cq cj = l cq cj := by
  unfold f_X12_tellLaw_86
  repeat' (with_reducible apply itP2)
  all_goals first | with_reducible rfl | simp (disch := first | assumption | omega) only [ll_X12_expression, ll_X12_tellLaw_110, hkK12, wl_f, wl_g, ff_l]
set_option maxHeartbeats 1000000 in
theorem fr_X12_tellLaw_80 {fu : Nat} {K12 : Int32 → Int32 → Int32 → fl_I → fl_L → fl_I × fl_L} {x1 : Int32} {x2 : Int32} {x3 : Int32} {s : fl_I} {l : fl_L}  {cq cj : Nat} (h0 : ¬ (cq = 60 ∧ cj = 11)) (h1 : ¬ (cq = 60 ∧ cj = 12)) (h2 : ¬ (cq = 60 ∧ cj = 13)) (h3 : ¬ (cq = 60 ∧ cj = 14)) (h4 : ¬ (cq = 60 ∧ cj = 36)) (h5 : ¬ (cq = 60 ∧ cj = 42)) (h6 : ¬ (cq = 60 ∧ cj = 46)) (h7 : cq ≠ 86) (h8 : cq ≠ 87) (h9 : cq ≠ 88) (h10 : cq ≠ 89) (h11 : cq ≠ 90) (h12 : cq ≠ 91) (hkK12 : ∀ (k0 : Int32) (k1 : Int32) (k2 : Int32) (k3 : fl_I) (k4 : fl_L), (K12 k0 k1 k2 k3 k4).1 cq cj = k3 cq cj) : (f_X12_tellLaw_80 fu K12 x1 x2 x3 s l).1 cq cj = s cq cj := by
  unfold f_X12_tellLaw_80
  repeat' (with_reducible apply itP1)
  all_goals first | with_reducible rfl | simp (disch := first | assumption | omega) only [fr_X12_must, fr_X12_tellLaw_86, hkK12, wi_f, wi_g, wc_f, ff_s, ff_l, su_f]
set_option maxHeartbeats 1000000 in
theorem ll_X12_tellLaw_80 {fu : Nat} {K12 : Int32 → Int32 → Int32 → fl_I → fl_L → fl_I × fl_L} {x1 : Int32} {x2 : Int32} {x3 : Int32} {s : fl_I} {l : fl_L}  {cq cj : Nat}  (hkK12 : ∀ (k0 : Int32) (k1 : Int32) (k2 : Int32) (k3 : fl_I) (k4 : fl_L), (K12 k0 k1 k2 k3 k4).2 cq cj = k4 cq cj) : (f_X12_tellLaw_80 fu K12 x1 x2 x3 s l).2 cq cj = l cq cj := by
  unfold f_X12_tellLaw_80
  repeat' (with_reducible apply itP2)
  all_goals first | with_reducible rfl | simp (disch := first | assumption | omega) only [ll_X12_must, ll_X12_tellLaw_86, hkK12, wl_f, wl_g, ff_l]
set_option maxHeartbeats 1000000 in
theorem fr_X12_tellLaw_53 {fu : Nat} {K12 : Int32 → Int32 → Int32 → fl_I → fl_L → fl_I × fl_L} {x1 : Int32} {x2 : Int32} {x3 : Int32} {s : fl_I} {l : fl_L}  {cq cj : Nat} (h0 : ¬ (cq = 60 ∧ cj = 11)) (h1 : ¬ (cq = 60 ∧ cj = 12)) (h2 : ¬ (cq = 60 ∧ cj = 13)) (h3 : ¬ (cq = 60 ∧ cj = 14)) (h4 : ¬ (cq = 60 ∧ cj = 36)) (h5 : ¬ (cq = 60 ∧ cj = 42)) (h6 : ¬ (cq = 60 ∧ cj = 46)) (h7 : cq ≠ 84) (h8 : cq ≠ 85) (h9 : cq ≠ 86) (h10 : cq ≠ 87) (h11 : cq ≠ 88) (h12 : cq ≠ 89) (h13 : cq ≠ 90) (h14 : cq ≠ 91) (hkK12 : ∀ (k0 : Int32) (k1 : Int32) (k2 : Int32) (k3 : fl_I) (k4 : fl_L), (K12 k0 k1 k2 k3 k4).1 cq cj = k3 cq cj) : (f_X12_tellLaw_53 fu K12 x1 x2 x3 s l).1 cq cj = s cq cj := by
  unfold f_X12_tellLaw_53
  repeat' (with_reducible apply itP1)
  all_goals first | with_reducible rfl | simp (disch := first | assumption | omega) only [fr_X12_expression, fr_X12_tellLaw_80, hkK12, wi_f, wi_g, wc_f, ff_s, ff_l, su_f]
set_option maxHeartbeats 1000000 in
theorem ll_X12_tellLaw_53 {fu : Nat} {K12 : Int32 → Int32 → Int32 → fl_I → fl_L → fl_I × fl_L} {x1 : Int32} {x2 : Int32} {x3 : Int32} {s : fl_I} {l : fl_L}  {cq cj : Nat}  (hkK12 : ∀ (k0 : Int32) (k1 : Int32) (k2 : Int32) (k3 : fl_I) (k4 : fl_L), (K12 k0 k1 k2 k3 k4).2 cq cj = k4 cq cj) : (f_X12_tellLaw_53 fu K12 x1 x2 x3 s l).2 cq cj = l cq cj := by
  unfold f_X12_tellLaw_53
  repeat' (with_reducible apply itP2)
  all_goals first | with_reducible rfl | simp (disch := first | assumption | omega) only [ll_X12_expression, ll_X12_tellLaw_80, hkK12, wl_f, wl_g, ff_l]
set_option maxHeartbeats 1000000 in
theorem fr_X12_tellLaw_38 {fu : Nat} {K12 : Int32 → Int32 → Int32 → fl_I → fl_L → fl_I × fl_L} {x1 : Int32} {x2 : Int32} {x3 : Int32} {s : fl_I} {l : fl_L}  {cq cj : Nat} (h0 : ¬ (cq = 60 ∧ cj = 11)) (h1 : ¬ (cq = 60 ∧ cj = 12)) (h2 : ¬ (cq = 60 ∧ cj = 13)) (h3 : ¬ (cq = 60 ∧ cj = 14)) (h4 : ¬ (cq = 60 ∧ cj = 36)) (h5 : ¬ (cq = 60 ∧ cj = 42)) (h6 : ¬ (cq = 60 ∧ cj = 46)) (h7 : cq ≠ 84) (h8 : cq ≠ 85) (h9 : cq ≠ 86) (h10 : cq ≠ 87) (h11 : cq ≠ 88) (h12 : cq ≠ 89) (h13 : cq ≠ 90) (h14 : cq ≠ 91) (hkK12 : ∀ (k0 : Int32) (k1 : Int32) (k2 : Int32) (k3 : fl_I) (k4 : fl_L), (K12 k0 k1 k2 k3 k4).1 cq cj = k3 cq cj) : (f_X12_tellLaw_38 fu K12 x1 x2 x3 s l).1 cq cj = s cq cj := by
  unfold f_X12_tellLaw_38
  repeat' (with_reducible apply itP1)
  all_goals first | with_reducible rfl | simp (disch := first | assumption | omega) only [fr_X12_goesOn, fr_X12_tellLaw_53, hkK12, wi_f, wi_g, wc_f, ff_s, ff_l, su_f]
set_option maxHeartbeats 1000000 in
theorem ll_X12_tellLaw_38 {fu : Nat} {K12 : Int32 → Int32 → Int32 → fl_I → fl_L → fl_I × fl_L} {x1 : Int32} {x2 : Int32} {x3 : Int32} {s : fl_I} {l : fl_L}  {cq cj : Nat}  (hkK12 : ∀ (k0 : Int32) (k1 : Int32) (k2 : Int32) (k3 : fl_I) (k4 : fl_L), (K12 k0 k1 k2 k3 k4).2 cq cj = k4 cq cj) : (f_X12_tellLaw_38 fu K12 x1 x2 x3 s l).2 cq cj = l cq cj := by
  unfold f_X12_tellLaw_38
  repeat' (with_reducible apply itP2)
  all_goals first | with_reducible rfl | simp (disch := first | assumption | omega) only [ll_X12_goesOn, ll_X12_tellLaw_53, hkK12, wl_f, wl_g, ff_l]
set_option maxHeartbeats 1000000 in
theorem fr_X12_tellLaw_12 {fu : Nat}   {cq cj : Nat} (h0 : ¬ (cq = 60 ∧ cj = 11)) (h1 : ¬ (cq = 60 ∧ cj = 12)) (h2 : ¬ (cq = 60 ∧ cj = 13)) (h3 : ¬ (cq = 60 ∧ cj = 14)) (h4 : ¬ (cq = 60 ∧ cj = 36)) (h5 : ¬ (cq = 60 ∧ cj = 42)) (h6 : ¬ (cq = 60 ∧ cj = 46)) (h7 : cq ≠ 82) (h8 : cq ≠ 83) (h9 : cq ≠ 84) (h10 : cq ≠ 85) (h11 : cq ≠ 86) (h12 : cq ≠ 87) (h13 : cq ≠ 88) (h14 : cq ≠ 89) (h15 : cq ≠ 90) (h16 : cq ≠ 91)  : ∀ (n : Nat) (x1 : Int32) (x2 : Int32) (x3 : Int32) (s : fl_I) (l : fl_L), (f_X12_tellLaw_12 fu n x1 x2 x3 s l).1 cq cj = s cq cj := by
  intro n; induction n with
  | zero => intro x1 x2 x3 s l; rfl
  | succ n ih =>
    intro x1 x2 x3 s l; unfold f_X12_tellLaw_12
    repeat' (with_reducible apply itP1)
    all_goals first | with_reducible rfl | with_reducible exact ih _ _ _ _ _ | simp (disch := first | assumption | omega | (intros; with_reducible exact ih _ _ _ _ _)) only [ih, fr_X12_fail, fr_X12_tellLaw_129, fr_X12_tellLaw_38, wi_f, wi_g, wc_f, ff_s, ff_l, su_f]
set_option maxHeartbeats 1000000 in
theorem ll_X12_tellLaw_12 {fu : Nat}   {cq cj : Nat}   : ∀ (n : Nat) (x1 : Int32) (x2 : Int32) (x3 : Int32) (s : fl_I) (l : fl_L), (f_X12_tellLaw_12 fu n x1 x2 x3 s l).2 cq cj = l cq cj := by
  intro n; induction n with
  | zero => intro x1 x2 x3 s l; rfl
  | succ n ih =>
    intro x1 x2 x3 s l; unfold f_X12_tellLaw_12
    repeat' (with_reducible apply itP2)
    all_goals first | with_reducible rfl | with_reducible exact ih _ _ _ _ _ | simp (disch := first | assumption | omega | (intros; with_reducible exact ih _ _ _ _ _)) only [ih, ll_X12_fail, ll_X12_tellLaw_129, ll_X12_tellLaw_38, wl_f, wl_g, ff_l]
set_option maxHeartbeats 1000000 in
theorem fr_X12_tellLaw_5 {fu : Nat} {x1 : Int32} {s : fl_I} {l : fl_L}  {cq cj : Nat} (h0 : ¬ (cq = 60 ∧ cj = 11)) (h1 : ¬ (cq = 60 ∧ cj = 12)) (h2 : ¬ (cq = 60 ∧ cj = 13)) (h3 : ¬ (cq = 60 ∧ cj = 14)) (h4 : ¬ (cq = 60 ∧ cj = 36)) (h5 : ¬ (cq = 60 ∧ cj = 42)) (h6 : ¬ (cq = 60 ∧ cj = 46)) (h7 : cq ≠ 82) (h8 : cq ≠ 83) (h9 : cq ≠ 84) (h10 : cq ≠ 85) (h11 : cq ≠ 86) (h12 : cq ≠ 87) (h13 : cq ≠ 88) (h14 : cq ≠ 89) (h15 : cq ≠ 90) (h16 : cq ≠ 91)  : (f_X12_tellLaw_5 fu x1 s l).1 cq cj = s cq cj := by
  unfold f_X12_tellLaw_5
  repeat' (with_reducible apply itP1)
  all_goals first | with_reducible rfl | simp (disch := first | assumption | omega) only [fr_X12_tellLaw_12, wi_f, wi_g, wc_f, ff_s, ff_l, su_f]
set_option maxHeartbeats 1000000 in
theorem ll_X12_tellLaw_5 {fu : Nat} {x1 : Int32} {s : fl_I} {l : fl_L}  {cq cj : Nat}   : (f_X12_tellLaw_5 fu x1 s l).2 cq cj = l cq cj := by
  unfold f_X12_tellLaw_5
  repeat' (with_reducible apply itP2)
  all_goals first | with_reducible rfl | simp (disch := first | assumption | omega) only [ll_X12_tellLaw_12, wl_f, wl_g, ff_l]
set_option maxHeartbeats 1000000 in
theorem fr_X12_tellLaw {fu : Nat} {v0 : Int32} {s : fl_I} {l : fl_L}  {cq cj : Nat} (h0 : ¬ (cq = 60 ∧ cj = 11)) (h1 : ¬ (cq = 60 ∧ cj = 12)) (h2 : ¬ (cq = 60 ∧ cj = 13)) (h3 : ¬ (cq = 60 ∧ cj = 14)) (h4 : ¬ (cq = 60 ∧ cj = 36)) (h5 : ¬ (cq = 60 ∧ cj = 42)) (h6 : ¬ (cq = 60 ∧ cj = 46)) (h7 : cq ≠ 82) (h8 : cq ≠ 83) (h9 : cq ≠ 84) (h10 : cq ≠ 85) (h11 : cq ≠ 86) (h12 : cq ≠ 87) (h13 : cq ≠ 88) (h14 : cq ≠ 89) (h15 : cq ≠ 90) (h16 : cq ≠ 91)  : (f_X12_tellLaw fu v0 s l).1 cq cj = s cq cj := by
  unfold f_X12_tellLaw
  repeat' (with_reducible apply itP1)
  all_goals first | with_reducible rfl | simp (disch := first | assumption | omega) only [fr_X12_must, fr_X12_tellLaw_5, wi_f, wi_g, wc_f, ff_s, ff_l, su_f]
set_option maxHeartbeats 1000000 in
theorem ll_X12_tellLaw {fu : Nat} {v0 : Int32} {s : fl_I} {l : fl_L}  {cq cj : Nat}   : (f_X12_tellLaw fu v0 s l).2 cq cj = l cq cj := by
  unfold f_X12_tellLaw
  repeat' (with_reducible apply itP2)
  all_goals first | with_reducible rfl | simp (disch := first | assumption | omega) only [ll_X12_must, ll_X12_tellLaw_5, wl_f, wl_g, ff_l]
set_option maxHeartbeats 1000000 in
theorem fr_X12_tellOne_349 {fu : Nat} {s : fl_I} {l : fl_L}  {cq cj : Nat}   : (f_X12_tellOne_349 fu s l).1 cq cj = s cq cj := by
  unfold f_X12_tellOne_349
  repeat' (with_reducible apply itP1)
  all_goals first | with_reducible rfl | simp (disch := first | assumption | omega) only [wi_f, wi_g, wc_f, ff_s, ff_l, su_f]
set_option maxHeartbeats 1000000 in
theorem ll_X12_tellOne_349 {fu : Nat} {s : fl_I} {l : fl_L}    : (f_X12_tellOne_349 fu s l).2 = l := by
  unfold f_X12_tellOne_349
  repeat' (with_reducible apply itP3)
  all_goals first | with_reducible rfl | simp (disch := first | assumption | omega) only [ff_l]
set_option maxHeartbeats 1000000 in
theorem fr_X12_tellOne_85 {fu : Nat} {s : fl_I} {l : fl_L}  {cq cj : Nat}   : (f_X12_tellOne_85 fu s l).1 cq cj = s cq cj := by
  unfold f_X12_tellOne_85
  repeat' (with_reducible apply itP1)
  all_goals first | with_reducible rfl | simp (disch := first | assumption | omega) only [fr_X12_tellOne_349, wi_f, wi_g, wc_f, ff_s, ff_l, su_f]
set_option maxHeartbeats 1000000 in
theorem ll_X12_tellOne_85 {fu : Nat} {s : fl_I} {l : fl_L}    : (f_X12_tellOne_85 fu s l).2 = l := by
  unfold f_X12_tellOne_85
  repeat' (with_reducible apply itP3)
  all_goals first | with_reducible rfl | simp (disch := first | assumption | omega) only [ll_X12_tellOne_349, ff_l]
set_option maxHeartbeats 1000000 in
theorem fr_X12_tellOne_74 {fu : Nat} {s : fl_I} {l : fl_L}  {cq cj : Nat} (h0 : ¬ (cq = 60 ∧ cj = 11)) (h1 : ¬ (cq = 60 ∧ cj = 13)) (h2 : ¬ (cq = 60 ∧ cj = 14)) (h3 : ¬ (cq = 60 ∧ cj = 15)) (h4 : ¬ (cq = 60 ∧ cj = 16)) (h5 : cq ≠ 68) (h6 : cq ≠ 70) (h7 : cq ≠ 71)  : (f_X12_tellOne_74 fu s l).1 cq cj = s cq cj := by
  unfold f_X12_tellOne_74
  repeat' (with_reducible apply itP1)
  all_goals first | with_reducible rfl | simp (disch := first | assumption | omega) only [fr_X12_tellLetter, fr_X12_tellOne_349, fr_X12_tellOne_85, wi_f, wi_g, wc_f, ff_s, ff_l, su_f]
set_option maxHeartbeats 1000000 in
theorem ll_X12_tellOne_74 {fu : Nat} {s : fl_I} {l : fl_L}  {cq cj : Nat} (h0 : cq ≠ 69)  : (f_X12_tellOne_74 fu s l).2 cq cj = l cq cj := by
  unfold f_X12_tellOne_74
  repeat' (with_reducible apply itP2)
  all_goals first | with_reducible rfl | simp (disch := first | assumption | omega) only [ll_X12_tellLetter, ll_X12_tellOne_349, ll_X12_tellOne_85, wl_f, wl_g, ff_l]
set_option maxHeartbeats 1000000 in
theorem fr_X12_tellOne_162 {fu : Nat} {s : fl_I} {l : fl_L}  {cq cj : Nat} (h0 : cq ≠ 72)  : (f_X12_tellOne_162 fu s l).1 cq cj = s cq cj := by
  unfold f_X12_tellOne_162
  repeat' (with_reducible apply itP1)
  all_goals first | with_reducible rfl | simp (disch := first | assumption | omega) only [fr_X12_tellOne_349, wi_f, wi_g, wc_f, ff_s, ff_l, su_f]
set_option maxHeartbeats 1000000 in
theorem ll_X12_tellOne_162 {fu : Nat} {s : fl_I} {l : fl_L}    : (f_X12_tellOne_162 fu s l).2 = l := by
  unfold f_X12_tellOne_162
  repeat' (with_reducible apply itP3)
  all_goals first | with_reducible rfl | simp (disch := first | assumption | omega) only [ll_X12_tellOne_349, ff_l]
set_option maxHeartbeats 1000000 in
theorem fr_X12_tellOne_156 {fu : Nat} {y1 : Int32} {y2 : Int64} {s : fl_I} {l : fl_L}  {cq cj : Nat} (h0 : ¬ (cq = 60 ∧ cj = 11)) (h1 : ¬ (cq = 60 ∧ cj = 13)) (h2 : ¬ (cq = 60 ∧ cj = 14)) (h3 : cq ≠ 72)  : (f_X12_tellOne_156 fu y1 y2 s l).1 cq cj = s cq cj := by
  unfold f_X12_tellOne_156
  repeat' (with_reducible apply itP1)
  all_goals first | with_reducible rfl | simp (disch := first | assumption | omega) only [fr_X12_must, fr_X12_tellOne_162, wi_f, wi_g, wc_f, ff_s, ff_l, su_f]
set_option maxHeartbeats 1000000 in
theorem ll_X12_tellOne_156 {fu : Nat} {y1 : Int32} {y2 : Int64} {s : fl_I} {l : fl_L}  {cq cj : Nat} (h0 : cq ≠ 73)  : (f_X12_tellOne_156 fu y1 y2 s l).2 cq cj = l cq cj := by
  unfold f_X12_tellOne_156
  repeat' (with_reducible apply itP2)
  all_goals first | with_reducible rfl | simp (disch := first | assumption | omega) only [ll_X12_must, ll_X12_tellOne_162, wl_f, wl_g, ff_l]
set_option maxHeartbeats 1000000 in
theorem fr_X12_tellOne_103 {fu : Nat} {s : fl_I} {l : fl_L}  {cq cj : Nat} (h0 : ¬ (cq = 60 ∧ cj = 11)) (h1 : ¬ (cq = 60 ∧ cj = 13)) (h2 : ¬ (cq = 60 ∧ cj = 14)) (h3 : ¬ (cq = 60 ∧ cj = 15)) (h4 : ¬ (cq = 60 ∧ cj = 16)) (h5 : cq ≠ 72)  : (f_X12_tellOne_103 fu s l).1 cq cj = s cq cj := by
  unfold f_X12_tellOne_103
  repeat' (with_reducible apply itP1)
  all_goals first | with_reducible rfl | simp (disch := first | assumption | omega) only [fr_X12_named, fr_X12_tellOne_156, wi_f, wi_g, wc_f, ff_s, ff_l, su_f]
set_option maxHeartbeats 1000000 in
theorem ll_X12_tellOne_103 {fu : Nat} {s : fl_I} {l : fl_L}  {cq cj : Nat} (h0 : cq ≠ 73)  : (f_X12_tellOne_103 fu s l).2 cq cj = l cq cj := by
  unfold f_X12_tellOne_103
  repeat' (with_reducible apply itP2)
  all_goals first | with_reducible rfl | simp (disch := first | assumption | omega) only [ll_X12_named, ll_X12_tellOne_156, wl_f, wl_g, ff_l]
set_option maxHeartbeats 1000000 in
theorem fr_X12_tellOne_210 {fu : Nat} {s : fl_I} {l : fl_L}  {cq cj : Nat}   : (f_X12_tellOne_210 fu s l).1 cq cj = s cq cj := by
  unfold f_X12_tellOne_210
  repeat' (with_reducible apply itP1)
  all_goals first | with_reducible rfl | simp (disch := first | assumption | omega) only [fr_X12_tellOne_349, wi_f, wi_g, wc_f, ff_s, ff_l, su_f]
set_option maxHeartbeats 1000000 in
theorem ll_X12_tellOne_210 {fu : Nat} {s : fl_I} {l : fl_L}    : (f_X12_tellOne_210 fu s l).2 = l := by
  unfold f_X12_tellOne_210
  repeat' (with_reducible apply itP3)
  all_goals first | with_reducible rfl | simp (disch := first | assumption | omega) only [ll_X12_tellOne_349, ff_l]
set_option maxHeartbeats 1000000 in
theorem fr_X12_tellOne_199 {fu : Nat} {s : fl_I} {l : fl_L}  {cq cj : Nat} (h0 : ¬ (cq = 60 ∧ cj = 11)) (h1 : ¬ (cq = 60 ∧ cj = 13)) (h2 : ¬ (cq = 60 ∧ cj = 14)) (h3 : ¬ (cq = 60 ∧ cj = 15)) (h4 : ¬ (cq = 60 ∧ cj = 16)) (h5 : cq ≠ 74) (h6 : cq ≠ 76) (h7 : cq ≠ 77) (h8 : cq ≠ 78)  : (f_X12_tellOne_199 fu s l).1 cq cj = s cq cj := by
  unfold f_X12_tellOne_199
  repeat' (with_reducible apply itP1)
  all_goals first | with_reducible rfl | simp (disch := first | assumption | omega) only [fr_X12_tellOne_210, fr_X12_tellOne_349, fr_X12_tellPicker, wi_f, wi_g, wc_f, ff_s, ff_l, su_f]
set_option maxHeartbeats 1000000 in
theorem ll_X12_tellOne_199 {fu : Nat} {s : fl_I} {l : fl_L}  {cq cj : Nat} (h0 : cq ≠ 75)  : (f_X12_tellOne_199 fu s l).2 cq cj = l cq cj := by
  unfold f_X12_tellOne_199
  repeat' (with_reducible apply itP2)
  all_goals first | with_reducible rfl | simp (disch := first | assumption | omega) only [ll_X12_tellOne_210, ll_X12_tellOne_349, ll_X12_tellPicker, wl_f, wl_g, ff_l]
set_option maxHeartbeats 1000000 in
theorem fr_X12_tellOne_344 {fu : Nat} {x1 : Int32} {s : fl_I} {l : fl_L}  {cq cj : Nat} (h0 : ¬ (cq = 60 ∧ cj = 11)) (h1 : ¬ (cq = 60 ∧ cj = 12)) (h2 : ¬ (cq = 60 ∧ cj = 13)) (h3 : ¬ (cq = 60 ∧ cj = 14)) (h4 : ¬ (cq = 60 ∧ cj = 36)) (h5 : ¬ (cq = 60 ∧ cj = 42)) (h6 : ¬ (cq = 60 ∧ cj = 46)) (h7 : cq ≠ 82) (h8 : cq ≠ 83) (h9 : cq ≠ 84) (h10 : cq ≠ 85) (h11 : cq ≠ 86) (h12 : cq ≠ 87) (h13 : cq ≠ 88) (h14 : cq ≠ 89) (h15 : cq ≠ 90) (h16 : cq ≠ 91)  : (f_X12_tellOne_344 fu x1 s l).1 cq cj = s cq cj := by
  unfold f_X12_tellOne_344
  repeat' (with_reducible apply itP1)
  all_goals first | with_reducible rfl | simp (disch := first | assumption | omega) only [fr_X12_tellLaw, fr_X12_tellOne_349, wi_f, wi_g, wc_f, ff_s, ff_l, su_f]
set_option maxHeartbeats 1000000 in
theorem ll_X12_tellOne_344 {fu : Nat} {x1 : Int32} {s : fl_I} {l : fl_L}  {cq cj : Nat}   : (f_X12_tellOne_344 fu x1 s l).2 cq cj = l cq cj := by
  unfold f_X12_tellOne_344
  repeat' (with_reducible apply itP2)
  all_goals first | with_reducible rfl | simp (disch := first | assumption | omega) only [ll_X12_tellLaw, ll_X12_tellOne_349, wl_f, wl_g, ff_l]
set_option maxHeartbeats 1000000 in
theorem fr_X12_tellOne_332 {fu : Nat} {x1 : Int32} {s : fl_I} {l : fl_L}  {cq cj : Nat} (h0 : ¬ (cq = 60 ∧ cj = 11)) (h1 : ¬ (cq = 60 ∧ cj = 12)) (h2 : ¬ (cq = 60 ∧ cj = 13)) (h3 : ¬ (cq = 60 ∧ cj = 14)) (h4 : ¬ (cq = 60 ∧ cj = 36)) (h5 : ¬ (cq = 60 ∧ cj = 42)) (h6 : ¬ (cq = 60 ∧ cj = 46)) (h7 : cq ≠ 82) (h8 : cq ≠ 83) (h9 : cq ≠ 84) (h10 : cq ≠ 85) (h11 : cq ≠ 86) (h12 : cq ≠ 87) (h13 : cq ≠ 88) (h14 : cq ≠ 89) (h15 : cq ≠ 90) (h16 : cq ≠ 91)  : (f_X12_tellOne_332 fu x1 s l).1 cq cj = s cq cj := by
  unfold f_X12_tellOne_332
  repeat' (with_reducible apply itP1)
  all_goals first | with_reducible rfl | simp (disch := first | assumption | omega) only [fr_X12_goesOn, fr_X12_tellOne_344, wi_f, wi_g, wc_f, ff_s, ff_l, su_f]
set_option maxHeartbeats 1000000 in
theorem ll_X12_tellOne_332 {fu : Nat} {x1 : Int32} {s : fl_I} {l : fl_L}  {cq cj : Nat}   : (f_X12_tellOne_332 fu x1 s l).2 cq cj = l cq cj := by
  unfold f_X12_tellOne_332
  repeat' (with_reducible apply itP2)
  all_goals first | with_reducible rfl | simp (disch := first | assumption | omega) only [ll_X12_goesOn, ll_X12_tellOne_344, wl_f, wl_g, ff_l]
set_option maxHeartbeats 1000000 in
theorem fr_X12_tellOne_327 {fu : Nat} {x1 : Int32} {s : fl_I} {l : fl_L}  {cq cj : Nat} (h0 : ¬ (cq = 60 ∧ cj = 11)) (h1 : ¬ (cq = 60 ∧ cj = 12)) (h2 : ¬ (cq = 60 ∧ cj = 13)) (h3 : ¬ (cq = 60 ∧ cj = 14)) (h4 : ¬ (cq = 60 ∧ cj = 36)) (h5 : ¬ (cq = 60 ∧ cj = 42)) (h6 : ¬ (cq = 60 ∧ cj = 46)) (h7 : cq ≠ 82) (h8 : cq ≠ 83) (h9 : cq ≠ 84) (h10 : cq ≠ 85) (h11 : cq ≠ 86) (h12 : cq ≠ 87) (h13 : cq ≠ 88) (h14 : cq ≠ 89) (h15 : cq ≠ 90) (h16 : cq ≠ 91)  : (f_X12_tellOne_327 fu x1 s l).1 cq cj = s cq cj := by
  unfold f_X12_tellOne_327
  repeat' (with_reducible apply itP1)
  all_goals first | with_reducible rfl | simp (disch := first | assumption | omega) only [fr_X12_fail, fr_X12_tellOne_332, wi_f, wi_g, wc_f, ff_s, ff_l, su_f]
set_option maxHeartbeats 1000000 in
theorem ll_X12_tellOne_327 {fu : Nat} {x1 : Int32} {s : fl_I} {l : fl_L}  {cq cj : Nat}   : (f_X12_tellOne_327 fu x1 s l).2 cq cj = l cq cj := by
  unfold f_X12_tellOne_327
  repeat' (with_reducible apply itP2)
  all_goals first | with_reducible rfl | simp (disch := first | assumption | omega) only [ll_X12_fail, ll_X12_tellOne_332, wl_f, wl_g, ff_l]
set_option maxHeartbeats 1000000 in
theorem fr_X12_tellOne_254 {fu : Nat} {s : fl_I} {l : fl_L}  {cq cj : Nat}   : (f_X12_tellOne_254 fu s l).1 cq cj = s cq cj := by
  unfold f_X12_tellOne_254
  repeat' (with_reducible apply itP1)
  all_goals first | with_reducible rfl | simp (disch := first | assumption | omega) only [fr_X12_tellOne_349, wi_f, wi_g, wc_f, ff_s, ff_l, su_f]
set_option maxHeartbeats 1000000 in
theorem ll_X12_tellOne_254 {fu : Nat} {s : fl_I} {l : fl_L}    : (f_X12_tellOne_254 fu s l).2 = l := by
  unfold f_X12_tellOne_254
  repeat' (with_reducible apply itP3)
  all_goals first | with_reducible rfl | simp (disch := first | assumption | omega) only [ll_X12_tellOne_349, ff_l]
set_option maxHeartbeats 1000000 in
theorem fr_X12_tellOne_248 {fu : Nat} {y1 : Int32} {y2 : Int32} {s : fl_I} {l : fl_L}  {cq cj : Nat} (h0 : ¬ (cq = 60 ∧ cj = 11)) (h1 : ¬ (cq = 60 ∧ cj = 13)) (h2 : ¬ (cq = 60 ∧ cj = 14)) (h3 : cq ≠ 79)  : (f_X12_tellOne_248 fu y1 y2 s l).1 cq cj = s cq cj := by
  unfold f_X12_tellOne_248
  repeat' (with_reducible apply itP1)
  all_goals first | with_reducible rfl | simp (disch := first | assumption | omega) only [fr_X12_must, fr_X12_tellOne_254, wi_f, wi_g, wc_f, ff_s, ff_l, su_f]
set_option maxHeartbeats 1000000 in
theorem ll_X12_tellOne_248 {fu : Nat} {y1 : Int32} {y2 : Int32} {s : fl_I} {l : fl_L}    : (f_X12_tellOne_248 fu y1 y2 s l).2 = l := by
  unfold f_X12_tellOne_248
  repeat' (with_reducible apply itP3)
  all_goals first | with_reducible rfl | simp (disch := first | assumption | omega) only [ll_X12_must, ll_X12_tellOne_254, ff_l]
set_option maxHeartbeats 1000000 in
theorem fr_X12_tellOne_231 {fu : Nat} {y1 : Int32} {y2 : Int32} {s : fl_I} {l : fl_L}  {cq cj : Nat} (h0 : ¬ (cq = 60 ∧ cj = 11)) (h1 : ¬ (cq = 60 ∧ cj = 13)) (h2 : ¬ (cq = 60 ∧ cj = 14)) (h3 : ¬ (cq = 60 ∧ cj = 15)) (h4 : ¬ (cq = 60 ∧ cj = 16)) (h5 : cq ≠ 79)  : (f_X12_tellOne_231 fu y1 y2 s l).1 cq cj = s cq cj := by
  unfold f_X12_tellOne_231
  repeat' (with_reducible apply itP1)
  all_goals first | with_reducible rfl | simp (disch := first | assumption | omega) only [fr_X12_tellOne_248, fr_X12_toldStep, wi_f, wi_g, wc_f, ff_s, ff_l, su_f]
set_option maxHeartbeats 1000000 in
theorem ll_X12_tellOne_231 {fu : Nat} {y1 : Int32} {y2 : Int32} {s : fl_I} {l : fl_L}    : (f_X12_tellOne_231 fu y1 y2 s l).2 = l := by
  unfold f_X12_tellOne_231
  repeat' (with_reducible apply itP3)
  all_goals first | with_reducible rfl | simp (disch := first | assumption | omega) only [ll_X12_tellOne_248, ll_X12_toldStep, ff_l]
set_option maxHeartbeats 1000000 in
theorem fr_X12_tellOne_217 {fu : Nat} {s : fl_I} {l : fl_L}  {cq cj : Nat} (h0 : ¬ (cq = 60 ∧ cj = 11)) (h1 : ¬ (cq = 60 ∧ cj = 13)) (h2 : ¬ (cq = 60 ∧ cj = 14)) (h3 : ¬ (cq = 60 ∧ cj = 15)) (h4 : ¬ (cq = 60 ∧ cj = 16)) (h5 : cq ≠ 79)  : (f_X12_tellOne_217 fu s l).1 cq cj = s cq cj := by
  unfold f_X12_tellOne_217
  repeat' (with_reducible apply itP1)
  all_goals first | with_reducible rfl | simp (disch := first | assumption | omega) only [fr_X12_tellOne_231, fr_X12_toldStep, wi_f, wi_g, wc_f, ff_s, ff_l, su_f]
set_option maxHeartbeats 1000000 in
theorem ll_X12_tellOne_217 {fu : Nat} {s : fl_I} {l : fl_L}    : (f_X12_tellOne_217 fu s l).2 = l := by
  unfold f_X12_tellOne_217
  repeat' (with_reducible apply itP3)
  all_goals first | with_reducible rfl | simp (disch := first | assumption | omega) only [ll_X12_tellOne_231, ll_X12_toldStep, ff_l]
set_option maxHeartbeats 1000000 in
theorem fr_X12_tellOne_272 {fu : Nat} {y1 : Int32} {y2 : Int32} {s : fl_I} {l : fl_L}  {cq cj : Nat} (h0 : cq ≠ 80)  : (f_X12_tellOne_272 fu y1 y2 s l).1 cq cj = s cq cj := by
  unfold f_X12_tellOne_272
  repeat' (with_reducible apply itP1)
  all_goals first | with_reducible rfl | simp (disch := first | assumption | omega) only [fr_X12_tellOne_349, wi_f, wi_g, wc_f, ff_s, ff_l, su_f]
set_option maxHeartbeats 1000000 in
theorem ll_X12_tellOne_272 {fu : Nat} {y1 : Int32} {y2 : Int32} {s : fl_I} {l : fl_L}    : (f_X12_tellOne_272 fu y1 y2 s l).2 = l := by
  unfold f_X12_tellOne_272
  repeat' (with_reducible apply itP3)
  all_goals first | with_reducible rfl | simp (disch := first | assumption | omega) only [ll_X12_tellOne_349, ff_l]
set_option maxHeartbeats 1000000 in
theorem fr_X12_tellOne_292 {fu : Nat} {y1 : Int32} {y2 : Int32} {s : fl_I} {l : fl_L}  {cq cj : Nat} (h0 : cq ≠ 81)  : (f_X12_tellOne_292 fu y1 y2 s l).1 cq cj = s cq cj := by
  unfold f_X12_tellOne_292
  repeat' (with_reducible apply itP1)
  all_goals first | with_reducible rfl | simp (disch := first | assumption | omega) only [fr_X12_tellOne_349, wi_f, wi_g, wc_f, ff_s, ff_l, su_f]
set_option maxHeartbeats 1000000 in
theorem ll_X12_tellOne_292 {fu : Nat} {y1 : Int32} {y2 : Int32} {s : fl_I} {l : fl_L}    : (f_X12_tellOne_292 fu y1 y2 s l).2 = l := by
  unfold f_X12_tellOne_292
  repeat' (with_reducible apply itP3)
  all_goals first | with_reducible rfl | simp (disch := first | assumption | omega) only [ll_X12_tellOne_349, ff_l]
set_option maxHeartbeats 1000000 in
theorem fr_X12_tellOne {fu : Nat} {s : fl_I} {l : fl_L}  {cq cj : Nat} (h0 : ¬ (cq = 60 ∧ cj = 11)) (h1 : ¬ (cq = 60 ∧ cj = 12)) (h2 : ¬ (cq = 60 ∧ cj = 13)) (h3 : ¬ (cq = 60 ∧ cj = 14)) (h4 : ¬ (cq = 60 ∧ cj = 15)) (h5 : ¬ (cq = 60 ∧ cj = 16)) (h6 : ¬ (cq = 60 ∧ cj = 36)) (h7 : ¬ (cq = 60 ∧ cj = 42)) (h8 : ¬ (cq = 60 ∧ cj = 46)) (h9 : cq ≠ 68) (h10 : cq ≠ 70) (h11 : cq ≠ 71) (h12 : cq ≠ 72) (h13 : cq ≠ 74) (h14 : cq ≠ 76) (h15 : cq ≠ 77) (h16 : cq ≠ 78) (h17 : cq ≠ 79) (h18 : cq ≠ 80) (h19 : cq ≠ 81) (h20 : cq ≠ 82) (h21 : cq ≠ 83) (h22 : cq ≠ 84) (h23 : cq ≠ 85) (h24 : cq ≠ 86) (h25 : cq ≠ 87) (h26 : cq ≠ 88) (h27 : cq ≠ 89) (h28 : cq ≠ 90) (h29 : cq ≠ 91)  : (f_X12_tellOne fu s l).1 cq cj = s cq cj := by
  unfold f_X12_tellOne
  repeat' (with_reducible apply itP1)
  all_goals first | with_reducible rfl | simp (disch := first | assumption | omega) only [fr_X12_goesOn, fr_X12_roomFor, fr_X12_tellOne_103, fr_X12_tellOne_199, fr_X12_tellOne_217, fr_X12_tellOne_272, fr_X12_tellOne_292, fr_X12_tellOne_327, fr_X12_tellOne_332, fr_X12_tellOne_74, fr_X12_toldInt, wi_f, wi_g, wc_f, ff_s, ff_l, su_f]
set_option maxHeartbeats 1000000 in
theorem ll_X12_tellOne {fu : Nat} {s : fl_I} {l : fl_L}  {cq cj : Nat} (h0 : cq ≠ 69) (h1 : cq ≠ 73) (h2 : cq ≠ 75)  : (f_X12_tellOne fu s l).2 cq cj = l cq cj := by
  unfold f_X12_tellOne
  repeat' (with_reducible apply itP2)
  all_goals first | with_reducible rfl | simp (disch := first | assumption | omega) only [ll_X12_goesOn, ll_X12_roomFor, ll_X12_tellOne_103, ll_X12_tellOne_199, ll_X12_tellOne_217, ll_X12_tellOne_272, ll_X12_tellOne_292, ll_X12_tellOne_327, ll_X12_tellOne_332, ll_X12_tellOne_74, ll_X12_toldInt, wl_f, wl_g, ff_l]
set_option maxHeartbeats 1000000 in
theorem fr_X0_lacks {fu : Nat} {v0 : Int64} {s : fl_I} {l : fl_L}  {cq cj : Nat} (h0 : cq ≠ 56)  : (f_X0_lacks fu v0 s l).2.1 cq cj = s cq cj := by
  unfold f_X0_lacks
  repeat' (with_reducible apply itT1)
  all_goals first | with_reducible rfl | simp (disch := first | assumption | omega) only [fr_X0_putBack, fr_X0_takeOut, wi_f, wi_g, wc_f, ff_s, ff_l, su_f]
set_option maxHeartbeats 1000000 in
theorem ll_X0_lacks {fu : Nat} {v0 : Int64} {s : fl_I} {l : fl_L}    : (f_X0_lacks fu v0 s l).2.2 = l := by
  unfold f_X0_lacks
  repeat' (with_reducible apply itT3)
  all_goals first | with_reducible rfl | simp (disch := first | assumption | omega) only [ll_X0_putBack, ll_X0_takeOut, ff_l]
set_option maxHeartbeats 1000000 in
theorem fr_X12_takesOf {fu : Nat} {v0 : Int32} {s : fl_I} {l : fl_L}  {cq cj : Nat} (h0 : ¬ (cq = 60 ∧ cj = 49)) (h1 : cq ≠ 92) (h2 : cq ≠ 93)  : (f_X12_takesOf fu v0 s l).2.1 cq cj = s cq cj := by
  unfold f_X12_takesOf
  repeat' (with_reducible apply itT1)
  all_goals first | with_reducible rfl | simp (disch := first | assumption | omega) only [fr_X12_lawTells, fr_X12_looksAt, wi_f, wi_g, wc_f, ff_s, ff_l, su_f]
set_option maxHeartbeats 1000000 in
theorem ll_X12_takesOf {fu : Nat} {v0 : Int32} {s : fl_I} {l : fl_L}  {cq cj : Nat}   : (f_X12_takesOf fu v0 s l).2.2 cq cj = l cq cj := by
  unfold f_X12_takesOf
  repeat' (with_reducible apply itT2)
  all_goals first | with_reducible rfl | simp (disch := first | assumption | omega) only [ll_X12_lawTells, ll_X12_looksAt, wl_f, wl_g, ff_l]
set_option maxHeartbeats 1000000 in
theorem fr_X12_isBlown {fu : Nat} {v0 : Int32} {s : fl_I} {l : fl_L}  {cq cj : Nat} (h0 : ¬ (cq = 60 ∧ cj = 49)) (h1 : cq ≠ 92) (h2 : cq ≠ 93)  : (f_X12_isBlown fu v0 s l).2.1 cq cj = s cq cj := by
  unfold f_X12_isBlown
  repeat' (with_reducible apply itT1)
  all_goals first | with_reducible rfl | simp (disch := first | assumption | omega) only [fr_X12_lawTells, fr_X12_looksAt, wi_f, wi_g, wc_f, ff_s, ff_l, su_f]
set_option maxHeartbeats 1000000 in
theorem ll_X12_isBlown {fu : Nat} {v0 : Int32} {s : fl_I} {l : fl_L}  {cq cj : Nat}   : (f_X12_isBlown fu v0 s l).2.2 cq cj = l cq cj := by
  unfold f_X12_isBlown
  repeat' (with_reducible apply itT2)
  all_goals first | with_reducible rfl | simp (disch := first | assumption | omega) only [ll_X12_lawTells, ll_X12_looksAt, wl_f, wl_g, ff_l]
