set_option maxHeartbeats 1000000 in
theorem fr_X9_lawOfPiece {fu : Nat} {v0 : Int32} {v3 : Int32} {t : Nat} {a : Nat} {s : fl_I} {l : fl_L}  {cq cj : Nat} (h0 : cq ≠ 48) (h1 : cq ≠ 49)  : (f_X9_lawOfPiece fu v0 v3 t a s l).2.1 cq cj = s cq cj := by
  unfold f_X9_lawOfPiece
  repeat' (with_reducible apply itT1)
  all_goals first | with_reducible rfl | simp (disch := first | assumption | omega) only [fr_X1_ofPiece, wi_f, wi_g, wc_f, ff_s, ff_l, su_f]
set_option maxHeartbeats 1000000 in
theorem ll_X9_lawOfPiece {fu : Nat} {v0 : Int32} {v3 : Int32} {t : Nat} {a : Nat} {s : fl_I} {l : fl_L}  {cq cj : Nat}   : (f_X9_lawOfPiece fu v0 v3 t a s l).2.2 cq cj = l cq cj := by
  unfold f_X9_lawOfPiece
  repeat' (with_reducible apply itT2)
  all_goals first | with_reducible rfl | simp (disch := first | assumption | omega) only [ll_X1_ofPiece, wl_f, wl_g, ff_l]
set_option maxHeartbeats 1000000 in
theorem fr_X12_lossNow_4 {fu : Nat}   {cq cj : Nat} (h0 : ¬ (cq = 60 ∧ cj = 49)) (h1 : cq ≠ 92) (h2 : cq ≠ 93)  : ∀ (n : Nat) (x1 : Int32) (x2 : Int32) (s : fl_I) (l : fl_L), (f_X12_lossNow_4 fu n x1 x2 s l).2.1 cq cj = s cq cj := by
  intro n; induction n with
  | zero => intro x1 x2 s l; rfl
  | succ n ih =>
    intro x1 x2 s l; unfold f_X12_lossNow_4
    repeat' (with_reducible apply itT1)
    all_goals first | with_reducible rfl | with_reducible exact ih _ _ _ _ | simp (disch := first | assumption | omega | (intros; with_reducible exact ih _ _ _ _)) only [ih, fr_X12_takesOf, wi_f, wi_g, wc_f, ff_s, ff_l, su_f]
set_option maxHeartbeats 1000000 in
theorem ll_X12_lossNow_4 {fu : Nat}   {cq cj : Nat}   : ∀ (n : Nat) (x1 : Int32) (x2 : Int32) (s : fl_I) (l : fl_L), (f_X12_lossNow_4 fu n x1 x2 s l).2.2 cq cj = l cq cj := by
  intro n; induction n with
  | zero => intro x1 x2 s l; rfl
  | succ n ih =>
    intro x1 x2 s l; unfold f_X12_lossNow_4
    repeat' (with_reducible apply itT2)
    all_goals first | with_reducible rfl | with_reducible exact ih _ _ _ _ | simp (disch := first | assumption | omega | (intros; with_reducible exact ih _ _ _ _)) only [ih, ll_X12_takesOf, wl_f, wl_g, ff_l]
set_option maxHeartbeats 1000000 in
theorem fr_X12_lossNow {fu : Nat} {s : fl_I} {l : fl_L}  {cq cj : Nat} (h0 : ¬ (cq = 60 ∧ cj = 49)) (h1 : cq ≠ 92) (h2 : cq ≠ 93)  : (f_X12_lossNow fu s l).2.1 cq cj = s cq cj := by
  unfold f_X12_lossNow
  repeat' (with_reducible apply itT1)
  all_goals first | with_reducible rfl | simp (disch := first | assumption | omega) only [fr_X12_lossNow_4, wi_f, wi_g, wc_f, ff_s, ff_l, su_f]
set_option maxHeartbeats 1000000 in
theorem ll_X12_lossNow {fu : Nat} {s : fl_I} {l : fl_L}  {cq cj : Nat}   : (f_X12_lossNow fu s l).2.2 cq cj = l cq cj := by
  unfold f_X12_lossNow
  repeat' (with_reducible apply itT2)
  all_goals first | with_reducible rfl | simp (disch := first | assumption | omega) only [ll_X12_lossNow_4, wl_f, wl_g, ff_l]
set_option maxHeartbeats 1000000 in
theorem fr_X0_makes_4 {fu : Nat}  {t : Nat} {cq cj : Nat} (h0 : cq ≠ 56)  : ∀ (n : Nat) (x2 : Int32) (x3 : Int32) (s : fl_I) (l : fl_L), (f_X0_makes_4 fu n x2 x3 t s l).2.1 cq cj = s cq cj := by
  intro n; induction n with
  | zero => intro x2 x3 s l; rfl
  | succ n ih =>
    intro x2 x3 s l; unfold f_X0_makes_4
    repeat' (with_reducible apply itT1)
    all_goals first | with_reducible rfl | with_reducible exact ih _ _ _ _ | simp (disch := first | assumption | omega | (intros; with_reducible exact ih _ _ _ _)) only [ih, fr_X0_lacks, wi_f, wi_g, wc_f, ff_s, ff_l, su_f]
set_option maxHeartbeats 1000000 in
theorem ll_X0_makes_4 {fu : Nat}  {t : Nat}   : ∀ (n : Nat) (x2 : Int32) (x3 : Int32) (s : fl_I) (l : fl_L), (f_X0_makes_4 fu n x2 x3 t s l).2.2 = l := by
  intro n; induction n with
  | zero => intro x2 x3 s l; rfl
  | succ n ih =>
    intro x2 x3 s l; unfold f_X0_makes_4
    repeat' (with_reducible apply itT3)
    all_goals first | with_reducible rfl | with_reducible exact ih _ _ _ _ | simp (disch := first | assumption | omega | (intros; with_reducible exact ih _ _ _ _)) only [ih, ll_X0_lacks, ff_l]
set_option maxHeartbeats 1000000 in
theorem fr_X0_makes {fu : Nat} {t : Nat} {s : fl_I} {l : fl_L}  {cq cj : Nat} (h0 : cq ≠ 56)  : (f_X0_makes fu t s l).2.1 cq cj = s cq cj := by
  unfold f_X0_makes
  repeat' (with_reducible apply itT1)
  all_goals first | with_reducible rfl | simp (disch := first | assumption | omega) only [fr_X0_makes_4, wi_f, wi_g, wc_f, ff_s, ff_l, su_f]
set_option maxHeartbeats 1000000 in
theorem ll_X0_makes {fu : Nat} {t : Nat} {s : fl_I} {l : fl_L}    : (f_X0_makes fu t s l).2.2 = l := by
  unfold f_X0_makes
  repeat' (with_reducible apply itT3)
  all_goals first | with_reducible rfl | simp (disch := first | assumption | omega) only [ll_X0_makes_4, ff_l]
set_option maxHeartbeats 1000000 in
theorem fr_X0_mostAtOnce_4 {fu : Nat}  {t : Nat} {cq cj : Nat} (h0 : cq ≠ 56)  : ∀ (n : Nat) (x2 : Int32) (x3 : Int32) (s : fl_I) (l : fl_L), (f_X0_mostAtOnce_4 fu n x2 x3 t s l).2.1 cq cj = s cq cj := by
  intro n; induction n with
  | zero => intro x2 x3 s l; rfl
  | succ n ih =>
    intro x2 x3 s l; unfold f_X0_mostAtOnce_4
    repeat' (with_reducible apply itT1)
    all_goals first | with_reducible rfl | with_reducible exact ih _ _ _ _ | simp (disch := first | assumption | omega | (intros; with_reducible exact ih _ _ _ _)) only [ih, fr_X0_makesAtOnce, wi_f, wi_g, wc_f, ff_s, ff_l, su_f]
set_option maxHeartbeats 1000000 in
theorem ll_X0_mostAtOnce_4 {fu : Nat}  {t : Nat}   : ∀ (n : Nat) (x2 : Int32) (x3 : Int32) (s : fl_I) (l : fl_L), (f_X0_mostAtOnce_4 fu n x2 x3 t s l).2.2 = l := by
  intro n; induction n with
  | zero => intro x2 x3 s l; rfl
  | succ n ih =>
    intro x2 x3 s l; unfold f_X0_mostAtOnce_4
    repeat' (with_reducible apply itT3)
    all_goals first | with_reducible rfl | with_reducible exact ih _ _ _ _ | simp (disch := first | assumption | omega | (intros; with_reducible exact ih _ _ _ _)) only [ih, ll_X0_makesAtOnce, ff_l]
set_option maxHeartbeats 1000000 in
theorem fr_X0_mostAtOnce {fu : Nat} {t : Nat} {s : fl_I} {l : fl_L}  {cq cj : Nat} (h0 : cq ≠ 56)  : (f_X0_mostAtOnce fu t s l).2.1 cq cj = s cq cj := by
  unfold f_X0_mostAtOnce
  repeat' (with_reducible apply itT1)
  all_goals first | with_reducible rfl | simp (disch := first | assumption | omega) only [fr_X0_mostAtOnce_4, wi_f, wi_g, wc_f, ff_s, ff_l, su_f]
set_option maxHeartbeats 1000000 in
theorem ll_X0_mostAtOnce {fu : Nat} {t : Nat} {s : fl_I} {l : fl_L}    : (f_X0_mostAtOnce fu t s l).2.2 = l := by
  unfold f_X0_mostAtOnce
  repeat' (with_reducible apply itT3)
  all_goals first | with_reducible rfl | simp (disch := first | assumption | omega) only [ll_X0_mostAtOnce_4, ff_l]
set_option maxHeartbeats 1000000 in
theorem fr_X9_owed_6 {fu : Nat}  {t : Nat} {a : Nat} {cq cj : Nat} (h0 : cq ≠ 48) (h1 : cq ≠ 49)  : ∀ (n : Nat) (x3 : Int32) (x4 : Int32) (x5 : Int32) (s : fl_I) (l : fl_L), (f_X9_owed_6 fu n x3 x4 x5 t a s l).2.1 cq cj = s cq cj := by
  intro n; induction n with
  | zero => intro x3 x4 x5 s l; rfl
  | succ n ih =>
    intro x3 x4 x5 s l; unfold f_X9_owed_6
    repeat' (with_reducible apply itT1)
    all_goals first | with_reducible rfl | with_reducible exact ih _ _ _ _ _ | simp (disch := first | assumption | omega | (intros; with_reducible exact ih _ _ _ _ _)) only [ih, fr_X1_pays, wi_f, wi_g, wc_f, ff_s, ff_l, su_f]
set_option maxHeartbeats 1000000 in
theorem ll_X9_owed_6 {fu : Nat}  {t : Nat} {a : Nat} {cq cj : Nat}   : ∀ (n : Nat) (x3 : Int32) (x4 : Int32) (x5 : Int32) (s : fl_I) (l : fl_L), (f_X9_owed_6 fu n x3 x4 x5 t a s l).2.2 cq cj = l cq cj := by
  intro n; induction n with
  | zero => intro x3 x4 x5 s l; rfl
  | succ n ih =>
    intro x3 x4 x5 s l; unfold f_X9_owed_6
    repeat' (with_reducible apply itT2)
    all_goals first | with_reducible rfl | with_reducible exact ih _ _ _ _ _ | simp (disch := first | assumption | omega | (intros; with_reducible exact ih _ _ _ _ _)) only [ih, ll_X1_pays, wl_f, wl_g, ff_l]
set_option maxHeartbeats 1000000 in
theorem fr_X9_owed {fu : Nat} {v2 : Int32} {t : Nat} {a : Nat} {s : fl_I} {l : fl_L}  {cq cj : Nat} (h0 : cq ≠ 48) (h1 : cq ≠ 49)  : (f_X9_owed fu v2 t a s l).2.1 cq cj = s cq cj := by
  unfold f_X9_owed
  repeat' (with_reducible apply itT1)
  all_goals first | with_reducible rfl | simp (disch := first | assumption | omega) only [fr_X9_owed_6, wi_f, wi_g, wc_f, ff_s, ff_l, su_f]
set_option maxHeartbeats 1000000 in
theorem ll_X9_owed {fu : Nat} {v2 : Int32} {t : Nat} {a : Nat} {s : fl_I} {l : fl_L}  {cq cj : Nat}   : (f_X9_owed fu v2 t a s l).2.2 cq cj = l cq cj := by
  unfold f_X9_owed
  repeat' (with_reducible apply itT2)
  all_goals first | with_reducible rfl | simp (disch := first | assumption | omega) only [ll_X9_owed_6, wl_f, wl_g, ff_l]
set_option maxHeartbeats 1000000 in
theorem fr_X11_together {fu : Nat} {v0 : Int32} {D : fl_D} {s : fl_I} {l : fl_L}  {cq cj : Nat} (h0 : cq ≠ 56)  : (f_X11_together fu v0 D s l).2.1 cq cj = s cq cj := by
  unfold f_X11_together
  repeat' (with_reducible apply itT1)
  all_goals first | with_reducible rfl | simp (disch := first | assumption | omega) only [fr_X0_gather, fr_X0_mostAtOnce, wi_f, wi_g, wc_f, ff_s, ff_l, su_f]
set_option maxHeartbeats 1000000 in
theorem ll_X11_together {fu : Nat} {v0 : Int32} {D : fl_D} {s : fl_I} {l : fl_L}    : (f_X11_together fu v0 D s l).2.2 = l := by
  unfold f_X11_together
  repeat' (with_reducible apply itT3)
  all_goals first | with_reducible rfl | simp (disch := first | assumption | omega) only [ll_X0_gather, ll_X0_mostAtOnce, ff_l]
set_option maxHeartbeats 1000000 in
theorem fr_X3_windTold {fu : Nat} {t : Nat} {s : fl_I} {l : fl_L}  {cq cj : Nat} (h0 : ¬ (cq = 3 ∧ cj = 0)) (h1 : ¬ (cq = 3 ∧ cj = 2)) (h2 : ¬ (cq = 3 ∧ cj = 3)) (h3 : ¬ (cq = 3 ∧ cj = 4)) (h4 : ¬ (cq = 3 ∧ cj = 5)) (h5 : ¬ (cq = 3 ∧ cj = 6)) (h6 : ¬ (cq = t ∧ cj = 15)) (h7 : ¬ (cq = t ∧ cj = 16))  : (f_X3_windTold fu t s l).2.1 cq cj = s cq cj := by
  unfold f_X3_windTold
  repeat' (with_reducible apply itT1)
  all_goals first | with_reducible rfl | simp (disch := first | assumption | omega) only [fr_X3_take, fr_X3_takeStep, wi_f, wi_g, wc_f, ff_s, ff_l, su_f]
set_option maxHeartbeats 1000000 in
theorem ll_X3_windTold {fu : Nat} {t : Nat} {s : fl_I} {l : fl_L}    : (f_X3_windTold fu t s l).2.2 = l := by
  unfold f_X3_windTold
  repeat' (with_reducible apply itT3)
  all_goals first | with_reducible rfl | simp (disch := first | assumption | omega) only [ll_X3_take, ll_X3_takeStep, ff_l]
set_option maxHeartbeats 1000000 in
theorem fr_X11_missing {fu : Nat} {v0 : Int32} {v1 : Int32} {D : fl_D} {s : fl_I} {l : fl_L}  {cq cj : Nat} (h0 : cq ≠ 56)  : (f_X11_missing fu v0 v1 D s l).2.1 cq cj = s cq cj := by
  unfold f_X11_missing
  repeat' (with_reducible apply itT1)
  all_goals first | with_reducible rfl | simp (disch := first | assumption | omega) only [fr_X0_gather, fr_X0_lacks, wi_f, wi_g, wc_f, ff_s, ff_l, su_f]
set_option maxHeartbeats 1000000 in
theorem ll_X11_missing {fu : Nat} {v0 : Int32} {v1 : Int32} {D : fl_D} {s : fl_I} {l : fl_L}    : (f_X11_missing fu v0 v1 D s l).2.2 = l := by
  unfold f_X11_missing
  repeat' (with_reducible apply itT3)
  all_goals first | with_reducible rfl | simp (disch := first | assumption | omega) only [ll_X0_gather, ll_X0_lacks, ff_l]
set_option maxHeartbeats 1000000 in
theorem fr_X9_goOn_3 {fu : Nat}  {t : Nat} {a : Nat} {cq cj : Nat} (h0 : cq ≠ 48) (h1 : cq ≠ 49) (h2 : cq ≠ 50) (h3 : cq ≠ (a + 1)) (h4 : cq ≠ (a + 2)) (h5 : cq ≠ (a + 3)) (h6 : cq ≠ (a + 4)) (h7 : cq ≠ (a + 5)) (h8 : ¬ (cq = a ∧ cj = 0))  : ∀ (n : Nat) (x3 : Int32) (x4 : Int32) (x5 : Int32) (s : fl_I) (l : fl_L), (f_X9_goOn_3 fu n x3 x4 x5 t a s l).1 cq cj = s cq cj := by
  intro n; induction n with
  | zero => intro x3 x4 x5 s l; rfl
  | succ n ih =>
    intro x3 x4 x5 s l; unfold f_X9_goOn_3
    repeat' (with_reducible apply itP1)
    all_goals first | with_reducible rfl | with_reducible exact ih _ _ _ _ _ | simp (disch := first | assumption | omega | (intros; with_reducible exact ih _ _ _ _ _)) only [ih, fr_X9_blow, fr_X9_lieOn, fr_X9_pickUp, fr_X9_walk, wi_f, wi_g, wc_f, ff_s, ff_l, su_f]
set_option maxHeartbeats 1000000 in
theorem ll_X9_goOn_3 {fu : Nat}  {t : Nat} {a : Nat} {cq cj : Nat}   : ∀ (n : Nat) (x3 : Int32) (x4 : Int32) (x5 : Int32) (s : fl_I) (l : fl_L), (f_X9_goOn_3 fu n x3 x4 x5 t a s l).2 cq cj = l cq cj := by
  intro n; induction n with
  | zero => intro x3 x4 x5 s l; rfl
  | succ n ih =>
    intro x3 x4 x5 s l; unfold f_X9_goOn_3
    repeat' (with_reducible apply itP2)
    all_goals first | with_reducible rfl | with_reducible exact ih _ _ _ _ _ | simp (disch := first | assumption | omega | (intros; with_reducible exact ih _ _ _ _ _)) only [ih, ll_X9_blow, ll_X9_lieOn, ll_X9_pickUp, ll_X9_walk, wl_f, wl_g, ff_l]
set_option maxHeartbeats 1000000 in
theorem fr_X9_goOn {fu : Nat} {v2 : Int32} {v3 : Int32} {t : Nat} {a : Nat} {s : fl_I} {l : fl_L}  {cq cj : Nat} (h0 : cq ≠ 48) (h1 : cq ≠ 49) (h2 : cq ≠ 50) (h3 : cq ≠ (a + 1)) (h4 : cq ≠ (a + 2)) (h5 : cq ≠ (a + 3)) (h6 : cq ≠ (a + 4)) (h7 : cq ≠ (a + 5)) (h8 : ¬ (cq = a ∧ cj = 0))  : (f_X9_goOn fu v2 v3 t a s l).1 cq cj = s cq cj := by
  unfold f_X9_goOn
  repeat' (with_reducible apply itP1)
  all_goals first | with_reducible rfl | simp (disch := first | assumption | omega) only [fr_X9_goOn_3, wi_f, wi_g, wc_f, ff_s, ff_l, su_f]
set_option maxHeartbeats 1000000 in
theorem ll_X9_goOn {fu : Nat} {v2 : Int32} {v3 : Int32} {t : Nat} {a : Nat} {s : fl_I} {l : fl_L}  {cq cj : Nat}   : (f_X9_goOn fu v2 v3 t a s l).2 cq cj = l cq cj := by
  unfold f_X9_goOn
  repeat' (with_reducible apply itP2)
  all_goals first | with_reducible rfl | simp (disch := first | assumption | omega) only [ll_X9_goOn_3, wl_f, wl_g, ff_l]
set_option maxHeartbeats 1000000 in
theorem fr_X9_takesOfAll_13 {fu : Nat}  {t : Nat} {a : Nat} {cq cj : Nat} (h0 : cq ≠ 48) (h1 : cq ≠ 49)  : ∀ (n : Nat) (x3 : Int32) (x4 : Int32) (s : fl_I) (l : fl_L), (f_X9_takesOfAll_13 fu n x3 x4 t a s l).2.1 cq cj = s cq cj := by
  intro n; induction n with
  | zero => intro x3 x4 s l; rfl
  | succ n ih =>
    intro x3 x4 s l; unfold f_X9_takesOfAll_13
    repeat' (with_reducible apply itT1)
    all_goals first | with_reducible rfl | with_reducible exact ih _ _ _ _ | simp (disch := first | assumption | omega | (intros; with_reducible exact ih _ _ _ _)) only [ih, fr_X1_ofPiece, wi_f, wi_g, wc_f, ff_s, ff_l, su_f]
set_option maxHeartbeats 1000000 in
theorem ll_X9_takesOfAll_13 {fu : Nat}  {t : Nat} {a : Nat} {cq cj : Nat}   : ∀ (n : Nat) (x3 : Int32) (x4 : Int32) (s : fl_I) (l : fl_L), (f_X9_takesOfAll_13 fu n x3 x4 t a s l).2.2 cq cj = l cq cj := by
  intro n; induction n with
  | zero => intro x3 x4 s l; rfl
  | succ n ih =>
    intro x3 x4 s l; unfold f_X9_takesOfAll_13
    repeat' (with_reducible apply itT2)
    all_goals first | with_reducible rfl | with_reducible exact ih _ _ _ _ | simp (disch := first | assumption | omega | (intros; with_reducible exact ih _ _ _ _)) only [ih, ll_X1_ofPiece, wl_f, wl_g, ff_l]
set_option maxHeartbeats 1000000 in
theorem fr_X9_takesOfAll {fu : Nat} {t : Nat} {a : Nat} {s : fl_I} {l : fl_L}  {cq cj : Nat} (h0 : cq ≠ 48) (h1 : cq ≠ 49) (h2 : cq ≠ 50)  : (f_X9_takesOfAll fu t a s l).2.1 cq cj = s cq cj := by
  unfold f_X9_takesOfAll
  repeat' (with_reducible apply itT1)
  all_goals first | with_reducible rfl | simp (disch := first | assumption | omega) only [fr_X10_countAll, fr_X9_takesOfAll_13, wi_f, wi_g, wc_f, ff_s, ff_l, su_f]
set_option maxHeartbeats 1000000 in
theorem ll_X9_takesOfAll {fu : Nat} {t : Nat} {a : Nat} {s : fl_I} {l : fl_L}  {cq cj : Nat}   : (f_X9_takesOfAll fu t a s l).2.2 cq cj = l cq cj := by
  unfold f_X9_takesOfAll
  repeat' (with_reducible apply itT2)
  all_goals first | with_reducible rfl | simp (disch := first | assumption | omega) only [ll_X10_countAll, ll_X9_takesOfAll_13, wl_f, wl_g, ff_l]
set_option maxHeartbeats 1000000 in
theorem fr_X12_paysOf {fu : Nat} {v0 : Int32} {v1 : Int32} {s : fl_I} {l : fl_L}  {cq cj : Nat} (h0 : ¬ (cq = 60 ∧ cj = 49)) (h1 : cq ≠ 92) (h2 : cq ≠ 93)  : (f_X12_paysOf fu v0 v1 s l).2.1 cq cj = s cq cj := by
  unfold f_X12_paysOf
  repeat' (with_reducible apply itT1)
  all_goals first | with_reducible rfl | simp (disch := first | assumption | omega) only [fr_X12_lawTells, fr_X12_looks, wi_f, wi_g, wc_f, ff_s, ff_l, su_f]
set_option maxHeartbeats 1000000 in
theorem ll_X12_paysOf {fu : Nat} {v0 : Int32} {v1 : Int32} {s : fl_I} {l : fl_L}  {cq cj : Nat}   : (f_X12_paysOf fu v0 v1 s l).2.2 cq cj = l cq cj := by
  unfold f_X12_paysOf
  repeat' (with_reducible apply itT2)
  all_goals first | with_reducible rfl | simp (disch := first | assumption | omega) only [ll_X12_lawTells, ll_X12_looks, wl_f, wl_g, ff_l]
set_option maxHeartbeats 1000000 in
theorem fr_X3_letterTold_49 {fu : Nat} {t : Nat} {s : fl_I} {l : fl_L}  {cq cj : Nat}   : (f_X3_letterTold_49 fu t s l).2.1 cq cj = s cq cj := by
  unfold f_X3_letterTold_49
  repeat' (with_reducible apply itT1)
  all_goals first | with_reducible rfl | simp (disch := first | assumption | omega) only [wi_f, wi_g, wc_f, ff_s, ff_l, su_f]
set_option maxHeartbeats 1000000 in
theorem ll_X3_letterTold_49 {fu : Nat} {t : Nat} {s : fl_I} {l : fl_L}    : (f_X3_letterTold_49 fu t s l).2.2 = l := by
  unfold f_X3_letterTold_49
  repeat' (with_reducible apply itT3)
  all_goals first | with_reducible rfl | simp (disch := first | assumption | omega) only [ff_l]
set_option maxHeartbeats 1000000 in
theorem fr_X3_letterTold_75 {fu : Nat} {t : Nat} {s : fl_I} {l : fl_L}  {cq cj : Nat}   : (f_X3_letterTold_75 fu t s l).2.1 cq cj = s cq cj := by
  unfold f_X3_letterTold_75
  repeat' (with_reducible apply itT1)
  all_goals first | with_reducible rfl | simp (disch := first | assumption | omega) only [wi_f, wi_g, wc_f, ff_s, ff_l, su_f]
set_option maxHeartbeats 1000000 in
theorem ll_X3_letterTold_75 {fu : Nat} {t : Nat} {s : fl_I} {l : fl_L}    : (f_X3_letterTold_75 fu t s l).2.2 = l := by
  unfold f_X3_letterTold_75
  repeat' (with_reducible apply itT3)
  all_goals first | with_reducible rfl | simp (disch := first | assumption | omega) only [ff_l]
set_option maxHeartbeats 1000000 in
theorem fr_X3_letterTold_90 {fu : Nat} {t : Nat} {s : fl_I} {l : fl_L}  {cq cj : Nat}   : (f_X3_letterTold_90 fu t s l).2.1 cq cj = s cq cj := by
  unfold f_X3_letterTold_90
  repeat' (with_reducible apply itT1)
  all_goals first | with_reducible rfl | simp (disch := first | assumption | omega) only [wi_f, wi_g, wc_f, ff_s, ff_l, su_f]
set_option maxHeartbeats 1000000 in
theorem ll_X3_letterTold_90 {fu : Nat} {t : Nat} {s : fl_I} {l : fl_L}    : (f_X3_letterTold_90 fu t s l).2.2 = l := by
  unfold f_X3_letterTold_90
  repeat' (with_reducible apply itT3)
  all_goals first | with_reducible rfl | simp (disch := first | assumption | omega) only [ff_l]
set_option maxHeartbeats 1000000 in
theorem fr_X3_letterTold_72 {fu : Nat} {x2 : Int32} {y0 : Int32} {t : Nat} {s : fl_I} {l : fl_L}  {cq cj : Nat} (h0 : cq ≠ (t + 4)) (h1 : cq ≠ (t + 5)) (h2 : cq ≠ (t + 6)) (h3 : ¬ (cq = t ∧ cj = 0)) (h4 : ¬ (cq = t ∧ cj = 3))  : (f_X3_letterTold_72 fu x2 y0 t s l).2.1 cq cj = s cq cj := by
  unfold f_X3_letterTold_72
  repeat' (with_reducible apply itT1)
  all_goals first | with_reducible rfl | simp (disch := first | assumption | omega) only [fr_X3_letterTold_75, fr_X3_letterTold_90, fr_X5_addLetter, wi_f, wi_g, wc_f, ff_s, ff_l, su_f]
set_option maxHeartbeats 1000000 in
theorem ll_X3_letterTold_72 {fu : Nat} {x2 : Int32} {y0 : Int32} {t : Nat} {s : fl_I} {l : fl_L}  {cq cj : Nat} (h0 : cq ≠ (t + 1))  : (f_X3_letterTold_72 fu x2 y0 t s l).2.2 cq cj = l cq cj := by
  unfold f_X3_letterTold_72
  repeat' (with_reducible apply itT2)
  all_goals first | with_reducible rfl | simp (disch := first | assumption | omega) only [ll_X3_letterTold_75, ll_X3_letterTold_90, ll_X5_addLetter, wl_f, wl_g, ff_l]
set_option maxHeartbeats 1000000 in
theorem fr_X3_letterTold_63 {fu : Nat} {x2 : Int32} {y0 : Int32} {t : Nat} {s : fl_I} {l : fl_L}  {cq cj : Nat} (h0 : ¬ (cq = 3 ∧ cj = 0)) (h1 : ¬ (cq = 3 ∧ cj = 2)) (h2 : ¬ (cq = 3 ∧ cj = 3)) (h3 : cq ≠ (t + 4)) (h4 : cq ≠ (t + 5)) (h5 : cq ≠ (t + 6)) (h6 : ¬ (cq = t ∧ cj = 0)) (h7 : ¬ (cq = t ∧ cj = 3))  : (f_X3_letterTold_63 fu x2 y0 t s l).2.1 cq cj = s cq cj := by
  unfold f_X3_letterTold_63
  repeat' (with_reducible apply itT1)
  all_goals first | with_reducible rfl | simp (disch := first | assumption | omega) only [fr_X3_letterTold_72, fr_X3_letterTold_75, fr_X3_take, wi_f, wi_g, wc_f, ff_s, ff_l, su_f]
set_option maxHeartbeats 1000000 in
theorem ll_X3_letterTold_63 {fu : Nat} {x2 : Int32} {y0 : Int32} {t : Nat} {s : fl_I} {l : fl_L}  {cq cj : Nat} (h0 : cq ≠ (t + 1))  : (f_X3_letterTold_63 fu x2 y0 t s l).2.2 cq cj = l cq cj := by
  unfold f_X3_letterTold_63
  repeat' (with_reducible apply itT2)
  all_goals first | with_reducible rfl | simp (disch := first | assumption | omega) only [ll_X3_letterTold_72, ll_X3_letterTold_75, ll_X3_take, wl_f, wl_g, ff_l]
set_option maxHeartbeats 1000000 in
theorem fr_X3_letterTold_46 {fu : Nat} {y0 : Int32} {t : Nat} {s : fl_I} {l : fl_L}  {cq cj : Nat} (h0 : ¬ (cq = 3 ∧ cj = 0)) (h1 : ¬ (cq = 3 ∧ cj = 2)) (h2 : ¬ (cq = 3 ∧ cj = 3)) (h3 : ¬ (cq = 3 ∧ cj = 4)) (h4 : ¬ (cq = 3 ∧ cj = 5)) (h5 : ¬ (cq = 3 ∧ cj = 6)) (h6 : cq ≠ (t + 4)) (h7 : cq ≠ (t + 5)) (h8 : cq ≠ (t + 6)) (h9 : ¬ (cq = t ∧ cj = 0)) (h10 : ¬ (cq = t ∧ cj = 3))  : (f_X3_letterTold_46 fu y0 t s l).2.1 cq cj = s cq cj := by
  unfold f_X3_letterTold_46
  repeat' (with_reducible apply itT1)
  all_goals first | with_reducible rfl | simp (disch := first | assumption | omega) only [fr_X3_letterTold_49, fr_X3_letterTold_63, fr_X3_takeInt, wi_f, wi_g, wc_f, ff_s, ff_l, su_f]
set_option maxHeartbeats 1000000 in
theorem ll_X3_letterTold_46 {fu : Nat} {y0 : Int32} {t : Nat} {s : fl_I} {l : fl_L}  {cq cj : Nat} (h0 : cq ≠ (t + 1))  : (f_X3_letterTold_46 fu y0 t s l).2.2 cq cj = l cq cj := by
  unfold f_X3_letterTold_46
  repeat' (with_reducible apply itT2)
  all_goals first | with_reducible rfl | simp (disch := first | assumption | omega) only [ll_X3_letterTold_49, ll_X3_letterTold_63, ll_X3_takeInt, wl_f, wl_g, ff_l]
set_option maxHeartbeats 1000000 in
theorem fr_X3_letterTold_36 {fu : Nat} {y0 : Int32} {t : Nat} {s : fl_I} {l : fl_L}  {cq cj : Nat} (h0 : ¬ (cq = 3 ∧ cj = 0)) (h1 : ¬ (cq = 3 ∧ cj = 2)) (h2 : ¬ (cq = 3 ∧ cj = 3)) (h3 : ¬ (cq = 3 ∧ cj = 4)) (h4 : ¬ (cq = 3 ∧ cj = 5)) (h5 : ¬ (cq = 3 ∧ cj = 6)) (h6 : cq ≠ (t + 4)) (h7 : cq ≠ (t + 5)) (h8 : cq ≠ (t + 6)) (h9 : ¬ (cq = t ∧ cj = 0)) (h10 : ¬ (cq = t ∧ cj = 3))  : (f_X3_letterTold_36 fu y0 t s l).2.1 cq cj = s cq cj := by
  unfold f_X3_letterTold_36
  repeat' (with_reducible apply itT1)
  all_goals first | with_reducible rfl | simp (disch := first | assumption | omega) only [fr_X3_letterTold_46, fr_X3_letterTold_49, fr_X3_takeInt, wi_f, wi_g, wc_f, ff_s, ff_l, su_f]
set_option maxHeartbeats 1000000 in
theorem ll_X3_letterTold_36 {fu : Nat} {y0 : Int32} {t : Nat} {s : fl_I} {l : fl_L}  {cq cj : Nat} (h0 : cq ≠ (t + 1))  : (f_X3_letterTold_36 fu y0 t s l).2.2 cq cj = l cq cj := by
  unfold f_X3_letterTold_36
  repeat' (with_reducible apply itT2)
  all_goals first | with_reducible rfl | simp (disch := first | assumption | omega) only [ll_X3_letterTold_46, ll_X3_letterTold_49, ll_X3_takeInt, wl_f, wl_g, ff_l]
set_option maxHeartbeats 1000000 in
theorem fr_X3_letterTold_21 {fu : Nat} {y0 : Int32} {t : Nat} {s : fl_I} {l : fl_L}  {cq cj : Nat} (h0 : ¬ (cq = 3 ∧ cj = 0)) (h1 : ¬ (cq = 3 ∧ cj = 2)) (h2 : ¬ (cq = 3 ∧ cj = 3)) (h3 : ¬ (cq = 3 ∧ cj = 4)) (h4 : ¬ (cq = 3 ∧ cj = 5)) (h5 : ¬ (cq = 3 ∧ cj = 6)) (h6 : cq ≠ (t + 4)) (h7 : cq ≠ (t + 5)) (h8 : cq ≠ (t + 6)) (h9 : ¬ (cq = t ∧ cj = 0)) (h10 : ¬ (cq = t ∧ cj = 3))  : (f_X3_letterTold_21 fu y0 t s l).2.1 cq cj = s cq cj := by
  unfold f_X3_letterTold_21
  repeat' (with_reducible apply itT1)
  all_goals first | with_reducible rfl | simp (disch := first | assumption | omega) only [fr_X3_letterTold_36, fr_X3_letterTold_49, fr_X3_takeName, wi_f, wi_g, wc_f, ff_s, ff_l, su_f]
set_option maxHeartbeats 1000000 in
theorem ll_X3_letterTold_21 {fu : Nat} {y0 : Int32} {t : Nat} {s : fl_I} {l : fl_L}  {cq cj : Nat} (h0 : ¬ (cq = 3 ∧ cj = 7)) (h1 : cq ≠ (t + 1))  : (f_X3_letterTold_21 fu y0 t s l).2.2 cq cj = l cq cj := by
  unfold f_X3_letterTold_21
  repeat' (with_reducible apply itT2)
  all_goals first | with_reducible rfl | simp (disch := first | assumption | omega) only [ll_X3_letterTold_36, ll_X3_letterTold_49, ll_X3_takeName, wl_f, wl_g, ff_l]
set_option maxHeartbeats 1000000 in
theorem fr_X3_letterTold_13 {fu : Nat} {y0 : Int32} {t : Nat} {s : fl_I} {l : fl_L}  {cq cj : Nat}   : (f_X3_letterTold_13 fu y0 t s l).2.1 cq cj = s cq cj := by
  unfold f_X3_letterTold_13
  repeat' (with_reducible apply itT1)
  all_goals first | with_reducible rfl | simp (disch := first | assumption | omega) only [wi_f, wi_g, wc_f, ff_s, ff_l, su_f]
set_option maxHeartbeats 1000000 in
theorem ll_X3_letterTold_13 {fu : Nat} {y0 : Int32} {t : Nat} {s : fl_I} {l : fl_L}    : (f_X3_letterTold_13 fu y0 t s l).2.2 = l := by
  unfold f_X3_letterTold_13
  repeat' (with_reducible apply itT3)
  all_goals first | with_reducible rfl | simp (disch := first | assumption | omega) only [ff_l]
set_option maxHeartbeats 1000000 in
theorem fr_X3_letterTold {fu : Nat} {t : Nat} {s : fl_I} {l : fl_L}  {cq cj : Nat} (h0 : ¬ (cq = 3 ∧ cj = 0)) (h1 : ¬ (cq = 3 ∧ cj = 2)) (h2 : ¬ (cq = 3 ∧ cj = 3)) (h3 : ¬ (cq = 3 ∧ cj = 4)) (h4 : ¬ (cq = 3 ∧ cj = 5)) (h5 : ¬ (cq = 3 ∧ cj = 6)) (h6 : cq ≠ (t + 4)) (h7 : cq ≠ (t + 5)) (h8 : cq ≠ (t + 6)) (h9 : ¬ (cq = t ∧ cj = 0)) (h10 : ¬ (cq = t ∧ cj = 3))  : (f_X3_letterTold fu t s l).2.1 cq cj = s cq cj := by
  unfold f_X3_letterTold
  repeat' (with_reducible apply itT1)
  all_goals first | with_reducible rfl | simp (disch := first | assumption | omega) only [fr_X3_letterTold_13, fr_X3_letterTold_21, fr_X3_stop, fr_X3_take, wi_f, wi_g, wc_f, ff_s, ff_l, su_f]
set_option maxHeartbeats 1000000 in
theorem ll_X3_letterTold {fu : Nat} {t : Nat} {s : fl_I} {l : fl_L}  {cq cj : Nat} (h0 : ¬ (cq = 3 ∧ cj = 7)) (h1 : cq ≠ (t + 1))  : (f_X3_letterTold fu t s l).2.2 cq cj = l cq cj := by
  unfold f_X3_letterTold
  repeat' (with_reducible apply itT2)
  all_goals first | with_reducible rfl | simp (disch := first | assumption | omega) only [ll_X3_letterTold_13, ll_X3_letterTold_21, ll_X3_stop, ll_X3_take, wl_f, wl_g, ff_l]
set_option maxHeartbeats 1000000 in
theorem fr_X11_pieceIn {fu : Nat} {v0 : Int32} {v1 : Int32} {v2 : Int32} {D : fl_D} {s : fl_I} {l : fl_L}  {cq cj : Nat} (h0 : ¬ (cq = 37 ∧ cj = 0)) (h1 : ¬ (cq = 37 ∧ cj = 1)) (h2 : ¬ (cq = 37 ∧ cj = 2)) (h3 : cq ≠ 38) (h4 : cq ≠ 39) (h5 : cq ≠ 40) (h6 : cq ≠ 41) (h7 : cq ≠ 42) (h8 : cq ≠ 48) (h9 : cq ≠ 49) (h10 : cq ≠ 50)  : (f_X11_pieceIn fu v0 v1 v2 D s l).2.1 cq cj = s cq cj := by
  unfold f_X11_pieceIn
  repeat' (with_reducible apply itT1)
  all_goals first | with_reducible rfl | simp (disch := first | assumption | omega) only [fr_X10_copy, fr_X9_goOn, wi_f, wi_g, wc_f, ff_s, ff_l, su_f]
set_option maxHeartbeats 1000000 in
theorem ll_X11_pieceIn {fu : Nat} {v0 : Int32} {v1 : Int32} {v2 : Int32} {D : fl_D} {s : fl_I} {l : fl_L}  {cq cj : Nat}   : (f_X11_pieceIn fu v0 v1 v2 D s l).2.2 cq cj = l cq cj := by
  unfold f_X11_pieceIn
  repeat' (with_reducible apply itT2)
  all_goals first | with_reducible rfl | simp (disch := first | assumption | omega) only [ll_X10_copy, ll_X9_goOn, wl_f, wl_g, ff_l]
set_option maxHeartbeats 1000000 in
theorem fr_X11_longest_47 {fu : Nat}  {D : fl_D} {cq cj : Nat}   : ∀ (n : Nat) (x2 : Int32) (x3 : Int32) (x4 : Int32) (x5 : Int32) (s : fl_I) (l : fl_L), (f_X11_longest_47 fu n x2 x3 x4 x5 D s l).2.1 cq cj = s cq cj := by
  intro n; induction n with
  | zero => intro x2 x3 x4 x5 s l; rfl
  | succ n ih =>
    intro x2 x3 x4 x5 s l; unfold f_X11_longest_47
    repeat' (with_reducible apply itT1)
    all_goals first | with_reducible rfl | with_reducible exact ih _ _ _ _ _ _ | simp (disch := first | assumption | omega | (intros; with_reducible exact ih _ _ _ _ _ _)) only [ih, wi_f, wi_g, wc_f, ff_s, ff_l, su_f]
set_option maxHeartbeats 1000000 in
theorem ll_X11_longest_47 {fu : Nat}  {D : fl_D}   : ∀ (n : Nat) (x2 : Int32) (x3 : Int32) (x4 : Int32) (x5 : Int32) (s : fl_I) (l : fl_L), (f_X11_longest_47 fu n x2 x3 x4 x5 D s l).2.2 = l := by
  intro n; induction n with
  | zero => intro x2 x3 x4 x5 s l; rfl
  | succ n ih =>
    intro x2 x3 x4 x5 s l; unfold f_X11_longest_47
    repeat' (with_reducible apply itT3)
    all_goals first | with_reducible rfl | with_reducible exact ih _ _ _ _ _ _ | simp (disch := first | assumption | omega | (intros; with_reducible exact ih _ _ _ _ _ _)) only [ih, ff_l]
set_option maxHeartbeats 1000000 in
theorem fr_X11_longest {fu : Nat} {v0 : Int32} {D : fl_D} {s : fl_I} {l : fl_L}  {cq cj : Nat} (h0 : cq ≠ 56)  : (f_X11_longest fu v0 D s l).2.1 cq cj = s cq cj := by
  unfold f_X11_longest
  repeat' (with_reducible apply itT1)
  all_goals first | with_reducible rfl | simp (disch := first | assumption | omega) only [fr_X0_gather, fr_X0_makes, fr_X11_longest_47, wi_f, wi_g, wc_f, ff_s, ff_l, su_f]
set_option maxHeartbeats 1000000 in
theorem ll_X11_longest {fu : Nat} {v0 : Int32} {D : fl_D} {s : fl_I} {l : fl_L}    : (f_X11_longest fu v0 D s l).2.2 = l := by
  unfold f_X11_longest
  repeat' (with_reducible apply itT3)
  all_goals first | with_reducible rfl | simp (disch := first | assumption | omega) only [ll_X0_gather, ll_X0_makes, ll_X11_longest_47, ff_l]
set_option maxHeartbeats 1000000 in
theorem fr_X11_pickerIn {fu : Nat} {v0 : Int32} {v1 : Int32} {v2 : Int32} {D : fl_D} {s : fl_I} {l : fl_L}  {cq cj : Nat} (h0 : ¬ (cq = 37 ∧ cj = 0)) (h1 : ¬ (cq = 37 ∧ cj = 1)) (h2 : ¬ (cq = 37 ∧ cj = 2)) (h3 : cq ≠ 38) (h4 : cq ≠ 39) (h5 : cq ≠ 40) (h6 : cq ≠ 41) (h7 : cq ≠ 42) (h8 : cq ≠ 48) (h9 : cq ≠ 49) (h10 : cq ≠ 50)  : (f_X11_pickerIn fu v0 v1 v2 D s l).2.1 cq cj = s cq cj := by
  unfold f_X11_pickerIn
  repeat' (with_reducible apply itT1)
  all_goals first | with_reducible rfl | simp (disch := first | assumption | omega) only [fr_X10_copy, fr_X9_goOn, wi_f, wi_g, wc_f, ff_s, ff_l, su_f]
set_option maxHeartbeats 1000000 in
theorem ll_X11_pickerIn {fu : Nat} {v0 : Int32} {v1 : Int32} {v2 : Int32} {D : fl_D} {s : fl_I} {l : fl_L}  {cq cj : Nat}   : (f_X11_pickerIn fu v0 v1 v2 D s l).2.2 cq cj = l cq cj := by
  unfold f_X11_pickerIn
  repeat' (with_reducible apply itT2)
  all_goals first | with_reducible rfl | simp (disch := first | assumption | omega) only [ll_X10_copy, ll_X9_goOn, wl_f, wl_g, ff_l]
set_option maxHeartbeats 1000000 in
theorem fr_X12_piece {fu : Nat} {v0 : Int32} {v1 : Int32} {s : fl_I} {l : fl_L}  {cq cj : Nat} (h0 : ¬ (cq = 60 ∧ cj = 49)) (h1 : ¬ (cq = 60 ∧ cj = 52)) (h2 : ¬ (cq = 60 ∧ cj = 53)) (h3 : cq ≠ 92) (h4 : cq ≠ 93) (h5 : cq ≠ 95)  : (f_X12_piece fu v0 v1 s l).2.1 cq cj = s cq cj := by
  unfold f_X12_piece
  repeat' (with_reducible apply itT1)
  all_goals first | with_reducible rfl | simp (disch := first | assumption | omega) only [fr_X12_copies, fr_X12_isBlown, fr_X12_takesOf, wi_f, wi_g, wc_f, ff_s, ff_l, su_f]
set_option maxHeartbeats 1000000 in
theorem ll_X12_piece {fu : Nat} {v0 : Int32} {v1 : Int32} {s : fl_I} {l : fl_L}  {cq cj : Nat}   : (f_X12_piece fu v0 v1 s l).2.2 cq cj = l cq cj := by
  unfold f_X12_piece
  repeat' (with_reducible apply itT2)
  all_goals first | with_reducible rfl | simp (disch := first | assumption | omega) only [ll_X12_copies, ll_X12_isBlown, ll_X12_takesOf, wl_f, wl_g, ff_l]
set_option maxHeartbeats 1000000 in
theorem fr_X11_year_21 {fu : Nat} {D : fl_D} {s : fl_I} {l : fl_L}  {cq cj : Nat}   : (f_X11_year_21 fu D s l).2.1 cq cj = s cq cj := by
  unfold f_X11_year_21
  repeat' (with_reducible apply itT1)
  all_goals first | with_reducible rfl | simp (disch := first | assumption | omega) only [wi_f, wi_g, wc_f, ff_s, ff_l, su_f]
set_option maxHeartbeats 1000000 in
theorem ll_X11_year_21 {fu : Nat} {D : fl_D} {s : fl_I} {l : fl_L}    : (f_X11_year_21 fu D s l).2.2 = l := by
  unfold f_X11_year_21
  repeat' (with_reducible apply itT3)
  all_goals first | with_reducible rfl | simp (disch := first | assumption | omega) only [ff_l]
set_option maxHeartbeats 1000000 in
theorem fr_X11_year_121 {fu : Nat} {K57 : Int32 → Int32 → Int32 → Int32 → Int32 → fl_I → fl_L → Int32 × fl_I × fl_L} {x1 : Int32} {x2 : Int32} {x3 : Int32} {x4 : Int32} {x5 : Int32} {D : fl_D} {s : fl_I} {l : fl_L}  {cq cj : Nat}  (hkK57 : ∀ (k0 : Int32) (k1 : Int32) (k2 : Int32) (k3 : Int32) (k4 : Int32) (k5 : fl_I) (k6 : fl_L), (K57 k0 k1 k2 k3 k4 k5 k6).2.1 cq cj = k5 cq cj) : (f_X11_year_121 fu K57 x1 x2 x3 x4 x5 D s l).2.1 cq cj = s cq cj := by
  unfold f_X11_year_121
  repeat' (with_reducible apply itT1)
  all_goals first | with_reducible rfl | simp (disch := first | assumption | omega) only [hkK57, wi_f, wi_g, wc_f, ff_s, ff_l, su_f]
set_option maxHeartbeats 1000000 in
theorem ll_X11_year_121 {fu : Nat} {K57 : Int32 → Int32 → Int32 → Int32 → Int32 → fl_I → fl_L → Int32 × fl_I × fl_L} {x1 : Int32} {x2 : Int32} {x3 : Int32} {x4 : Int32} {x5 : Int32} {D : fl_D} {s : fl_I} {l : fl_L}  {cq cj : Nat}  (hkK57 : ∀ (k0 : Int32) (k1 : Int32) (k2 : Int32) (k3 : Int32) (k4 : Int32) (k5 : fl_I) (k6 : fl_L), (K57 k0 k1 k2 k3 k4 k5 k6).2.2 cq cj = k6 cq cj) : (f_X11_year_121 fu K57 x1 x2 x3 x4 x5 D s l).2.2 cq cj = l cq cj := by
  unfold f_X11_year_121
  repeat' (with_reducible apply itT2)
  all_goals first | with_reducible rfl | simp (disch := first | assumption | omega) only [hkK57, wl_f, wl_g, ff_l]
set_option maxHeartbeats 1000000 in
theorem fr_X11_year_108 {fu : Nat} {K57 : Int32 → Int32 → Int32 → Int32 → Int32 → fl_I → fl_L → Int32 × fl_I × fl_L} {x1 : Int32} {x2 : Int32} {x3 : Int32} {x4 : Int32} {x5 : Int32} {D : fl_D} {s : fl_I} {l : fl_L}  {cq cj : Nat}  (hkK57 : ∀ (k0 : Int32) (k1 : Int32) (k2 : Int32) (k3 : Int32) (k4 : Int32) (k5 : fl_I) (k6 : fl_L), (K57 k0 k1 k2 k3 k4 k5 k6).2.1 cq cj = k5 cq cj) : (f_X11_year_108 fu K57 x1 x2 x3 x4 x5 D s l).2.1 cq cj = s cq cj := by
  unfold f_X11_year_108
  repeat' (with_reducible apply itT1)
  all_goals first | with_reducible rfl | simp (disch := first | assumption | omega) only [fr_X11_year_121, hkK57, wi_f, wi_g, wc_f, ff_s, ff_l, su_f]
set_option maxHeartbeats 1000000 in
theorem ll_X11_year_108 {fu : Nat} {K57 : Int32 → Int32 → Int32 → Int32 → Int32 → fl_I → fl_L → Int32 × fl_I × fl_L} {x1 : Int32} {x2 : Int32} {x3 : Int32} {x4 : Int32} {x5 : Int32} {D : fl_D} {s : fl_I} {l : fl_L}  {cq cj : Nat}  (hkK57 : ∀ (k0 : Int32) (k1 : Int32) (k2 : Int32) (k3 : Int32) (k4 : Int32) (k5 : fl_I) (k6 : fl_L), (K57 k0 k1 k2 k3 k4 k5 k6).2.2 cq cj = k6 cq cj) : (f_X11_year_108 fu K57 x1 x2 x3 x4 x5 D s l).2.2 cq cj = l cq cj := by
  unfold f_X11_year_108
  repeat' (with_reducible apply itT2)
  all_goals first | with_reducible rfl | simp (disch := first | assumption | omega) only [ll_X11_year_121, hkK57, wl_f, wl_g, ff_l]
set_option maxHeartbeats 1000000 in
theorem fr_X11_year_82 {fu : Nat} {K57 : Int32 → Int32 → Int32 → Int32 → Int32 → fl_I → fl_L → Int32 × fl_I × fl_L} {x1 : Int32} {x2 : Int32} {x3 : Int32} {x4 : Int32} {x5 : Int32} {D : fl_D} {s : fl_I} {l : fl_L}  {cq cj : Nat} (h0 : ¬ (cq = 37 ∧ cj = 0)) (h1 : cq ≠ 38) (h2 : cq ≠ 39) (h3 : cq ≠ 40) (h4 : cq ≠ 41) (h5 : cq ≠ 42) (h6 : cq ≠ 48) (h7 : cq ≠ 49) (h8 : cq ≠ 50) (hkK57 : ∀ (k0 : Int32) (k1 : Int32) (k2 : Int32) (k3 : Int32) (k4 : Int32) (k5 : fl_I) (k6 : fl_L), (K57 k0 k1 k2 k3 k4 k5 k6).2.1 cq cj = k5 cq cj) : (f_X11_year_82 fu K57 x1 x2 x3 x4 x5 D s l).2.1 cq cj = s cq cj := by
  unfold f_X11_year_82
  repeat' (with_reducible apply itT1)
  all_goals first | with_reducible rfl | simp (disch := first | assumption | omega) only [fr_X11_year_108, fr_X9_goOn, hkK57, wi_f, wi_g, wc_f, ff_s, ff_l, su_f]
set_option maxHeartbeats 1000000 in
theorem ll_X11_year_82 {fu : Nat} {K57 : Int32 → Int32 → Int32 → Int32 → Int32 → fl_I → fl_L → Int32 × fl_I × fl_L} {x1 : Int32} {x2 : Int32} {x3 : Int32} {x4 : Int32} {x5 : Int32} {D : fl_D} {s : fl_I} {l : fl_L}  {cq cj : Nat}  (hkK57 : ∀ (k0 : Int32) (k1 : Int32) (k2 : Int32) (k3 : Int32) (k4 : Int32) (k5 : fl_I) (k6 : fl_L), (K57 k0 k1 k2 k3 k4 k5 k6).2.2 cq cj = k6 cq cj) : (f_X11_year_82 fu K57 x1 x2 x3 x4 x5 D s l).2.2 cq cj = l cq cj := by
  unfold f_X11_year_82
  repeat' (with_reducible apply itT2)
  all_goals first | with_reducible rfl | simp (disch := first | assumption | omega) only [ll_X11_year_108, ll_X9_goOn, hkK57, wl_f, wl_g, ff_l]
set_option maxHeartbeats 1000000 in
theorem fr_X11_year_57 {fu : Nat}  {D : fl_D} {cq cj : Nat} (h0 : ¬ (cq = 37 ∧ cj = 0)) (h1 : ¬ (cq = 37 ∧ cj = 1)) (h2 : ¬ (cq = 37 ∧ cj = 2)) (h3 : cq ≠ 38) (h4 : cq ≠ 39) (h5 : cq ≠ 40) (h6 : cq ≠ 41) (h7 : cq ≠ 42) (h8 : cq ≠ 48) (h9 : cq ≠ 49) (h10 : cq ≠ 50)  : ∀ (n : Nat) (x1 : Int32) (x2 : Int32) (x3 : Int32) (x4 : Int32) (x5 : Int32) (s : fl_I) (l : fl_L), (f_X11_year_57 fu n x1 x2 x3 x4 x5 D s l).2.1 cq cj = s cq cj := by
  intro n; induction n with
  | zero => intro x1 x2 x3 x4 x5 s l; rfl
  | succ n ih =>
    intro x1 x2 x3 x4 x5 s l; unfold f_X11_year_57
    repeat' (with_reducible apply itT1)
    all_goals first | with_reducible rfl | with_reducible exact ih _ _ _ _ _ _ _ | simp (disch := first | assumption | omega | (intros; with_reducible exact ih _ _ _ _ _ _ _)) only [ih, fr_X10_copy, fr_X11_year_82, wi_f, wi_g, wc_f, ff_s, ff_l, su_f]
set_option maxHeartbeats 1000000 in
theorem ll_X11_year_57 {fu : Nat}  {D : fl_D} {cq cj : Nat}   : ∀ (n : Nat) (x1 : Int32) (x2 : Int32) (x3 : Int32) (x4 : Int32) (x5 : Int32) (s : fl_I) (l : fl_L), (f_X11_year_57 fu n x1 x2 x3 x4 x5 D s l).2.2 cq cj = l cq cj := by
  intro n; induction n with
  | zero => intro x1 x2 x3 x4 x5 s l; rfl
  | succ n ih =>
    intro x1 x2 x3 x4 x5 s l; unfold f_X11_year_57
    repeat' (with_reducible apply itT2)
    all_goals first | with_reducible rfl | with_reducible exact ih _ _ _ _ _ _ _ | simp (disch := first | assumption | omega | (intros; with_reducible exact ih _ _ _ _ _ _ _)) only [ih, ll_X10_copy, ll_X11_year_82, wl_f, wl_g, ff_l]
set_option maxHeartbeats 1000000 in
theorem fr_X11_year_45 {fu : Nat} {x1 : Int32} {x2 : Int32} {D : fl_D} {s : fl_I} {l : fl_L}  {cq cj : Nat} (h0 : ¬ (cq = 37 ∧ cj = 0)) (h1 : ¬ (cq = 37 ∧ cj = 1)) (h2 : ¬ (cq = 37 ∧ cj = 2)) (h3 : cq ≠ 38) (h4 : cq ≠ 39) (h5 : cq ≠ 40) (h6 : cq ≠ 41) (h7 : cq ≠ 42) (h8 : cq ≠ 48) (h9 : cq ≠ 49) (h10 : cq ≠ 50)  : (f_X11_year_45 fu x1 x2 D s l).2.1 cq cj = s cq cj := by
  unfold f_X11_year_45
  repeat' (with_reducible apply itT1)
  all_goals first | with_reducible rfl | simp (disch := first | assumption | omega) only [fr_X11_year_57, wi_f, wi_g, wc_f, ff_s, ff_l, su_f]
set_option maxHeartbeats 1000000 in
theorem ll_X11_year_45 {fu : Nat} {x1 : Int32} {x2 : Int32} {D : fl_D} {s : fl_I} {l : fl_L}  {cq cj : Nat}   : (f_X11_year_45 fu x1 x2 D s l).2.2 cq cj = l cq cj := by
  unfold f_X11_year_45
  repeat' (with_reducible apply itT2)
  all_goals first | with_reducible rfl | simp (disch := first | assumption | omega) only [ll_X11_year_57, wl_f, wl_g, ff_l]
set_option maxHeartbeats 1000000 in
theorem fr_X11_year {fu : Nat} {v0 : Int32} {v1 : Int32} {D : fl_D} {s : fl_I} {l : fl_L}  {cq cj : Nat} (h0 : ¬ (cq = 37 ∧ cj = 0)) (h1 : ¬ (cq = 37 ∧ cj = 1)) (h2 : ¬ (cq = 37 ∧ cj = 2)) (h3 : cq ≠ 38) (h4 : cq ≠ 39) (h5 : cq ≠ 40) (h6 : cq ≠ 41) (h7 : cq ≠ 42) (h8 : cq ≠ 48) (h9 : cq ≠ 49) (h10 : cq ≠ 50)  : (f_X11_year fu v0 v1 D s l).2.1 cq cj = s cq cj := by
  unfold f_X11_year
  repeat' (with_reducible apply itT1)
  all_goals first | with_reducible rfl | simp (disch := first | assumption | omega) only [fr_X11_year_21, fr_X11_year_45, fr_X11_year_57, wi_f, wi_g, wc_f, ff_s, ff_l, su_f]
set_option maxHeartbeats 1000000 in
theorem ll_X11_year {fu : Nat} {v0 : Int32} {v1 : Int32} {D : fl_D} {s : fl_I} {l : fl_L}  {cq cj : Nat}   : (f_X11_year fu v0 v1 D s l).2.2 cq cj = l cq cj := by
  unfold f_X11_year
  repeat' (with_reducible apply itT2)
  all_goals first | with_reducible rfl | simp (disch := first | assumption | omega) only [ll_X11_year_21, ll_X11_year_45, ll_X11_year_57, wl_f, wl_g, ff_l]
set_option maxHeartbeats 1000000 in
theorem fr_X11_picker {fu : Nat} {v0 : Int32} {v1 : Int32} {D : fl_D} {s : fl_I} {l : fl_L}  {cq cj : Nat} (h0 : cq ≠ 48) (h1 : cq ≠ 49)  : (f_X11_picker fu v0 v1 D s l).2.1 cq cj = s cq cj := by
  unfold f_X11_picker
  repeat' (with_reducible apply itT1)
  all_goals first | with_reducible rfl | simp (disch := first | assumption | omega) only [fr_X9_owed, wi_f, wi_g, wc_f, ff_s, ff_l, su_f]
set_option maxHeartbeats 1000000 in
theorem ll_X11_picker {fu : Nat} {v0 : Int32} {v1 : Int32} {D : fl_D} {s : fl_I} {l : fl_L}  {cq cj : Nat}   : (f_X11_picker fu v0 v1 D s l).2.2 cq cj = l cq cj := by
  unfold f_X11_picker
  repeat' (with_reducible apply itT2)
  all_goals first | with_reducible rfl | simp (disch := first | assumption | omega) only [ll_X9_owed, wl_f, wl_g, ff_l]
set_option maxHeartbeats 1000000 in
theorem fr_X11_piece {fu : Nat} {v0 : Int32} {v1 : Int32} {D : fl_D} {s : fl_I} {l : fl_L}  {cq cj : Nat} (h0 : cq ≠ 48) (h1 : cq ≠ 49)  : (f_X11_piece fu v0 v1 D s l).2.1 cq cj = s cq cj := by
  unfold f_X11_piece
  repeat' (with_reducible apply itT1)
  all_goals first | with_reducible rfl | simp (disch := first | assumption | omega) only [fr_X9_lawOfPiece, wi_f, wi_g, wc_f, ff_s, ff_l, su_f]
set_option maxHeartbeats 1000000 in
theorem ll_X11_piece {fu : Nat} {v0 : Int32} {v1 : Int32} {D : fl_D} {s : fl_I} {l : fl_L}  {cq cj : Nat}   : (f_X11_piece fu v0 v1 D s l).2.2 cq cj = l cq cj := by
  unfold f_X11_piece
  repeat' (with_reducible apply itT2)
  all_goals first | with_reducible rfl | simp (disch := first | assumption | omega) only [ll_X9_lawOfPiece, wl_f, wl_g, ff_l]
set_option maxHeartbeats 1000000 in
theorem fr_X11_stand_38 {fu : Nat}  {D : fl_D} {cq cj : Nat} (h0 : ¬ (cq = 37 ∧ cj = 0)) (h1 : ¬ (cq = 37 ∧ cj = 1)) (h2 : ¬ (cq = 37 ∧ cj = 2)) (h3 : cq ≠ 38) (h4 : cq ≠ 39) (h5 : cq ≠ 40) (h6 : cq ≠ 41) (h7 : cq ≠ 42) (h8 : cq ≠ 48) (h9 : cq ≠ 49) (h10 : cq ≠ 50)  : ∀ (n : Nat) (x1 : Int32) (x2 : Int32) (x3 : Int32) (x4 : Int32) (x5 : Int32) (s : fl_I) (l : fl_L), (f_X11_stand_38 fu n x1 x2 x3 x4 x5 D s l).2.1 cq cj = s cq cj := by
  intro n; induction n with
  | zero => intro x1 x2 x3 x4 x5 s l; rfl
  | succ n ih =>
    intro x1 x2 x3 x4 x5 s l; unfold f_X11_stand_38
    repeat' (with_reducible apply itT1)
    all_goals first | with_reducible rfl | with_reducible exact ih _ _ _ _ _ _ _ | simp (disch := first | assumption | omega | (intros; with_reducible exact ih _ _ _ _ _ _ _)) only [ih, fr_X10_copy, fr_X9_goOn, fr_X9_takesOfAll, wi_f, wi_g, wc_f, ff_s, ff_l, su_f]
set_option maxHeartbeats 1000000 in
theorem ll_X11_stand_38 {fu : Nat}  {D : fl_D} {cq cj : Nat}   : ∀ (n : Nat) (x1 : Int32) (x2 : Int32) (x3 : Int32) (x4 : Int32) (x5 : Int32) (s : fl_I) (l : fl_L), (f_X11_stand_38 fu n x1 x2 x3 x4 x5 D s l).2.2 cq cj = l cq cj := by
  intro n; induction n with
  | zero => intro x1 x2 x3 x4 x5 s l; rfl
  | succ n ih =>
    intro x1 x2 x3 x4 x5 s l; unfold f_X11_stand_38
    repeat' (with_reducible apply itT2)
    all_goals first | with_reducible rfl | with_reducible exact ih _ _ _ _ _ _ _ | simp (disch := first | assumption | omega | (intros; with_reducible exact ih _ _ _ _ _ _ _)) only [ih, ll_X10_copy, ll_X9_goOn, ll_X9_takesOfAll, wl_f, wl_g, ff_l]
set_option maxHeartbeats 1000000 in
theorem fr_X11_stand {fu : Nat} {v0 : Int32} {v1 : Int32} {v2 : Int32} {D : fl_D} {s : fl_I} {l : fl_L}  {cq cj : Nat} (h0 : ¬ (cq = 37 ∧ cj = 0)) (h1 : ¬ (cq = 37 ∧ cj = 1)) (h2 : ¬ (cq = 37 ∧ cj = 2)) (h3 : cq ≠ 38) (h4 : cq ≠ 39) (h5 : cq ≠ 40) (h6 : cq ≠ 41) (h7 : cq ≠ 42) (h8 : cq ≠ 48) (h9 : cq ≠ 49) (h10 : cq ≠ 50)  : (f_X11_stand fu v0 v1 v2 D s l).2.1 cq cj = s cq cj := by
  unfold f_X11_stand
  repeat' (with_reducible apply itT1)
  all_goals first | with_reducible rfl | simp (disch := first | assumption | omega) only [fr_X11_stand_38, wi_f, wi_g, wc_f, ff_s, ff_l, su_f]
set_option maxHeartbeats 1000000 in
theorem ll_X11_stand {fu : Nat} {v0 : Int32} {v1 : Int32} {v2 : Int32} {D : fl_D} {s : fl_I} {l : fl_L}  {cq cj : Nat}   : (f_X11_stand fu v0 v1 v2 D s l).2.2 cq cj = l cq cj := by
  unfold f_X11_stand
  repeat' (with_reducible apply itT2)
  all_goals first | with_reducible rfl | simp (disch := first | assumption | omega) only [ll_X11_stand_38, wl_f, wl_g, ff_l]
set_option maxHeartbeats 1000000 in
theorem fr_X12_blows_69 {fu : Nat}   {cq cj : Nat} (h0 : cq ≠ 95)  : ∀ (n : Nat) (x2 : Int32) (s : fl_I) (l : fl_L), (f_X12_blows_69 fu n x2 s l).1 cq cj = s cq cj := by
  intro n; induction n with
  | zero => intro x2 s l; rfl
  | succ n ih =>
    intro x2 s l; unfold f_X12_blows_69
    repeat' (with_reducible apply itP1)
    all_goals first | with_reducible rfl | with_reducible exact ih _ _ _ | simp (disch := first | assumption | omega | (intros; with_reducible exact ih _ _ _)) only [ih, wi_f, wi_g, wc_f, ff_s, ff_l, su_f]
set_option maxHeartbeats 1000000 in
theorem ll_X12_blows_69 {fu : Nat}     : ∀ (n : Nat) (x2 : Int32) (s : fl_I) (l : fl_L), (f_X12_blows_69 fu n x2 s l).2 = l := by
  intro n; induction n with
  | zero => intro x2 s l; rfl
  | succ n ih =>
    intro x2 s l; unfold f_X12_blows_69
    repeat' (with_reducible apply itP3)
    all_goals first | with_reducible rfl | with_reducible exact ih _ _ _ | simp (disch := first | assumption | omega | (intros; with_reducible exact ih _ _ _)) only [ih, ff_l]
set_option maxHeartbeats 1000000 in
theorem fr_X12_blows_22 {fu : Nat}   {cq cj : Nat} (h0 : ¬ (cq = 60 ∧ cj = 49)) (h1 : cq ≠ 92) (h2 : cq ≠ 93) (h3 : cq ≠ 95) (h4 : cq ≠ 98)  : ∀ (n : Nat) (x1 : Int32) (x2 : Int32) (s : fl_I) (l : fl_L), (f_X12_blows_22 fu n x1 x2 s l).1 cq cj = s cq cj := by
  intro n; induction n with
  | zero => intro x1 x2 s l; rfl
  | succ n ih =>
    intro x1 x2 s l; unfold f_X12_blows_22
    repeat' (with_reducible apply itP1)
    all_goals first | with_reducible rfl | with_reducible exact ih _ _ _ _ | simp (disch := first | assumption | omega | (intros; with_reducible exact ih _ _ _ _)) only [ih, fr_X12_blows_69, fr_X12_isBlown, wi_f, wi_g, wc_f, ff_s, ff_l, su_f]
set_option maxHeartbeats 1000000 in
theorem ll_X12_blows_22 {fu : Nat}   {cq cj : Nat}   : ∀ (n : Nat) (x1 : Int32) (x2 : Int32) (s : fl_I) (l : fl_L), (f_X12_blows_22 fu n x1 x2 s l).2 cq cj = l cq cj := by
  intro n; induction n with
  | zero => intro x1 x2 s l; rfl
  | succ n ih =>
    intro x1 x2 s l; unfold f_X12_blows_22
    repeat' (with_reducible apply itP2)
    all_goals first | with_reducible rfl | with_reducible exact ih _ _ _ _ | simp (disch := first | assumption | omega | (intros; with_reducible exact ih _ _ _ _)) only [ih, ll_X12_blows_69, ll_X12_isBlown, wl_f, wl_g, ff_l]
set_option maxHeartbeats 1000000 in
theorem fr_X12_blows {fu : Nat} {s : fl_I} {l : fl_L}  {cq cj : Nat} (h0 : ¬ (cq = 60 ∧ cj = 49)) (h1 : cq ≠ 92) (h2 : cq ≠ 93) (h3 : cq ≠ 95) (h4 : cq ≠ 98)  : (f_X12_blows fu s l).1 cq cj = s cq cj := by
  unfold f_X12_blows
  repeat' (with_reducible apply itP1)
  all_goals first | with_reducible rfl | simp (disch := first | assumption | omega) only [fr_X12_blows_22, wi_f, wi_g, wc_f, ff_s, ff_l, su_f]
set_option maxHeartbeats 1000000 in
theorem ll_X12_blows {fu : Nat} {s : fl_I} {l : fl_L}  {cq cj : Nat}   : (f_X12_blows fu s l).2 cq cj = l cq cj := by
  unfold f_X12_blows
  repeat' (with_reducible apply itP2)
  all_goals first | with_reducible rfl | simp (disch := first | assumption | omega) only [ll_X12_blows_22, wl_f, wl_g, ff_l]
set_option maxHeartbeats 1000000 in
theorem fr_X12_read_214 {fu : Nat}   {cq cj : Nat} (h0 : cq ≠ 105)  : ∀ (n : Nat) (x1 : Int32) (s : fl_I) (l : fl_L), (f_X12_read_214 fu n x1 s l).2.1 cq cj = s cq cj := by
  intro n; induction n with
  | zero => intro x1 s l; rfl
  | succ n ih =>
    intro x1 s l; unfold f_X12_read_214
    repeat' (with_reducible apply itT1)
    all_goals first | with_reducible rfl | with_reducible exact ih _ _ _ | simp (disch := first | assumption | omega | (intros; with_reducible exact ih _ _ _)) only [ih, wi_f, wi_g, wc_f, ff_s, ff_l, su_f]
set_option maxHeartbeats 1000000 in
theorem ll_X12_read_214 {fu : Nat}     : ∀ (n : Nat) (x1 : Int32) (s : fl_I) (l : fl_L), (f_X12_read_214 fu n x1 s l).2.2 = l := by
  intro n; induction n with
  | zero => intro x1 s l; rfl
  | succ n ih =>
    intro x1 s l; unfold f_X12_read_214
    repeat' (with_reducible apply itT3)
    all_goals first | with_reducible rfl | with_reducible exact ih _ _ _ | simp (disch := first | assumption | omega | (intros; with_reducible exact ih _ _ _)) only [ih, ff_l]
set_option maxHeartbeats 1000000 in
theorem fr_X12_read_202 {fu : Nat} {s : fl_I} {l : fl_L}  {cq cj : Nat} (h0 : ¬ (cq = 60 ∧ cj = 58)) (h1 : ¬ (cq = 60 ∧ cj = 65)) (h2 : cq ≠ 105)  : (f_X12_read_202 fu s l).2.1 cq cj = s cq cj := by
  unfold f_X12_read_202
  repeat' (with_reducible apply itT1)
  all_goals first | with_reducible rfl | simp (disch := first | assumption | omega) only [fr_X12_read_214, wi_f, wi_g, wc_f, ff_s, ff_l, su_f]
set_option maxHeartbeats 1000000 in
theorem ll_X12_read_202 {fu : Nat} {s : fl_I} {l : fl_L}    : (f_X12_read_202 fu s l).2.2 = l := by
  unfold f_X12_read_202
  repeat' (with_reducible apply itT3)
  all_goals first | with_reducible rfl | simp (disch := first | assumption | omega) only [ll_X12_read_214, ff_l]
set_option maxHeartbeats 1000000 in
theorem fr_X12_read_198 {fu : Nat} {s : fl_I} {l : fl_L}  {cq cj : Nat} (h0 : ¬ (cq = 60 ∧ cj = 58)) (h1 : ¬ (cq = 60 ∧ cj = 65)) (h2 : cq ≠ 94) (h3 : cq ≠ 105)  : (f_X12_read_198 fu s l).2.1 cq cj = s cq cj := by
  unfold f_X12_read_198
  repeat' (with_reducible apply itT1)
  all_goals first | with_reducible rfl | simp (disch := first | assumption | omega) only [fr_X12_keepsRow, fr_X12_read_202, wi_f, wi_g, wc_f, ff_s, ff_l, su_f]
set_option maxHeartbeats 1000000 in
theorem ll_X12_read_198 {fu : Nat} {s : fl_I} {l : fl_L}    : (f_X12_read_198 fu s l).2.2 = l := by
  unfold f_X12_read_198
  repeat' (with_reducible apply itT3)
  all_goals first | with_reducible rfl | simp (disch := first | assumption | omega) only [ll_X12_keepsRow, ll_X12_read_202, ff_l]
set_option maxHeartbeats 1000000 in
theorem fr_X12_read_129 {fu : Nat} {s : fl_I} {l : fl_L}  {cq cj : Nat} (h0 : ¬ (cq = 60 ∧ cj = 17)) (h1 : ¬ (cq = 60 ∧ cj = 18)) (h2 : ¬ (cq = 60 ∧ cj = 52)) (h3 : ¬ (cq = 60 ∧ cj = 53)) (h4 : ¬ (cq = 60 ∧ cj = 54)) (h5 : ¬ (cq = 60 ∧ cj = 58)) (h6 : ¬ (cq = 60 ∧ cj = 65)) (h7 : cq ≠ 94) (h8 : cq ≠ 95) (h9 : cq ≠ 96) (h10 : cq ≠ 97) (h11 : cq ≠ 105)  : (f_X12_read_129 fu s l).2.1 cq cj = s cq cj := by
  unfold f_X12_read_129
  repeat' (with_reducible apply itT1)
  all_goals first | with_reducible rfl | simp (disch := first | assumption | omega) only [fr_X12_begins, fr_X12_read_198, wi_f, wi_g, wc_f, ff_s, ff_l, su_f]
set_option maxHeartbeats 1000000 in
theorem ll_X12_read_129 {fu : Nat} {s : fl_I} {l : fl_L}  {cq cj : Nat}   : (f_X12_read_129 fu s l).2.2 cq cj = l cq cj := by
  unfold f_X12_read_129
  repeat' (with_reducible apply itT2)
  all_goals first | with_reducible rfl | simp (disch := first | assumption | omega) only [ll_X12_begins, ll_X12_read_198, wl_f, wl_g, ff_l]
set_option maxHeartbeats 1000000 in
theorem fr_X12_read_126 {fu : Nat} {K107 : fl_I → fl_L → Int32 × fl_I × fl_L} {s : fl_I} {l : fl_L}  {cq cj : Nat}  (hkK107 : ∀ (k0 : fl_I) (k1 : fl_L), (K107 k0 k1).2.1 cq cj = k0 cq cj) : (f_X12_read_126 fu K107 s l).2.1 cq cj = s cq cj := by
  unfold f_X12_read_126
  repeat' (with_reducible apply itT1)
  all_goals first | with_reducible rfl | simp (disch := first | assumption | omega) only [hkK107, wi_f, wi_g, wc_f, ff_s, ff_l, su_f]
set_option maxHeartbeats 1000000 in
theorem ll_X12_read_126 {fu : Nat} {K107 : fl_I → fl_L → Int32 × fl_I × fl_L} {s : fl_I} {l : fl_L}  {cq cj : Nat}  (hkK107 : ∀ (k0 : fl_I) (k1 : fl_L), (K107 k0 k1).2.2 cq cj = k1 cq cj) : (f_X12_read_126 fu K107 s l).2.2 cq cj = l cq cj := by
  unfold f_X12_read_126
  repeat' (with_reducible apply itT2)
  all_goals first | with_reducible rfl | simp (disch := first | assumption | omega) only [hkK107, wl_f, wl_g, ff_l]
set_option maxHeartbeats 1000000 in
theorem fr_X12_read_107 {fu : Nat}   {cq cj : Nat} (h0 : ¬ (cq = 60 ∧ cj = 11)) (h1 : ¬ (cq = 60 ∧ cj = 12)) (h2 : ¬ (cq = 60 ∧ cj = 13)) (h3 : ¬ (cq = 60 ∧ cj = 14)) (h4 : ¬ (cq = 60 ∧ cj = 15)) (h5 : ¬ (cq = 60 ∧ cj = 16)) (h6 : ¬ (cq = 60 ∧ cj = 17)) (h7 : ¬ (cq = 60 ∧ cj = 18)) (h8 : ¬ (cq = 60 ∧ cj = 36)) (h9 : ¬ (cq = 60 ∧ cj = 42)) (h10 : ¬ (cq = 60 ∧ cj = 46)) (h11 : ¬ (cq = 60 ∧ cj = 52)) (h12 : ¬ (cq = 60 ∧ cj = 53)) (h13 : ¬ (cq = 60 ∧ cj = 54)) (h14 : ¬ (cq = 60 ∧ cj = 58)) (h15 : ¬ (cq = 60 ∧ cj = 65)) (h16 : cq ≠ 68) (h17 : cq ≠ 70) (h18 : cq ≠ 71) (h19 : cq ≠ 72) (h20 : cq ≠ 74) (h21 : cq ≠ 76) (h22 : cq ≠ 77) (h23 : cq ≠ 78) (h24 : cq ≠ 79) (h25 : cq ≠ 80) (h26 : cq ≠ 81) (h27 : cq ≠ 82) (h28 : cq ≠ 83) (h29 : cq ≠ 84) (h30 : cq ≠ 85) (h31 : cq ≠ 86) (h32 : cq ≠ 87) (h33 : cq ≠ 88) (h34 : cq ≠ 89) (h35 : cq ≠ 90) (h36 : cq ≠ 91) (h37 : cq ≠ 94) (h38 : cq ≠ 95) (h39 : cq ≠ 96) (h40 : cq ≠ 97) (h41 : cq ≠ 105)  : ∀ (n : Nat) (s : fl_I) (l : fl_L), (f_X12_read_107 fu n s l).2.1 cq cj = s cq cj := by
  intro n; induction n with
  | zero => intro s l; rfl
  | succ n ih =>
    intro s l; unfold f_X12_read_107
    repeat' (with_reducible apply itT1)
    all_goals first | with_reducible rfl | with_reducible exact ih _ _ | simp (disch := first | assumption | omega | (intros; with_reducible exact ih _ _)) only [ih, fr_X12_read_126, fr_X12_read_129, fr_X12_tellOne, wi_f, wi_g, wc_f, ff_s, ff_l, su_f]
set_option maxHeartbeats 1000000 in
theorem ll_X12_read_107 {fu : Nat}   {cq cj : Nat} (h0 : cq ≠ 69) (h1 : cq ≠ 73) (h2 : cq ≠ 75)  : ∀ (n : Nat) (s : fl_I) (l : fl_L), (f_X12_read_107 fu n s l).2.2 cq cj = l cq cj := by
  intro n; induction n with
  | zero => intro s l; rfl
  | succ n ih =>
    intro s l; unfold f_X12_read_107
    repeat' (with_reducible apply itT2)
    all_goals first | with_reducible rfl | with_reducible exact ih _ _ | simp (disch := first | assumption | omega | (intros; with_reducible exact ih _ _)) only [ih, ll_X12_read_126, ll_X12_read_129, ll_X12_tellOne, wl_f, wl_g, ff_l]
set_option maxHeartbeats 1000000 in
theorem fr_X12_read_83 {fu : Nat} {s : fl_I} {l : fl_L}  {cq cj : Nat} (h0 : ¬ (cq = 60 ∧ cj = 11)) (h1 : ¬ (cq = 60 ∧ cj = 12)) (h2 : ¬ (cq = 60 ∧ cj = 13)) (h3 : ¬ (cq = 60 ∧ cj = 14)) (h4 : ¬ (cq = 60 ∧ cj = 15)) (h5 : ¬ (cq = 60 ∧ cj = 16)) (h6 : ¬ (cq = 60 ∧ cj = 17)) (h7 : ¬ (cq = 60 ∧ cj = 18)) (h8 : ¬ (cq = 60 ∧ cj = 36)) (h9 : ¬ (cq = 60 ∧ cj = 42)) (h10 : ¬ (cq = 60 ∧ cj = 46)) (h11 : ¬ (cq = 60 ∧ cj = 52)) (h12 : ¬ (cq = 60 ∧ cj = 53)) (h13 : ¬ (cq = 60 ∧ cj = 54)) (h14 : ¬ (cq = 60 ∧ cj = 58)) (h15 : ¬ (cq = 60 ∧ cj = 65)) (h16 : cq ≠ 68) (h17 : cq ≠ 70) (h18 : cq ≠ 71) (h19 : cq ≠ 72) (h20 : cq ≠ 74) (h21 : cq ≠ 76) (h22 : cq ≠ 77) (h23 : cq ≠ 78) (h24 : cq ≠ 79) (h25 : cq ≠ 80) (h26 : cq ≠ 81) (h27 : cq ≠ 82) (h28 : cq ≠ 83) (h29 : cq ≠ 84) (h30 : cq ≠ 85) (h31 : cq ≠ 86) (h32 : cq ≠ 87) (h33 : cq ≠ 88) (h34 : cq ≠ 89) (h35 : cq ≠ 90) (h36 : cq ≠ 91) (h37 : cq ≠ 94) (h38 : cq ≠ 95) (h39 : cq ≠ 96) (h40 : cq ≠ 97) (h41 : cq ≠ 105)  : (f_X12_read_83 fu s l).2.1 cq cj = s cq cj := by
  unfold f_X12_read_83
  repeat' (with_reducible apply itT1)
  all_goals first | with_reducible rfl | simp (disch := first | assumption | omega) only [fr_X12_read_107, wi_f, wi_g, wc_f, ff_s, ff_l, su_f]
set_option maxHeartbeats 1000000 in
theorem ll_X12_read_83 {fu : Nat} {s : fl_I} {l : fl_L}  {cq cj : Nat} (h0 : cq ≠ 69) (h1 : cq ≠ 73) (h2 : cq ≠ 75)  : (f_X12_read_83 fu s l).2.2 cq cj = l cq cj := by
  unfold f_X12_read_83
  repeat' (with_reducible apply itT2)
  all_goals first | with_reducible rfl | simp (disch := first | assumption | omega) only [ll_X12_read_107, wl_f, wl_g, ff_l]
set_option maxHeartbeats 1000000 in
theorem fr_X12_read_45 {fu : Nat} {s : fl_I} {l : fl_L}  {cq cj : Nat} (h0 : ¬ (cq = 60 ∧ cj = 11)) (h1 : ¬ (cq = 60 ∧ cj = 12)) (h2 : ¬ (cq = 60 ∧ cj = 13)) (h3 : ¬ (cq = 60 ∧ cj = 14)) (h4 : ¬ (cq = 60 ∧ cj = 15)) (h5 : ¬ (cq = 60 ∧ cj = 16)) (h6 : ¬ (cq = 60 ∧ cj = 17)) (h7 : ¬ (cq = 60 ∧ cj = 18)) (h8 : ¬ (cq = 60 ∧ cj = 19)) (h9 : ¬ (cq = 60 ∧ cj = 36)) (h10 : ¬ (cq = 60 ∧ cj = 42)) (h11 : ¬ (cq = 60 ∧ cj = 46)) (h12 : ¬ (cq = 60 ∧ cj = 52)) (h13 : ¬ (cq = 60 ∧ cj = 53)) (h14 : ¬ (cq = 60 ∧ cj = 54)) (h15 : ¬ (cq = 60 ∧ cj = 58)) (h16 : ¬ (cq = 60 ∧ cj = 65)) (h17 : cq ≠ 68) (h18 : cq ≠ 70) (h19 : cq ≠ 71) (h20 : cq ≠ 72) (h21 : cq ≠ 74) (h22 : cq ≠ 76) (h23 : cq ≠ 77) (h24 : cq ≠ 78) (h25 : cq ≠ 79) (h26 : cq ≠ 80) (h27 : cq ≠ 81) (h28 : cq ≠ 82) (h29 : cq ≠ 83) (h30 : cq ≠ 84) (h31 : cq ≠ 85) (h32 : cq ≠ 86) (h33 : cq ≠ 87) (h34 : cq ≠ 88) (h35 : cq ≠ 89) (h36 : cq ≠ 90) (h37 : cq ≠ 91) (h38 : cq ≠ 94) (h39 : cq ≠ 95) (h40 : cq ≠ 96) (h41 : cq ≠ 97) (h42 : cq ≠ 105)  : (f_X12_read_45 fu s l).2.1 cq cj = s cq cj := by
  unfold f_X12_read_45
  repeat' (with_reducible apply itT1)
  all_goals first | with_reducible rfl | simp (disch := first | assumption | omega) only [fr_X12_plain, fr_X12_read_83, wi_f, wi_g, wc_f, ff_s, ff_l, su_f]
set_option maxHeartbeats 1000000 in
theorem ll_X12_read_45 {fu : Nat} {s : fl_I} {l : fl_L}  {cq cj : Nat} (h0 : cq ≠ 69) (h1 : cq ≠ 73) (h2 : cq ≠ 75)  : (f_X12_read_45 fu s l).2.2 cq cj = l cq cj := by
  unfold f_X12_read_45
  repeat' (with_reducible apply itT2)
  all_goals first | with_reducible rfl | simp (disch := first | assumption | omega) only [ll_X12_plain, ll_X12_read_83, wl_f, wl_g, ff_l]
set_option maxHeartbeats 1000000 in
theorem fr_X12_read_10 {fu : Nat}   {cq cj : Nat} (h0 : ¬ (cq = 60 ∧ cj = 2)) (h1 : ¬ (cq = 60 ∧ cj = 10)) (h2 : ¬ (cq = 60 ∧ cj = 11)) (h3 : ¬ (cq = 60 ∧ cj = 12)) (h4 : ¬ (cq = 60 ∧ cj = 13)) (h5 : ¬ (cq = 60 ∧ cj = 14)) (h6 : ¬ (cq = 60 ∧ cj = 15)) (h7 : ¬ (cq = 60 ∧ cj = 16)) (h8 : ¬ (cq = 60 ∧ cj = 17)) (h9 : ¬ (cq = 60 ∧ cj = 18)) (h10 : ¬ (cq = 60 ∧ cj = 19)) (h11 : ¬ (cq = 60 ∧ cj = 36)) (h12 : ¬ (cq = 60 ∧ cj = 42)) (h13 : ¬ (cq = 60 ∧ cj = 46)) (h14 : ¬ (cq = 60 ∧ cj = 52)) (h15 : ¬ (cq = 60 ∧ cj = 53)) (h16 : ¬ (cq = 60 ∧ cj = 54)) (h17 : ¬ (cq = 60 ∧ cj = 58)) (h18 : ¬ (cq = 60 ∧ cj = 65)) (h19 : cq ≠ 62) (h20 : cq ≠ 63) (h21 : cq ≠ 64) (h22 : cq ≠ 65) (h23 : cq ≠ 68) (h24 : cq ≠ 70) (h25 : cq ≠ 71) (h26 : cq ≠ 72) (h27 : cq ≠ 74) (h28 : cq ≠ 76) (h29 : cq ≠ 77) (h30 : cq ≠ 78) (h31 : cq ≠ 79) (h32 : cq ≠ 80) (h33 : cq ≠ 81) (h34 : cq ≠ 82) (h35 : cq ≠ 83) (h36 : cq ≠ 84) (h37 : cq ≠ 85) (h38 : cq ≠ 86) (h39 : cq ≠ 87) (h40 : cq ≠ 88) (h41 : cq ≠ 89) (h42 : cq ≠ 90) (h43 : cq ≠ 91) (h44 : cq ≠ 94) (h45 : cq ≠ 95) (h46 : cq ≠ 96) (h47 : cq ≠ 97) (h48 : cq ≠ 105)  : ∀ (n : Nat) (x1 : Int32) (s : fl_I) (l : fl_L), (f_X12_read_10 fu n x1 s l).2.1 cq cj = s cq cj := by
  intro n; induction n with
  | zero => intro x1 s l; rfl
  | succ n ih =>
    intro x1 s l; unfold f_X12_read_10
    repeat' (with_reducible apply itT1)
    all_goals first | with_reducible rfl | with_reducible exact ih _ _ _ | simp (disch := first | assumption | omega | (intros; with_reducible exact ih _ _ _)) only [ih, fr_X12_cut, fr_X12_read_45, wi_f, wi_g, wc_f, ff_s, ff_l, su_f]
set_option maxHeartbeats 1000000 in
theorem ll_X12_read_10 {fu : Nat}   {cq cj : Nat} (h0 : cq ≠ 66) (h1 : cq ≠ 69) (h2 : cq ≠ 73) (h3 : cq ≠ 75)  : ∀ (n : Nat) (x1 : Int32) (s : fl_I) (l : fl_L), (f_X12_read_10 fu n x1 s l).2.2 cq cj = l cq cj := by
  intro n; induction n with
  | zero => intro x1 s l; rfl
  | succ n ih =>
    intro x1 s l; unfold f_X12_read_10
    repeat' (with_reducible apply itT2)
    all_goals first | with_reducible rfl | with_reducible exact ih _ _ _ | simp (disch := first | assumption | omega | (intros; with_reducible exact ih _ _ _)) only [ih, ll_X12_cut, ll_X12_read_45, wl_f, wl_g, ff_l]
set_option maxHeartbeats 1000000 in
theorem fr_X12_read {fu : Nat} {s : fl_I} {l : fl_L}  {cq cj : Nat} (h0 : ¬ (cq = 60 ∧ cj = 2)) (h1 : ¬ (cq = 60 ∧ cj = 4)) (h2 : ¬ (cq = 60 ∧ cj = 10)) (h3 : ¬ (cq = 60 ∧ cj = 11)) (h4 : ¬ (cq = 60 ∧ cj = 12)) (h5 : ¬ (cq = 60 ∧ cj = 13)) (h6 : ¬ (cq = 60 ∧ cj = 14)) (h7 : ¬ (cq = 60 ∧ cj = 15)) (h8 : ¬ (cq = 60 ∧ cj = 16)) (h9 : ¬ (cq = 60 ∧ cj = 17)) (h10 : ¬ (cq = 60 ∧ cj = 18)) (h11 : ¬ (cq = 60 ∧ cj = 19)) (h12 : ¬ (cq = 60 ∧ cj = 36)) (h13 : ¬ (cq = 60 ∧ cj = 42)) (h14 : ¬ (cq = 60 ∧ cj = 46)) (h15 : ¬ (cq = 60 ∧ cj = 52)) (h16 : ¬ (cq = 60 ∧ cj = 53)) (h17 : ¬ (cq = 60 ∧ cj = 54)) (h18 : ¬ (cq = 60 ∧ cj = 58)) (h19 : ¬ (cq = 60 ∧ cj = 65)) (h20 : cq ≠ 62) (h21 : cq ≠ 63) (h22 : cq ≠ 64) (h23 : cq ≠ 65) (h24 : cq ≠ 68) (h25 : cq ≠ 70) (h26 : cq ≠ 71) (h27 : cq ≠ 72) (h28 : cq ≠ 74) (h29 : cq ≠ 76) (h30 : cq ≠ 77) (h31 : cq ≠ 78) (h32 : cq ≠ 79) (h33 : cq ≠ 80) (h34 : cq ≠ 81) (h35 : cq ≠ 82) (h36 : cq ≠ 83) (h37 : cq ≠ 84) (h38 : cq ≠ 85) (h39 : cq ≠ 86) (h40 : cq ≠ 87) (h41 : cq ≠ 88) (h42 : cq ≠ 89) (h43 : cq ≠ 90) (h44 : cq ≠ 91) (h45 : cq ≠ 94) (h46 : cq ≠ 95) (h47 : cq ≠ 96) (h48 : cq ≠ 97) (h49 : cq ≠ 105)  : (f_X12_read fu s l).2.1 cq cj = s cq cj := by
  unfold f_X12_read
  repeat' (with_reducible apply itT1)
  all_goals first | with_reducible rfl | simp (disch := first | assumption | omega) only [fr_X12_read_10, wi_f, wi_g, wc_f, ff_s, ff_l, su_f]
set_option maxHeartbeats 1000000 in
theorem ll_X12_read {fu : Nat} {s : fl_I} {l : fl_L}  {cq cj : Nat} (h0 : cq ≠ 66) (h1 : cq ≠ 69) (h2 : cq ≠ 73) (h3 : cq ≠ 75)  : (f_X12_read fu s l).2.2 cq cj = l cq cj := by
  unfold f_X12_read
  repeat' (with_reducible apply itT2)
  all_goals first | with_reducible rfl | simp (disch := first | assumption | omega) only [ll_X12_read_10, wl_f, wl_g, ff_l]
set_option maxHeartbeats 1000000 in
theorem fr_X11_made {fu : Nat} {v0 : Int32} {D : fl_D} {s : fl_I} {l : fl_L}  {cq cj : Nat} (h0 : cq ≠ 56)  : (f_X11_made fu v0 D s l).2.1 cq cj = s cq cj := by
  unfold f_X11_made
  repeat' (with_reducible apply itT1)
  all_goals first | with_reducible rfl | simp (disch := first | assumption | omega) only [fr_X0_gather, fr_X0_makes, wi_f, wi_g, wc_f, ff_s, ff_l, su_f]
set_option maxHeartbeats 1000000 in
theorem ll_X11_made {fu : Nat} {v0 : Int32} {D : fl_D} {s : fl_I} {l : fl_L}    : (f_X11_made fu v0 D s l).2.2 = l := by
  unfold f_X11_made
  repeat' (with_reducible apply itT3)
  all_goals first | with_reducible rfl | simp (disch := first | assumption | omega) only [ll_X0_gather, ll_X0_makes, ff_l]
set_option maxHeartbeats 1000000 in
theorem fr_X11_owedToAll_4 {fu : Nat}  {D : fl_D} {cq cj : Nat} (h0 : cq ≠ 48) (h1 : cq ≠ 49)  : ∀ (n : Nat) (x1 : Int32) (x2 : Int32) (s : fl_I) (l : fl_L), (f_X11_owedToAll_4 fu n x1 x2 D s l).2.1 cq cj = s cq cj := by
  intro n; induction n with
  | zero => intro x1 x2 s l; rfl
  | succ n ih =>
    intro x1 x2 s l; unfold f_X11_owedToAll_4
    repeat' (with_reducible apply itT1)
    all_goals first | with_reducible rfl | with_reducible exact ih _ _ _ _ | simp (disch := first | assumption | omega | (intros; with_reducible exact ih _ _ _ _)) only [ih, fr_X9_owed, wi_f, wi_g, wc_f, ff_s, ff_l, su_f]
set_option maxHeartbeats 1000000 in
theorem ll_X11_owedToAll_4 {fu : Nat}  {D : fl_D} {cq cj : Nat}   : ∀ (n : Nat) (x1 : Int32) (x2 : Int32) (s : fl_I) (l : fl_L), (f_X11_owedToAll_4 fu n x1 x2 D s l).2.2 cq cj = l cq cj := by
  intro n; induction n with
  | zero => intro x1 x2 s l; rfl
  | succ n ih =>
    intro x1 x2 s l; unfold f_X11_owedToAll_4
    repeat' (with_reducible apply itT2)
    all_goals first | with_reducible rfl | with_reducible exact ih _ _ _ _ | simp (disch := first | assumption | omega | (intros; with_reducible exact ih _ _ _ _)) only [ih, ll_X9_owed, wl_f, wl_g, ff_l]
set_option maxHeartbeats 1000000 in
theorem fr_X11_owedToAll {fu : Nat} {D : fl_D} {s : fl_I} {l : fl_L}  {cq cj : Nat} (h0 : cq ≠ 48) (h1 : cq ≠ 49)  : (f_X11_owedToAll fu D s l).2.1 cq cj = s cq cj := by
  unfold f_X11_owedToAll
  repeat' (with_reducible apply itT1)
  all_goals first | with_reducible rfl | simp (disch := first | assumption | omega) only [fr_X11_owedToAll_4, wi_f, wi_g, wc_f, ff_s, ff_l, su_f]
set_option maxHeartbeats 1000000 in
theorem ll_X11_owedToAll {fu : Nat} {D : fl_D} {s : fl_I} {l : fl_L}  {cq cj : Nat}   : (f_X11_owedToAll fu D s l).2.2 cq cj = l cq cj := by
  unfold f_X11_owedToAll
  repeat' (with_reducible apply itT2)
  all_goals first | with_reducible rfl | simp (disch := first | assumption | omega) only [ll_X11_owedToAll_4, wl_f, wl_g, ff_l]
set_option maxHeartbeats 1000000 in
theorem fr_X12_owedTo_4 {fu : Nat}   {cq cj : Nat} (h0 : ¬ (cq = 60 ∧ cj = 49)) (h1 : cq ≠ 92) (h2 : cq ≠ 93)  : ∀ (n : Nat) (x1 : Int32) (x2 : Int32) (x3 : Int32) (s : fl_I) (l : fl_L), (f_X12_owedTo_4 fu n x1 x2 x3 s l).2.1 cq cj = s cq cj := by
  intro n; induction n with
  | zero => intro x1 x2 x3 s l; rfl
  | succ n ih =>
    intro x1 x2 x3 s l; unfold f_X12_owedTo_4
    repeat' (with_reducible apply itT1)
    all_goals first | with_reducible rfl | with_reducible exact ih _ _ _ _ _ | simp (disch := first | assumption | omega | (intros; with_reducible exact ih _ _ _ _ _)) only [ih, fr_X12_paysOf, wi_f, wi_g, wc_f, ff_s, ff_l, su_f]
set_option maxHeartbeats 1000000 in
theorem ll_X12_owedTo_4 {fu : Nat}   {cq cj : Nat}   : ∀ (n : Nat) (x1 : Int32) (x2 : Int32) (x3 : Int32) (s : fl_I) (l : fl_L), (f_X12_owedTo_4 fu n x1 x2 x3 s l).2.2 cq cj = l cq cj := by
  intro n; induction n with
  | zero => intro x1 x2 x3 s l; rfl
  | succ n ih =>
    intro x1 x2 x3 s l; unfold f_X12_owedTo_4
    repeat' (with_reducible apply itT2)
    all_goals first | with_reducible rfl | with_reducible exact ih _ _ _ _ _ | simp (disch := first | assumption | omega | (intros; with_reducible exact ih _ _ _ _ _)) only [ih, ll_X12_paysOf, wl_f, wl_g, ff_l]
