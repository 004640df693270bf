set_option maxHeartbeats 1000000 in
theorem fr_X12_owedTo {fu : Nat} {v0 : Int32} {s : fl_I} {l : fl_L}  {cq cj : Nat} (h0 : ¬ (cq = 60 ∧ cj = 49)) (h1 : cq ≠ 92) (h2 : cq ≠ 93)  : (f_X12_owedTo fu v0 s l).2.1 cq cj = s cq cj := by
  unfold f_X12_owedTo
  repeat' (with_reducible apply itT1)
  all_goals first | with_reducible rfl | simp (disch := first | assumption | omega) only [fr_X12_owedTo_4, wi_f, wi_g, wc_f, ff_s, ff_l, su_f]
set_option maxHeartbeats 1000000 in
theorem ll_X12_owedTo {fu : Nat} {v0 : Int32} {s : fl_I} {l : fl_L}  {cq cj : Nat}   : (f_X12_owedTo fu v0 s l).2.2 cq cj = l cq cj := by
  unfold f_X12_owedTo
  repeat' (with_reducible apply itT2)
  all_goals first | with_reducible rfl | simp (disch := first | assumption | omega) only [ll_X12_owedTo_4, wl_f, wl_g, ff_l]
set_option maxHeartbeats 1000000 in
theorem fr_X11_loss {fu : Nat} {v0 : Int32} {D : fl_D} {s : fl_I} {l : fl_L}  {cq cj : Nat} (h0 : ¬ (cq = 37 ∧ cj = 0)) (h1 : ¬ (cq = 37 ∧ cj = 1)) (h2 : ¬ (cq = 37 ∧ cj = 2)) (h3 : cq ≠ 38) (h4 : cq ≠ 39) (h5 : cq ≠ 40) (h6 : cq ≠ 41) (h7 : cq ≠ 42) (h8 : cq ≠ 48) (h9 : cq ≠ 49) (h10 : cq ≠ 50)  : (f_X11_loss fu v0 D s l).2.1 cq cj = s cq cj := by
  unfold f_X11_loss
  repeat' (with_reducible apply itT1)
  all_goals first | with_reducible rfl | simp (disch := first | assumption | omega) only [fr_X10_copy, fr_X9_goOn, fr_X9_takesOfAll, wi_f, wi_g, wc_f, ff_s, ff_l, su_f]
set_option maxHeartbeats 1000000 in
theorem ll_X11_loss {fu : Nat} {v0 : Int32} {D : fl_D} {s : fl_I} {l : fl_L}  {cq cj : Nat}   : (f_X11_loss fu v0 D s l).2.2 cq cj = l cq cj := by
  unfold f_X11_loss
  repeat' (with_reducible apply itT2)
  all_goals first | with_reducible rfl | simp (disch := first | assumption | omega) only [ll_X10_copy, ll_X9_goOn, ll_X9_takesOfAll, wl_f, wl_g, ff_l]
set_option maxHeartbeats 1000000 in
theorem fr_X11_late_13 {fu : Nat}  {D : fl_D} {cq cj : Nat} (h0 : ¬ (cq = 37 ∧ cj = 0)) (h1 : cq ≠ 38) (h2 : cq ≠ 39) (h3 : cq ≠ 40) (h4 : cq ≠ 41) (h5 : cq ≠ 42) (h6 : cq ≠ 48) (h7 : cq ≠ 49) (h8 : cq ≠ 50)  : ∀ (n : Nat) (x1 : Int32) (s : fl_I) (l : fl_L), (f_X11_late_13 fu n x1 D s l).2.1 cq cj = s cq cj := by
  intro n; induction n with
  | zero => intro x1 s l; rfl
  | succ n ih =>
    intro x1 s l; unfold f_X11_late_13
    repeat' (with_reducible apply itT1)
    all_goals first | with_reducible rfl | with_reducible exact ih _ _ _ | simp (disch := first | assumption | omega | (intros; with_reducible exact ih _ _ _)) only [ih, fr_X9_goOn, wi_f, wi_g, wc_f, ff_s, ff_l, su_f]
set_option maxHeartbeats 1000000 in
theorem ll_X11_late_13 {fu : Nat}  {D : fl_D} {cq cj : Nat}   : ∀ (n : Nat) (x1 : Int32) (s : fl_I) (l : fl_L), (f_X11_late_13 fu n x1 D s l).2.2 cq cj = l cq cj := by
  intro n; induction n with
  | zero => intro x1 s l; rfl
  | succ n ih =>
    intro x1 s l; unfold f_X11_late_13
    repeat' (with_reducible apply itT2)
    all_goals first | with_reducible rfl | with_reducible exact ih _ _ _ | simp (disch := first | assumption | omega | (intros; with_reducible exact ih _ _ _)) only [ih, ll_X9_goOn, wl_f, wl_g, ff_l]
set_option maxHeartbeats 1000000 in
theorem fr_X11_late {fu : Nat} {D : fl_D} {s : fl_I} {l : fl_L}  {cq cj : Nat} (h0 : ¬ (cq = 37 ∧ cj = 0)) (h1 : ¬ (cq = 37 ∧ cj = 1)) (h2 : ¬ (cq = 37 ∧ cj = 2)) (h3 : cq ≠ 38) (h4 : cq ≠ 39) (h5 : cq ≠ 40) (h6 : cq ≠ 41) (h7 : cq ≠ 42) (h8 : cq ≠ 48) (h9 : cq ≠ 49) (h10 : cq ≠ 50)  : (f_X11_late fu D s l).2.1 cq cj = s cq cj := by
  unfold f_X11_late
  repeat' (with_reducible apply itT1)
  all_goals first | with_reducible rfl | simp (disch := first | assumption | omega) only [fr_X10_copy, fr_X11_late_13, wi_f, wi_g, wc_f, ff_s, ff_l, su_f]
set_option maxHeartbeats 1000000 in
theorem ll_X11_late {fu : Nat} {D : fl_D} {s : fl_I} {l : fl_L}  {cq cj : Nat}   : (f_X11_late fu D s l).2.2 cq cj = l cq cj := by
  unfold f_X11_late
  repeat' (with_reducible apply itT2)
  all_goals first | with_reducible rfl | simp (disch := first | assumption | omega) only [ll_X10_copy, ll_X11_late_13, wl_f, wl_g, ff_l]
set_option maxHeartbeats 1000000 in
theorem fr_X3_plainTold {fu : Nat} {t : Nat} {s : fl_I} {l : fl_L}  {cq cj : Nat} (h0 : ¬ (cq = 3 ∧ cj = 0)) (h1 : ¬ (cq = 3 ∧ cj = 2)) (h2 : ¬ (cq = 3 ∧ cj = 3)) (h3 : ¬ (cq = 3 ∧ cj = 4)) (h4 : ¬ (cq = 3 ∧ cj = 5)) (h5 : ¬ (cq = 3 ∧ cj = 6)) (h6 : cq ≠ (t + 4)) (h7 : cq ≠ (t + 5)) (h8 : cq ≠ (t + 6)) (h9 : cq ≠ (t + 7)) (h10 : cq ≠ (t + 8)) (h11 : ¬ (cq = t ∧ cj = 0)) (h12 : ¬ (cq = t ∧ cj = 1)) (h13 : ¬ (cq = t ∧ cj = 2)) (h14 : ¬ (cq = t ∧ cj = 3)) (h15 : ¬ (cq = t ∧ cj = 15)) (h16 : ¬ (cq = t ∧ cj = 16)) (h17 : ¬ (cq = t ∧ cj = 17)) (h18 : ¬ (cq = t ∧ cj = 18))  : (f_X3_plainTold fu t s l).2.1 cq cj = s cq cj := by
  unfold f_X3_plainTold
  repeat' (with_reducible apply itT1)
  all_goals first | with_reducible rfl | simp (disch := first | assumption | omega) only [fr_X3_letterTold, fr_X3_pickerTold, fr_X3_rainTold, fr_X3_seedTold, fr_X3_stop, fr_X3_windTold, fr_X3_wordTold, wi_f, wi_g, wc_f, ff_s, ff_l, su_f]
set_option maxHeartbeats 1000000 in
theorem ll_X3_plainTold {fu : Nat} {t : Nat} {s : fl_I} {l : fl_L}  {cq cj : Nat} (h0 : ¬ (cq = 3 ∧ cj = 7)) (h1 : cq ≠ (t + 1)) (h2 : cq ≠ (t + 2)) (h3 : cq ≠ (t + 3))  : (f_X3_plainTold fu t s l).2.2 cq cj = l cq cj := by
  unfold f_X3_plainTold
  repeat' (with_reducible apply itT2)
  all_goals first | with_reducible rfl | simp (disch := first | assumption | omega) only [ll_X3_letterTold, ll_X3_pickerTold, ll_X3_rainTold, ll_X3_seedTold, ll_X3_stop, ll_X3_windTold, ll_X3_wordTold, wl_f, wl_g, ff_l]
set_option maxHeartbeats 1000000 in
theorem fr_X12_hourGoes_28 {fu : Nat}   {cq cj : Nat} (h0 : ¬ (cq = 60 ∧ cj = 49)) (h1 : cq ≠ 92) (h2 : cq ≠ 93) (h3 : cq ≠ 95) (h4 : cq ≠ 98)  : ∀ (n : Nat) (x1 : Int32) (s : fl_I) (l : fl_L), (f_X12_hourGoes_28 fu n x1 s l).1 cq cj = s cq cj := by
  intro n; induction n with
  | zero => intro x1 s l; rfl
  | succ n ih =>
    intro x1 s l; unfold f_X12_hourGoes_28
    repeat' (with_reducible apply itP1)
    all_goals first | with_reducible rfl | with_reducible exact ih _ _ _ | simp (disch := first | assumption | omega | (intros; with_reducible exact ih _ _ _)) only [ih, fr_X12_blows, fr_X12_picksUp, wi_f, wi_g, wc_f, ff_s, ff_l, su_f]
set_option maxHeartbeats 1000000 in
theorem ll_X12_hourGoes_28 {fu : Nat}   {cq cj : Nat}   : ∀ (n : Nat) (x1 : Int32) (s : fl_I) (l : fl_L), (f_X12_hourGoes_28 fu n x1 s l).2 cq cj = l cq cj := by
  intro n; induction n with
  | zero => intro x1 s l; rfl
  | succ n ih =>
    intro x1 s l; unfold f_X12_hourGoes_28
    repeat' (with_reducible apply itP2)
    all_goals first | with_reducible rfl | with_reducible exact ih _ _ _ | simp (disch := first | assumption | omega | (intros; with_reducible exact ih _ _ _)) only [ih, ll_X12_blows, ll_X12_picksUp, wl_f, wl_g, ff_l]
set_option maxHeartbeats 1000000 in
theorem fr_X12_hourGoes_2 {fu : Nat}   {cq cj : Nat} (h0 : ¬ (cq = 60 ∧ cj = 49)) (h1 : cq ≠ 92) (h2 : cq ≠ 93) (h3 : cq ≠ 95) (h4 : cq ≠ 98)  : ∀ (n : Nat) (x1 : Int32) (s : fl_I) (l : fl_L), (f_X12_hourGoes_2 fu n x1 s l).1 cq cj = s cq cj := by
  intro n; induction n with
  | zero => intro x1 s l; rfl
  | succ n ih =>
    intro x1 s l; unfold f_X12_hourGoes_2
    repeat' (with_reducible apply itP1)
    all_goals first | with_reducible rfl | with_reducible exact ih _ _ _ | simp (disch := first | assumption | omega | (intros; with_reducible exact ih _ _ _)) only [ih, fr_X12_hourGoes_28, fr_X12_pickerGoes, wi_f, wi_g, wc_f, ff_s, ff_l, su_f]
set_option maxHeartbeats 1000000 in
theorem ll_X12_hourGoes_2 {fu : Nat}   {cq cj : Nat}   : ∀ (n : Nat) (x1 : Int32) (s : fl_I) (l : fl_L), (f_X12_hourGoes_2 fu n x1 s l).2 cq cj = l cq cj := by
  intro n; induction n with
  | zero => intro x1 s l; rfl
  | succ n ih =>
    intro x1 s l; unfold f_X12_hourGoes_2
    repeat' (with_reducible apply itP2)
    all_goals first | with_reducible rfl | with_reducible exact ih _ _ _ | simp (disch := first | assumption | omega | (intros; with_reducible exact ih _ _ _)) only [ih, ll_X12_hourGoes_28, ll_X12_pickerGoes, wl_f, wl_g, ff_l]
set_option maxHeartbeats 1000000 in
theorem fr_X12_hourGoes {fu : Nat} {s : fl_I} {l : fl_L}  {cq cj : Nat} (h0 : ¬ (cq = 60 ∧ cj = 49)) (h1 : cq ≠ 92) (h2 : cq ≠ 93) (h3 : cq ≠ 95) (h4 : cq ≠ 98)  : (f_X12_hourGoes fu s l).1 cq cj = s cq cj := by
  unfold f_X12_hourGoes
  repeat' (with_reducible apply itP1)
  all_goals first | with_reducible rfl | simp (disch := first | assumption | omega) only [fr_X12_hourGoes_2, wi_f, wi_g, wc_f, ff_s, ff_l, su_f]
set_option maxHeartbeats 1000000 in
theorem ll_X12_hourGoes {fu : Nat} {s : fl_I} {l : fl_L}  {cq cj : Nat}   : (f_X12_hourGoes fu s l).2 cq cj = l cq cj := by
  unfold f_X12_hourGoes
  repeat' (with_reducible apply itP2)
  all_goals first | with_reducible rfl | simp (disch := first | assumption | omega) only [ll_X12_hourGoes_2, wl_f, wl_g, ff_l]
set_option maxHeartbeats 1000000 in
theorem fr_X3_fill_32 {fu : Nat}  {t : Nat} {cq cj : Nat} (h0 : ¬ (cq = 3 ∧ cj = 0)) (h1 : ¬ (cq = 3 ∧ cj = 2)) (h2 : ¬ (cq = 3 ∧ cj = 3)) (h3 : ¬ (cq = 3 ∧ cj = 4)) (h4 : ¬ (cq = 3 ∧ cj = 5)) (h5 : ¬ (cq = 3 ∧ cj = 6)) (h6 : cq ≠ (t + 10)) (h7 : cq ≠ (t + 4)) (h8 : cq ≠ (t + 5)) (h9 : cq ≠ (t + 6)) (h10 : cq ≠ (t + 7)) (h11 : cq ≠ (t + 8)) (h12 : cq ≠ (t + 9)) (h13 : ¬ (cq = t ∧ cj = 0)) (h14 : ¬ (cq = t ∧ cj = 1)) (h15 : ¬ (cq = t ∧ cj = 2)) (h16 : ¬ (cq = t ∧ cj = 3)) (h17 : ¬ (cq = t ∧ cj = 14)) (h18 : ¬ (cq = t ∧ cj = 15)) (h19 : ¬ (cq = t ∧ cj = 16)) (h20 : ¬ (cq = t ∧ cj = 17)) (h21 : ¬ (cq = t ∧ cj = 18))  : ∀ (n : Nat) (x3 : Int32) (x4 : Int32) (s : fl_I) (l : fl_L), (f_X3_fill_32 fu n x3 x4 t s l).2.1 cq cj = s cq cj := by
  intro n; induction n with
  | zero => intro x3 x4 s l; rfl
  | succ n ih =>
    intro x3 x4 s l; unfold f_X3_fill_32
    repeat' (with_reducible apply itT1)
    all_goals first | with_reducible rfl | with_reducible exact ih _ _ _ _ | simp (disch := first | assumption | omega | (intros; with_reducible exact ih _ _ _ _)) only [ih, fr_X3_lawTold, fr_X3_plainTold, wi_f, wi_g, wc_f, ff_s, ff_l, su_f]
set_option maxHeartbeats 1000000 in
theorem ll_X3_fill_32 {fu : Nat}  {t : Nat} {cq cj : Nat} (h0 : ¬ (cq = 3 ∧ cj = 7)) (h1 : cq ≠ (t + 1)) (h2 : cq ≠ (t + 2)) (h3 : cq ≠ (t + 3))  : ∀ (n : Nat) (x3 : Int32) (x4 : Int32) (s : fl_I) (l : fl_L), (f_X3_fill_32 fu n x3 x4 t s l).2.2 cq cj = l cq cj := by
  intro n; induction n with
  | zero => intro x3 x4 s l; rfl
  | succ n ih =>
    intro x3 x4 s l; unfold f_X3_fill_32
    repeat' (with_reducible apply itT2)
    all_goals first | with_reducible rfl | with_reducible exact ih _ _ _ _ | simp (disch := first | assumption | omega | (intros; with_reducible exact ih _ _ _ _)) only [ih, ll_X3_lawTold, ll_X3_plainTold, wl_f, wl_g, ff_l]
set_option maxHeartbeats 1000000 in
theorem fr_X3_fill {fu : Nat} {t : Nat} {s : fl_I} {l : fl_L}  {cq cj : Nat} (h0 : ¬ (cq = 3 ∧ cj = 0)) (h1 : ¬ (cq = 3 ∧ cj = 2)) (h2 : ¬ (cq = 3 ∧ cj = 3)) (h3 : ¬ (cq = 3 ∧ cj = 4)) (h4 : ¬ (cq = 3 ∧ cj = 5)) (h5 : ¬ (cq = 3 ∧ cj = 6)) (h6 : ¬ (cq = 4 ∧ cj = 4)) (h7 : cq ≠ 5) (h8 : cq ≠ 6) (h9 : cq ≠ (t + 10)) (h10 : cq ≠ (t + 4)) (h11 : cq ≠ (t + 5)) (h12 : cq ≠ (t + 6)) (h13 : cq ≠ (t + 7)) (h14 : cq ≠ (t + 8)) (h15 : cq ≠ (t + 9)) (h16 : ¬ (cq = t ∧ cj = 0)) (h17 : ¬ (cq = t ∧ cj = 1)) (h18 : ¬ (cq = t ∧ cj = 2)) (h19 : ¬ (cq = t ∧ cj = 3)) (h20 : ¬ (cq = t ∧ cj = 14)) (h21 : ¬ (cq = t ∧ cj = 15)) (h22 : ¬ (cq = t ∧ cj = 16)) (h23 : ¬ (cq = t ∧ cj = 17)) (h24 : ¬ (cq = t ∧ cj = 18))  : (f_X3_fill fu t s l).2.1 cq cj = s cq cj := by
  unfold f_X3_fill
  repeat' (with_reducible apply itT1)
  all_goals first | with_reducible rfl | simp (disch := first | assumption | omega) only [fr_X3_fill_32, fr_X5_clear, fr_X6_split, wi_f, wi_g, wc_f, ff_s, ff_l, su_f]
set_option maxHeartbeats 1000000 in
theorem ll_X3_fill {fu : Nat} {t : Nat} {s : fl_I} {l : fl_L}  {cq cj : Nat} (h0 : ¬ (cq = 3 ∧ cj = 7)) (h1 : cq ≠ 7) (h2 : cq ≠ (t + 1)) (h3 : cq ≠ (t + 2)) (h4 : cq ≠ (t + 3))  : (f_X3_fill fu t s l).2.2 cq cj = l cq cj := by
  unfold f_X3_fill
  repeat' (with_reducible apply itT2)
  all_goals first | with_reducible rfl | simp (disch := first | assumption | omega) only [ll_X3_fill_32, ll_X5_clear, ll_X6_split, wl_f, wl_g, ff_l]
set_option maxHeartbeats 1000000 in
theorem fr_X12_picker {fu : Nat} {v0 : Int32} {v1 : Int32} {s : fl_I} {l : fl_L}  {cq cj : Nat} (h0 : ¬ (cq = 60 ∧ cj = 49)) (h1 : ¬ (cq = 60 ∧ cj = 52)) (h2 : ¬ (cq = 60 ∧ cj = 53)) (h3 : cq ≠ 92) (h4 : cq ≠ 93) (h5 : cq ≠ 95)  : (f_X12_picker fu v0 v1 s l).2.1 cq cj = s cq cj := by
  unfold f_X12_picker
  repeat' (with_reducible apply itT1)
  all_goals first | with_reducible rfl | simp (disch := first | assumption | omega) only [fr_X12_copies, fr_X12_owedTo, wi_f, wi_g, wc_f, ff_s, ff_l, su_f]
set_option maxHeartbeats 1000000 in
theorem ll_X12_picker {fu : Nat} {v0 : Int32} {v1 : Int32} {s : fl_I} {l : fl_L}  {cq cj : Nat}   : (f_X12_picker fu v0 v1 s l).2.2 cq cj = l cq cj := by
  unfold f_X12_picker
  repeat' (with_reducible apply itT2)
  all_goals first | with_reducible rfl | simp (disch := first | assumption | omega) only [ll_X12_copies, ll_X12_owedTo, wl_f, wl_g, ff_l]
set_option maxHeartbeats 1000000 in
theorem fr_X11_count {fu : Nat} {v0 : Int32} {D : fl_D} {s : fl_I} {l : fl_L}  {cq cj : Nat} (h0 : cq ≠ 48) (h1 : cq ≠ 49) (h2 : cq ≠ 59)  : (f_X11_count fu v0 D s l).2.1 cq cj = s cq cj := by
  unfold f_X11_count
  repeat' (with_reducible apply itT1)
  all_goals first | with_reducible rfl | simp (disch := first | assumption | omega) only [fr_X10_countCells, fr_X11_owedToAll, wi_f, wi_g, wc_f, ff_s, ff_l, su_f]
set_option maxHeartbeats 1000000 in
theorem ll_X11_count {fu : Nat} {v0 : Int32} {D : fl_D} {s : fl_I} {l : fl_L}  {cq cj : Nat}   : (f_X11_count fu v0 D s l).2.2 cq cj = l cq cj := by
  unfold f_X11_count
  repeat' (with_reducible apply itT2)
  all_goals first | with_reducible rfl | simp (disch := first | assumption | omega) only [ll_X10_countCells, ll_X11_owedToAll, wl_f, wl_g, ff_l]
set_option maxHeartbeats 1000000 in
theorem fr_X12_count_142 {fu : Nat}   {cq cj : Nat} (h0 : ¬ (cq = 60 ∧ cj = 49)) (h1 : cq ≠ 92) (h2 : cq ≠ 93)  : ∀ (n : Nat) (x2 : Int32) (x3 : Int32) (s : fl_I) (l : fl_L), (f_X12_count_142 fu n x2 x3 s l).2.1 cq cj = s cq cj := by
  intro n; induction n with
  | zero => intro x2 x3 s l; rfl
  | succ n ih =>
    intro x2 x3 s l; unfold f_X12_count_142
    repeat' (with_reducible apply itT1)
    all_goals first | with_reducible rfl | with_reducible exact ih _ _ _ _ | simp (disch := first | assumption | omega | (intros; with_reducible exact ih _ _ _ _)) only [ih, fr_X12_owedTo, wi_f, wi_g, wc_f, ff_s, ff_l, su_f]
set_option maxHeartbeats 1000000 in
theorem ll_X12_count_142 {fu : Nat}   {cq cj : Nat}   : ∀ (n : Nat) (x2 : Int32) (x3 : Int32) (s : fl_I) (l : fl_L), (f_X12_count_142 fu n x2 x3 s l).2.2 cq cj = l cq cj := by
  intro n; induction n with
  | zero => intro x2 x3 s l; rfl
  | succ n ih =>
    intro x2 x3 s l; unfold f_X12_count_142
    repeat' (with_reducible apply itT2)
    all_goals first | with_reducible rfl | with_reducible exact ih _ _ _ _ | simp (disch := first | assumption | omega | (intros; with_reducible exact ih _ _ _ _)) only [ih, ll_X12_owedTo, wl_f, wl_g, ff_l]
set_option maxHeartbeats 1000000 in
theorem fr_X12_count_246 {fu : Nat}   {cq cj : Nat}   : ∀ (n : Nat) (x2 : Int32) (x3 : Int32) (s : fl_I) (l : fl_L), (f_X12_count_246 fu n x2 x3 s l).2.1 cq cj = s cq cj := by
  intro n; induction n with
  | zero => intro x2 x3 s l; rfl
  | succ n ih =>
    intro x2 x3 s l; unfold f_X12_count_246
    repeat' (with_reducible apply itT1)
    all_goals first | with_reducible rfl | with_reducible exact ih _ _ _ _ | simp (disch := first | assumption | omega | (intros; with_reducible exact ih _ _ _ _)) only [ih, wi_f, wi_g, wc_f, ff_s, ff_l, su_f]
set_option maxHeartbeats 1000000 in
theorem ll_X12_count_246 {fu : Nat}     : ∀ (n : Nat) (x2 : Int32) (x3 : Int32) (s : fl_I) (l : fl_L), (f_X12_count_246 fu n x2 x3 s l).2.2 = l := by
  intro n; induction n with
  | zero => intro x2 x3 s l; rfl
  | succ n ih =>
    intro x2 x3 s l; unfold f_X12_count_246
    repeat' (with_reducible apply itT3)
    all_goals first | with_reducible rfl | with_reducible exact ih _ _ _ _ | simp (disch := first | assumption | omega | (intros; with_reducible exact ih _ _ _ _)) only [ih, ff_l]
set_option maxHeartbeats 1000000 in
theorem fr_X12_count_288 {fu : Nat}   {cq cj : Nat}   : ∀ (n : Nat) (x2 : Int32) (x3 : Int32) (s : fl_I) (l : fl_L), (f_X12_count_288 fu n x2 x3 s l).2.1 cq cj = s cq cj := by
  intro n; induction n with
  | zero => intro x2 x3 s l; rfl
  | succ n ih =>
    intro x2 x3 s l; unfold f_X12_count_288
    repeat' (with_reducible apply itT1)
    all_goals first | with_reducible rfl | with_reducible exact ih _ _ _ _ | simp (disch := first | assumption | omega | (intros; with_reducible exact ih _ _ _ _)) only [ih, wi_f, wi_g, wc_f, ff_s, ff_l, su_f]
set_option maxHeartbeats 1000000 in
theorem ll_X12_count_288 {fu : Nat}     : ∀ (n : Nat) (x2 : Int32) (x3 : Int32) (s : fl_I) (l : fl_L), (f_X12_count_288 fu n x2 x3 s l).2.2 = l := by
  intro n; induction n with
  | zero => intro x2 x3 s l; rfl
  | succ n ih =>
    intro x2 x3 s l; unfold f_X12_count_288
    repeat' (with_reducible apply itT3)
    all_goals first | with_reducible rfl | with_reducible exact ih _ _ _ _ | simp (disch := first | assumption | omega | (intros; with_reducible exact ih _ _ _ _)) only [ih, ff_l]
set_option maxHeartbeats 1000000 in
theorem fr_X12_count {fu : Nat} {v0 : Int32} {s : fl_I} {l : fl_L}  {cq cj : Nat} (h0 : ¬ (cq = 60 ∧ cj = 49)) (h1 : ¬ (cq = 60 ∧ cj = 52)) (h2 : ¬ (cq = 60 ∧ cj = 53)) (h3 : ¬ (cq = 60 ∧ cj = 60)) (h4 : cq ≠ 92) (h5 : cq ≠ 93) (h6 : cq ≠ 95) (h7 : cq ≠ 100)  : (f_X12_count fu v0 s l).2.1 cq cj = s cq cj := by
  unfold f_X12_count
  repeat' (with_reducible apply itT1)
  all_goals first | with_reducible rfl | simp (disch := first | assumption | omega) only [fr_X12_copies, fr_X12_count_142, fr_X12_count_246, fr_X12_count_288, fr_X12_fillsCells, wi_f, wi_g, wc_f, ff_s, ff_l, su_f]
set_option maxHeartbeats 1000000 in
theorem ll_X12_count {fu : Nat} {v0 : Int32} {s : fl_I} {l : fl_L}  {cq cj : Nat}   : (f_X12_count fu v0 s l).2.2 cq cj = l cq cj := by
  unfold f_X12_count
  repeat' (with_reducible apply itT2)
  all_goals first | with_reducible rfl | simp (disch := first | assumption | omega) only [ll_X12_copies, ll_X12_count_142, ll_X12_count_246, ll_X12_count_288, ll_X12_fillsCells, wl_f, wl_g, ff_l]
set_option maxHeartbeats 1000000 in
theorem fr_X12_goes_2 {fu : Nat}   {cq cj : Nat} (h0 : ¬ (cq = 60 ∧ cj = 49)) (h1 : cq ≠ 92) (h2 : cq ≠ 93) (h3 : cq ≠ 95) (h4 : cq ≠ 98)  : ∀ (n : Nat) (x1 : Int32) (x2 : Int32) (s : fl_I) (l : fl_L), (f_X12_goes_2 fu n x1 x2 s l).1 cq cj = s cq cj := by
  intro n; induction n with
  | zero => intro x1 x2 s l; rfl
  | succ n ih =>
    intro x1 x2 s l; unfold f_X12_goes_2
    repeat' (with_reducible apply itP1)
    all_goals first | with_reducible rfl | with_reducible exact ih _ _ _ _ | simp (disch := first | assumption | omega | (intros; with_reducible exact ih _ _ _ _)) only [ih, fr_X12_hourGoes, wi_f, wi_g, wc_f, ff_s, ff_l, su_f]
set_option maxHeartbeats 1000000 in
theorem ll_X12_goes_2 {fu : Nat}   {cq cj : Nat}   : ∀ (n : Nat) (x1 : Int32) (x2 : Int32) (s : fl_I) (l : fl_L), (f_X12_goes_2 fu n x1 x2 s l).2 cq cj = l cq cj := by
  intro n; induction n with
  | zero => intro x1 x2 s l; rfl
  | succ n ih =>
    intro x1 x2 s l; unfold f_X12_goes_2
    repeat' (with_reducible apply itP2)
    all_goals first | with_reducible rfl | with_reducible exact ih _ _ _ _ | simp (disch := first | assumption | omega | (intros; with_reducible exact ih _ _ _ _)) only [ih, ll_X12_hourGoes, wl_f, wl_g, ff_l]
set_option maxHeartbeats 1000000 in
theorem fr_X12_goes {fu : Nat} {v0 : Int32} {s : fl_I} {l : fl_L}  {cq cj : Nat} (h0 : ¬ (cq = 60 ∧ cj = 49)) (h1 : cq ≠ 92) (h2 : cq ≠ 93) (h3 : cq ≠ 95) (h4 : cq ≠ 98)  : (f_X12_goes fu v0 s l).1 cq cj = s cq cj := by
  unfold f_X12_goes
  repeat' (with_reducible apply itP1)
  all_goals first | with_reducible rfl | simp (disch := first | assumption | omega) only [fr_X12_goes_2, wi_f, wi_g, wc_f, ff_s, ff_l, su_f]
set_option maxHeartbeats 1000000 in
theorem ll_X12_goes {fu : Nat} {v0 : Int32} {s : fl_I} {l : fl_L}  {cq cj : Nat}   : (f_X12_goes fu v0 s l).2 cq cj = l cq cj := by
  unfold f_X12_goes
  repeat' (with_reducible apply itP2)
  all_goals first | with_reducible rfl | simp (disch := first | assumption | omega) only [ll_X12_goes_2, wl_f, wl_g, ff_l]
set_option maxHeartbeats 1000000 in
theorem fr_X12_loss {fu : Nat} {v0 : Int32} {s : fl_I} {l : fl_L}  {cq cj : Nat} (h0 : ¬ (cq = 60 ∧ cj = 49)) (h1 : ¬ (cq = 60 ∧ cj = 52)) (h2 : ¬ (cq = 60 ∧ cj = 53)) (h3 : cq ≠ 92) (h4 : cq ≠ 93) (h5 : cq ≠ 95) (h6 : cq ≠ 98)  : (f_X12_loss fu v0 s l).2.1 cq cj = s cq cj := by
  unfold f_X12_loss
  repeat' (with_reducible apply itT1)
  all_goals first | with_reducible rfl | simp (disch := first | assumption | omega) only [fr_X12_copiesStill, fr_X12_goes, fr_X12_lossNow, wi_f, wi_g, wc_f, ff_s, ff_l, su_f]
set_option maxHeartbeats 1000000 in
theorem ll_X12_loss {fu : Nat} {v0 : Int32} {s : fl_I} {l : fl_L}  {cq cj : Nat}   : (f_X12_loss fu v0 s l).2.2 cq cj = l cq cj := by
  unfold f_X12_loss
  repeat' (with_reducible apply itT2)
  all_goals first | with_reducible rfl | simp (disch := first | assumption | omega) only [ll_X12_copiesStill, ll_X12_goes, ll_X12_lossNow, wl_f, wl_g, ff_l]
set_option maxHeartbeats 1000000 in
theorem fr_X12_late_6 {fu : Nat}   {cq cj : Nat} (h0 : ¬ (cq = 60 ∧ cj = 49)) (h1 : cq ≠ 92) (h2 : cq ≠ 93) (h3 : cq ≠ 95) (h4 : cq ≠ 98)  : ∀ (n : Nat) (x1 : Int32) (s : fl_I) (l : fl_L), (f_X12_late_6 fu n x1 s l).2.1 cq cj = s cq cj := by
  intro n; induction n with
  | zero => intro x1 s l; rfl
  | succ n ih =>
    intro x1 s l; unfold f_X12_late_6
    repeat' (with_reducible apply itT1)
    all_goals first | with_reducible rfl | with_reducible exact ih _ _ _ | simp (disch := first | assumption | omega | (intros; with_reducible exact ih _ _ _)) only [ih, fr_X12_hourGoes, wi_f, wi_g, wc_f, ff_s, ff_l, su_f]
set_option maxHeartbeats 1000000 in
theorem ll_X12_late_6 {fu : Nat}   {cq cj : Nat}   : ∀ (n : Nat) (x1 : Int32) (s : fl_I) (l : fl_L), (f_X12_late_6 fu n x1 s l).2.2 cq cj = l cq cj := by
  intro n; induction n with
  | zero => intro x1 s l; rfl
  | succ n ih =>
    intro x1 s l; unfold f_X12_late_6
    repeat' (with_reducible apply itT2)
    all_goals first | with_reducible rfl | with_reducible exact ih _ _ _ | simp (disch := first | assumption | omega | (intros; with_reducible exact ih _ _ _)) only [ih, ll_X12_hourGoes, wl_f, wl_g, ff_l]
set_option maxHeartbeats 1000000 in
theorem fr_X12_late {fu : Nat} {s : fl_I} {l : fl_L}  {cq cj : Nat} (h0 : ¬ (cq = 60 ∧ cj = 49)) (h1 : ¬ (cq = 60 ∧ cj = 52)) (h2 : ¬ (cq = 60 ∧ cj = 53)) (h3 : cq ≠ 92) (h4 : cq ≠ 93) (h5 : cq ≠ 95) (h6 : cq ≠ 98)  : (f_X12_late fu s l).2.1 cq cj = s cq cj := by
  unfold f_X12_late
  repeat' (with_reducible apply itT1)
  all_goals first | with_reducible rfl | simp (disch := first | assumption | omega) only [fr_X12_copiesStill, fr_X12_late_6, wi_f, wi_g, wc_f, ff_s, ff_l, su_f]
set_option maxHeartbeats 1000000 in
theorem ll_X12_late {fu : Nat} {s : fl_I} {l : fl_L}  {cq cj : Nat}   : (f_X12_late fu s l).2.2 cq cj = l cq cj := by
  unfold f_X12_late
  repeat' (with_reducible apply itT2)
  all_goals first | with_reducible rfl | simp (disch := first | assumption | omega) only [ll_X12_copiesStill, ll_X12_late_6, wl_f, wl_g, ff_l]
set_option maxHeartbeats 1000000 in
theorem fr_X12_hours {fu : Nat} {v0 : Int32} {s : fl_I} {l : fl_L}  {cq cj : Nat} (h0 : ¬ (cq = 60 ∧ cj = 49)) (h1 : ¬ (cq = 60 ∧ cj = 52)) (h2 : ¬ (cq = 60 ∧ cj = 53)) (h3 : ¬ (cq = 60 ∧ cj = 58)) (h4 : cq ≠ 92) (h5 : cq ≠ 93) (h6 : cq ≠ 94) (h7 : cq ≠ 95) (h8 : cq ≠ 98) (h9 : cq ≠ 99)  : (f_X12_hours fu v0 s l).2.1 cq cj = s cq cj := by
  unfold f_X12_hours
  repeat' (with_reducible apply itT1)
  all_goals first | with_reducible rfl | simp (disch := first | assumption | omega) only [fr_X12_copies, fr_X12_goes, fr_X12_records, wi_f, wi_g, wc_f, ff_s, ff_l, su_f]
set_option maxHeartbeats 1000000 in
theorem ll_X12_hours {fu : Nat} {v0 : Int32} {s : fl_I} {l : fl_L}  {cq cj : Nat}   : (f_X12_hours fu v0 s l).2.2 cq cj = l cq cj := by
  unfold f_X12_hours
  repeat' (with_reducible apply itT2)
  all_goals first | with_reducible rfl | simp (disch := first | assumption | omega) only [ll_X12_copies, ll_X12_goes, ll_X12_records, wl_f, wl_g, ff_l]
set_option maxHeartbeats 1000000 in
theorem fr_X12_year_24 {fu : Nat}   {cq cj : Nat} (h0 : ¬ (cq = 60 ∧ cj = 49)) (h1 : ¬ (cq = 60 ∧ cj = 52)) (h2 : ¬ (cq = 60 ∧ cj = 53)) (h3 : cq ≠ 92) (h4 : cq ≠ 93) (h5 : cq ≠ 95) (h6 : cq ≠ 98)  : ∀ (n : Nat) (x1 : Int32) (x2 : Int32) (x3 : Int32) (x4 : Int32) (s : fl_I) (l : fl_L), (f_X12_year_24 fu n x1 x2 x3 x4 s l).2.1 cq cj = s cq cj := by
  intro n; induction n with
  | zero => intro x1 x2 x3 x4 s l; rfl
  | succ n ih =>
    intro x1 x2 x3 x4 s l; unfold f_X12_year_24
    repeat' (with_reducible apply itT1)
    all_goals first | with_reducible rfl | with_reducible exact ih _ _ _ _ _ _ | simp (disch := first | assumption | omega | (intros; with_reducible exact ih _ _ _ _ _ _)) only [ih, fr_X12_copies, fr_X12_goes, wi_f, wi_g, wc_f, ff_s, ff_l, su_f]
set_option maxHeartbeats 1000000 in
theorem ll_X12_year_24 {fu : Nat}   {cq cj : Nat}   : ∀ (n : Nat) (x1 : Int32) (x2 : Int32) (x3 : Int32) (x4 : Int32) (s : fl_I) (l : fl_L), (f_X12_year_24 fu n x1 x2 x3 x4 s l).2.2 cq cj = l cq cj := by
  intro n; induction n with
  | zero => intro x1 x2 x3 x4 s l; rfl
  | succ n ih =>
    intro x1 x2 x3 x4 s l; unfold f_X12_year_24
    repeat' (with_reducible apply itT2)
    all_goals first | with_reducible rfl | with_reducible exact ih _ _ _ _ _ _ | simp (disch := first | assumption | omega | (intros; with_reducible exact ih _ _ _ _ _ _)) only [ih, ll_X12_copies, ll_X12_goes, wl_f, wl_g, ff_l]
set_option maxHeartbeats 1000000 in
theorem fr_X12_year {fu : Nat} {v0 : Int32} {v1 : Int32} {s : fl_I} {l : fl_L}  {cq cj : Nat} (h0 : ¬ (cq = 60 ∧ cj = 49)) (h1 : ¬ (cq = 60 ∧ cj = 52)) (h2 : ¬ (cq = 60 ∧ cj = 53)) (h3 : cq ≠ 92) (h4 : cq ≠ 93) (h5 : cq ≠ 95) (h6 : cq ≠ 98)  : (f_X12_year fu v0 v1 s l).2.1 cq cj = s cq cj := by
  unfold f_X12_year
  repeat' (with_reducible apply itT1)
  all_goals first | with_reducible rfl | simp (disch := first | assumption | omega) only [fr_X12_year_24, wi_f, wi_g, wc_f, ff_s, ff_l, su_f]
set_option maxHeartbeats 1000000 in
theorem ll_X12_year {fu : Nat} {v0 : Int32} {v1 : Int32} {s : fl_I} {l : fl_L}  {cq cj : Nat}   : (f_X12_year fu v0 v1 s l).2.2 cq cj = l cq cj := by
  unfold f_X12_year
  repeat' (with_reducible apply itT2)
  all_goals first | with_reducible rfl | simp (disch := first | assumption | omega) only [ll_X12_year_24, wl_f, wl_g, ff_l]
set_option maxHeartbeats 1000000 in
theorem fr_X12_pickerIn {fu : Nat} {v0 : Int32} {v1 : Int32} {v2 : Int32} {s : fl_I} {l : fl_L}  {cq cj : Nat} (h0 : ¬ (cq = 60 ∧ cj = 49)) (h1 : ¬ (cq = 60 ∧ cj = 52)) (h2 : ¬ (cq = 60 ∧ cj = 53)) (h3 : cq ≠ 92) (h4 : cq ≠ 93) (h5 : cq ≠ 95) (h6 : cq ≠ 98)  : (f_X12_pickerIn fu v0 v1 v2 s l).2.1 cq cj = s cq cj := by
  unfold f_X12_pickerIn
  repeat' (with_reducible apply itT1)
  all_goals first | with_reducible rfl | simp (disch := first | assumption | omega) only [fr_X12_copies, fr_X12_goes, wi_f, wi_g, wc_f, ff_s, ff_l, su_f]
set_option maxHeartbeats 1000000 in
theorem ll_X12_pickerIn {fu : Nat} {v0 : Int32} {v1 : Int32} {v2 : Int32} {s : fl_I} {l : fl_L}  {cq cj : Nat}   : (f_X12_pickerIn fu v0 v1 v2 s l).2.2 cq cj = l cq cj := by
  unfold f_X12_pickerIn
  repeat' (with_reducible apply itT2)
  all_goals first | with_reducible rfl | simp (disch := first | assumption | omega) only [ll_X12_copies, ll_X12_goes, wl_f, wl_g, ff_l]
set_option maxHeartbeats 1000000 in
theorem fr_X12_pieceIn {fu : Nat} {v0 : Int32} {v1 : Int32} {v2 : Int32} {s : fl_I} {l : fl_L}  {cq cj : Nat} (h0 : ¬ (cq = 60 ∧ cj = 49)) (h1 : ¬ (cq = 60 ∧ cj = 52)) (h2 : ¬ (cq = 60 ∧ cj = 53)) (h3 : cq ≠ 92) (h4 : cq ≠ 93) (h5 : cq ≠ 95) (h6 : cq ≠ 98)  : (f_X12_pieceIn fu v0 v1 v2 s l).2.1 cq cj = s cq cj := by
  unfold f_X12_pieceIn
  repeat' (with_reducible apply itT1)
  all_goals first | with_reducible rfl | simp (disch := first | assumption | omega) only [fr_X12_copies, fr_X12_goes, wi_f, wi_g, wc_f, ff_s, ff_l, su_f]
set_option maxHeartbeats 1000000 in
theorem ll_X12_pieceIn {fu : Nat} {v0 : Int32} {v1 : Int32} {v2 : Int32} {s : fl_I} {l : fl_L}  {cq cj : Nat}   : (f_X12_pieceIn fu v0 v1 v2 s l).2.2 cq cj = l cq cj := by
  unfold f_X12_pieceIn
  repeat' (with_reducible apply itT2)
  all_goals first | with_reducible rfl | simp (disch := first | assumption | omega) only [ll_X12_copies, ll_X12_goes, wl_f, wl_g, ff_l]
set_option maxHeartbeats 1000000 in
theorem fr_X12_stand_38 {fu : Nat}   {cq cj : Nat} (h0 : ¬ (cq = 60 ∧ cj = 49)) (h1 : ¬ (cq = 60 ∧ cj = 52)) (h2 : ¬ (cq = 60 ∧ cj = 53)) (h3 : cq ≠ 92) (h4 : cq ≠ 93) (h5 : cq ≠ 95) (h6 : cq ≠ 98)  : ∀ (n : Nat) (x1 : Int32) (x2 : Int32) (x3 : Int32) (x4 : Int32) (x5 : Int32) (x6 : Int32) (s : fl_I) (l : fl_L), (f_X12_stand_38 fu n x1 x2 x3 x4 x5 x6 s l).2.1 cq cj = s cq cj := by
  intro n; induction n with
  | zero => intro x1 x2 x3 x4 x5 x6 s l; rfl
  | succ n ih =>
    intro x1 x2 x3 x4 x5 x6 s l; unfold f_X12_stand_38
    repeat' (with_reducible apply itT1)
    all_goals first | with_reducible rfl | with_reducible exact ih _ _ _ _ _ _ _ _ | simp (disch := first | assumption | omega | (intros; with_reducible exact ih _ _ _ _ _ _ _ _)) only [ih, fr_X12_copiesStill, fr_X12_goes, fr_X12_lossNow, wi_f, wi_g, wc_f, ff_s, ff_l, su_f]
set_option maxHeartbeats 1000000 in
theorem ll_X12_stand_38 {fu : Nat}   {cq cj : Nat}   : ∀ (n : Nat) (x1 : Int32) (x2 : Int32) (x3 : Int32) (x4 : Int32) (x5 : Int32) (x6 : Int32) (s : fl_I) (l : fl_L), (f_X12_stand_38 fu n x1 x2 x3 x4 x5 x6 s l).2.2 cq cj = l cq cj := by
  intro n; induction n with
  | zero => intro x1 x2 x3 x4 x5 x6 s l; rfl
  | succ n ih =>
    intro x1 x2 x3 x4 x5 x6 s l; unfold f_X12_stand_38
    repeat' (with_reducible apply itT2)
    all_goals first | with_reducible rfl | with_reducible exact ih _ _ _ _ _ _ _ _ | simp (disch := first | assumption | omega | (intros; with_reducible exact ih _ _ _ _ _ _ _ _)) only [ih, ll_X12_copiesStill, ll_X12_goes, ll_X12_lossNow, wl_f, wl_g, ff_l]
set_option maxHeartbeats 1000000 in
theorem fr_X12_stand {fu : Nat} {v0 : Int32} {v1 : Int32} {v2 : Int32} {s : fl_I} {l : fl_L}  {cq cj : Nat} (h0 : ¬ (cq = 60 ∧ cj = 49)) (h1 : ¬ (cq = 60 ∧ cj = 52)) (h2 : ¬ (cq = 60 ∧ cj = 53)) (h3 : cq ≠ 92) (h4 : cq ≠ 93) (h5 : cq ≠ 95) (h6 : cq ≠ 98)  : (f_X12_stand fu v0 v1 v2 s l).2.1 cq cj = s cq cj := by
  unfold f_X12_stand
  repeat' (with_reducible apply itT1)
  all_goals first | with_reducible rfl | simp (disch := first | assumption | omega) only [fr_X12_stand_38, wi_f, wi_g, wc_f, ff_s, ff_l, su_f]
set_option maxHeartbeats 1000000 in
theorem ll_X12_stand {fu : Nat} {v0 : Int32} {v1 : Int32} {v2 : Int32} {s : fl_I} {l : fl_L}  {cq cj : Nat}   : (f_X12_stand fu v0 v1 v2 s l).2.2 cq cj = l cq cj := by
  unfold f_X12_stand
  repeat' (with_reducible apply itT2)
  all_goals first | with_reducible rfl | simp (disch := first | assumption | omega) only [ll_X12_stand_38, wl_f, wl_g, ff_l]
set_option maxHeartbeats 1000000 in
theorem fr_X8_fillFrom_43 {fu : Nat} {K33 : Int32 → fl_I → fl_L → fl_I × fl_L} {D : fl_D} {cq cj : Nat} (h0 : cq ≠ D.2.2.2.1) (hkK33 : ∀ (k0 : Int32) (k1 : fl_I) (k2 : fl_L), (K33 k0 k1 k2).1 cq cj = k1 cq cj) : ∀ (n : Nat) (x1 : Int32) (x2 : Int32) (s : fl_I) (l : fl_L), (f_X8_fillFrom_43 fu K33 n x1 x2 D s l).1 cq cj = s cq cj := by
  intro n; induction n with
  | zero => intro x1 x2 s l; rfl
  | succ n ih =>
    intro x1 x2 s l; unfold f_X8_fillFrom_43
    repeat' (with_reducible apply itP1)
    all_goals first | with_reducible rfl | with_reducible exact ih _ _ _ _ | simp (disch := first | assumption | omega | (intros; with_reducible exact ih _ _ _ _)) only [ih, hkK33, wi_f, wi_g, wc_f, ff_s, ff_l, su_f]
set_option maxHeartbeats 1000000 in
theorem ll_X8_fillFrom_43 {fu : Nat} {K33 : Int32 → fl_I → fl_L → fl_I × fl_L} {D : fl_D} {cq cj : Nat}  (hkK33 : ∀ (k0 : Int32) (k1 : fl_I) (k2 : fl_L), (K33 k0 k1 k2).2 cq cj = k2 cq cj) : ∀ (n : Nat) (x1 : Int32) (x2 : Int32) (s : fl_I) (l : fl_L), (f_X8_fillFrom_43 fu K33 n x1 x2 D s l).2 cq cj = l cq cj := by
  intro n; induction n with
  | zero => intro x1 x2 s l; rfl
  | succ n ih =>
    intro x1 x2 s l; unfold f_X8_fillFrom_43
    repeat' (with_reducible apply itP2)
    all_goals first | with_reducible rfl | with_reducible exact ih _ _ _ _ | simp (disch := first | assumption | omega | (intros; with_reducible exact ih _ _ _ _)) only [ih, hkK33, wl_f, wl_g, ff_l]
set_option maxHeartbeats 1000000 in
theorem fr_X8_fillFrom_33 {fu : Nat}  {D : fl_D} {cq cj : Nat} (h0 : cq ≠ D.2.2.2.1)  : ∀ (n : Nat) (x1 : Int32) (s : fl_I) (l : fl_L), (f_X8_fillFrom_33 fu n x1 D s l).1 cq cj = s cq cj := by
  intro n; induction n with
  | zero => intro x1 s l; rfl
  | succ n ih =>
    intro x1 s l; unfold f_X8_fillFrom_33
    repeat' (with_reducible apply itP1)
    all_goals first | with_reducible rfl | with_reducible exact ih _ _ _ | simp (disch := first | assumption | omega | (intros; with_reducible exact ih _ _ _)) only [ih, fr_X8_fillFrom_43, wi_f, wi_g, wc_f, ff_s, ff_l, su_f]
set_option maxHeartbeats 1000000 in
theorem ll_X8_fillFrom_33 {fu : Nat}  {D : fl_D} {cq cj : Nat}   : ∀ (n : Nat) (x1 : Int32) (s : fl_I) (l : fl_L), (f_X8_fillFrom_33 fu n x1 D s l).2 cq cj = l cq cj := by
  intro n; induction n with
  | zero => intro x1 s l; rfl
  | succ n ih =>
    intro x1 s l; unfold f_X8_fillFrom_33
    repeat' (with_reducible apply itP2)
    all_goals first | with_reducible rfl | with_reducible exact ih _ _ _ | simp (disch := first | assumption | omega | (intros; with_reducible exact ih _ _ _)) only [ih, ll_X8_fillFrom_43, wl_f, wl_g, ff_l]
set_option maxHeartbeats 1000000 in
theorem fr_X8_fillFrom {fu : Nat} {D : fl_D} {s : fl_I} {l : fl_L}  {cq cj : Nat} (h0 : cq ≠ D.2.2.2.1)  : (f_X8_fillFrom fu D s l).1 cq cj = s cq cj := by
  unfold f_X8_fillFrom
  repeat' (with_reducible apply itP1)
  all_goals first | with_reducible rfl | simp (disch := first | assumption | omega) only [fr_X8_fillFrom_33, wi_f, wi_g, wc_f, ff_s, ff_l, su_f]
set_option maxHeartbeats 1000000 in
theorem ll_X8_fillFrom {fu : Nat} {D : fl_D} {s : fl_I} {l : fl_L}  {cq cj : Nat}   : (f_X8_fillFrom fu D s l).2 cq cj = l cq cj := by
  unfold f_X8_fillFrom
  repeat' (with_reducible apply itP2)
  all_goals first | with_reducible rfl | simp (disch := first | assumption | omega) only [ll_X8_fillFrom_33, wl_f, wl_g, ff_l]
