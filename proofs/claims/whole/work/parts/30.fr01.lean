set_option maxHeartbeats 1000000 in
theorem fr_X12_forget {fu : Nat} {s : fl_I} {l : fl_L}  {cq cj : Nat} (h0 : ¬ (cq = 60 ∧ cj = 65))  : (f_X12_forget fu s l).2.1 cq cj = s cq cj := by
  unfold f_X12_forget
  repeat' (with_reducible apply itT1)
  all_goals first | with_reducible rfl | simp (disch := first | assumption | omega) only [wi_f, wi_g, wc_f, ff_s, ff_l, su_f]
set_option maxHeartbeats 1000000 in
theorem ll_X12_forget {fu : Nat} {s : fl_I} {l : fl_L}    : (f_X12_forget fu s l).2.2 = l := by
  unfold f_X12_forget
  repeat' (with_reducible apply itT3)
  all_goals first | with_reducible rfl | simp (disch := first | assumption | omega) only [ff_l]
set_option maxHeartbeats 1000000 in
theorem fr_X11_forget {fu : Nat} {s : fl_I} {l : fl_L}  {cq cj : Nat} (h0 : ¬ (cq = 57 ∧ cj = 0))  : (f_X11_forget fu s l).2.1 cq cj = s cq cj := by
  unfold f_X11_forget
  repeat' (with_reducible apply itT1)
  all_goals first | with_reducible rfl | simp (disch := first | assumption | omega) only [wi_f, wi_g, wc_f, ff_s, ff_l, su_f]
set_option maxHeartbeats 1000000 in
theorem ll_X11_forget {fu : Nat} {s : fl_I} {l : fl_L}    : (f_X11_forget fu s l).2.2 = l := by
  unfold f_X11_forget
  repeat' (with_reducible apply itT3)
  all_goals first | with_reducible rfl | simp (disch := first | assumption | omega) only [ff_l]
set_option maxHeartbeats 1000000 in
theorem fr_X5_setCode {fu : Nat} {v0 : Int32} {v1 : Int32} {t : Nat} {s : fl_I} {l : fl_L}  {cq cj : Nat} (h0 : cq ≠ (t + 9))  : (f_X5_setCode fu v0 v1 t s l).1 cq cj = s cq cj := by
  unfold f_X5_setCode
  repeat' (with_reducible apply itP1)
  all_goals first | with_reducible rfl | simp (disch := first | assumption | omega) only [wi_f, wi_g, wc_f, ff_s, ff_l, su_f]
set_option maxHeartbeats 1000000 in
theorem ll_X5_setCode {fu : Nat} {v0 : Int32} {v1 : Int32} {t : Nat} {s : fl_I} {l : fl_L}    : (f_X5_setCode fu v0 v1 t s l).2 = l := by
  unfold f_X5_setCode
  repeat' (with_reducible apply itP3)
  all_goals first | with_reducible rfl | simp (disch := first | assumption | omega) only [ff_l]
set_option maxHeartbeats 1000000 in
theorem fr_X12_fail {fu : Nat} {v0 : Int32} {s : fl_I} {l : fl_L}  {cq cj : Nat} (h0 : ¬ (cq = 60 ∧ cj = 13)) (h1 : ¬ (cq = 60 ∧ cj = 14))  : (f_X12_fail fu v0 s l).1 cq cj = s cq cj := by
  unfold f_X12_fail
  repeat' (with_reducible apply itP1)
  all_goals first | with_reducible rfl | simp (disch := first | assumption | omega) only [wi_f, wi_g, wc_f, ff_s, ff_l, su_f]
set_option maxHeartbeats 1000000 in
theorem ll_X12_fail {fu : Nat} {v0 : Int32} {s : fl_I} {l : fl_L}    : (f_X12_fail fu v0 s l).2 = l := by
  unfold f_X12_fail
  repeat' (with_reducible apply itP3)
  all_goals first | with_reducible rfl | simp (disch := first | assumption | omega) only [ff_l]
set_option maxHeartbeats 1000000 in
theorem fr_X12_goesOn {fu : Nat} {s : fl_I} {l : fl_L}  {cq cj : Nat} (h0 : ¬ (cq = 60 ∧ cj = 11)) (h1 : ¬ (cq = 60 ∧ cj = 13)) (h2 : ¬ (cq = 60 ∧ cj = 14))  : (f_X12_goesOn fu s l).1 cq cj = s cq cj := by
  unfold f_X12_goesOn
  repeat' (with_reducible apply itP1)
  all_goals first | with_reducible rfl | simp (disch := first | assumption | omega) only [fr_X12_fail, wi_f, wi_g, wc_f, ff_s, ff_l, su_f]
set_option maxHeartbeats 1000000 in
theorem ll_X12_goesOn {fu : Nat} {s : fl_I} {l : fl_L}    : (f_X12_goesOn fu s l).2 = l := by
  unfold f_X12_goesOn
  repeat' (with_reducible apply itP3)
  all_goals first | with_reducible rfl | simp (disch := first | assumption | omega) only [ll_X12_fail, ff_l]
set_option maxHeartbeats 1000000 in
theorem fr_X12_keepsRow_2 {fu : Nat}   {cq cj : Nat} (h0 : cq ≠ 94)  : ∀ (n : Nat) (x1 : Int32) (s : fl_I) (l : fl_L), (f_X12_keepsRow_2 fu n x1 s l).1 cq cj = s cq cj := by
  intro n; induction n with
  | zero => intro x1 s l; rfl
  | succ n ih =>
    intro x1 s l; unfold f_X12_keepsRow_2
    repeat' (with_reducible apply itP1)
    all_goals first | with_reducible rfl | with_reducible exact ih _ _ _ | simp (disch := first | assumption | omega | (intros; with_reducible exact ih _ _ _)) only [ih, wi_f, wi_g, wc_f, ff_s, ff_l, su_f]
set_option maxHeartbeats 1000000 in
theorem ll_X12_keepsRow_2 {fu : Nat}     : ∀ (n : Nat) (x1 : Int32) (s : fl_I) (l : fl_L), (f_X12_keepsRow_2 fu n x1 s l).2 = l := by
  intro n; induction n with
  | zero => intro x1 s l; rfl
  | succ n ih =>
    intro x1 s l; unfold f_X12_keepsRow_2
    repeat' (with_reducible apply itP3)
    all_goals first | with_reducible rfl | with_reducible exact ih _ _ _ | simp (disch := first | assumption | omega | (intros; with_reducible exact ih _ _ _)) only [ih, ff_l]
set_option maxHeartbeats 1000000 in
theorem fr_X12_keepsRow {fu : Nat} {s : fl_I} {l : fl_L}  {cq cj : Nat} (h0 : cq ≠ 94)  : (f_X12_keepsRow fu s l).1 cq cj = s cq cj := by
  unfold f_X12_keepsRow
  repeat' (with_reducible apply itP1)
  all_goals first | with_reducible rfl | simp (disch := first | assumption | omega) only [fr_X12_keepsRow_2, wi_f, wi_g, wc_f, ff_s, ff_l, su_f]
set_option maxHeartbeats 1000000 in
theorem ll_X12_keepsRow {fu : Nat} {s : fl_I} {l : fl_L}    : (f_X12_keepsRow fu s l).2 = l := by
  unfold f_X12_keepsRow
  repeat' (with_reducible apply itP3)
  all_goals first | with_reducible rfl | simp (disch := first | assumption | omega) only [ll_X12_keepsRow_2, ff_l]
set_option maxHeartbeats 1000000 in
theorem fr_X12_back {fu : Nat} {v0 : Int32} {s : fl_I} {l : fl_L}  {cq cj : Nat} (h0 : ¬ (cq = 60 ∧ cj = 2))  : (f_X12_back fu v0 s l).2.1 cq cj = s cq cj := by
  unfold f_X12_back
  repeat' (with_reducible apply itT1)
  all_goals first | with_reducible rfl | simp (disch := first | assumption | omega) only [wi_f, wi_g, wc_f, ff_s, ff_l, su_f]
set_option maxHeartbeats 1000000 in
theorem ll_X12_back {fu : Nat} {v0 : Int32} {s : fl_I} {l : fl_L}    : (f_X12_back fu v0 s l).2.2 = l := by
  unfold f_X12_back
  repeat' (with_reducible apply itT3)
  all_goals first | with_reducible rfl | simp (disch := first | assumption | omega) only [ff_l]
set_option maxHeartbeats 1000000 in
theorem fr_X12_emit {fu : Nat} {v0 : Int32} {v1 : Int32} {s : fl_I} {l : fl_L}  {cq cj : Nat} (h0 : ¬ (cq = 60 ∧ cj = 42)) (h1 : cq ≠ 89) (h2 : cq ≠ 90)  : (f_X12_emit fu v0 v1 s l).1 cq cj = s cq cj := by
  unfold f_X12_emit
  repeat' (with_reducible apply itP1)
  all_goals first | with_reducible rfl | simp (disch := first | assumption | omega) only [wi_f, wi_g, wc_f, ff_s, ff_l, su_f]
set_option maxHeartbeats 1000000 in
theorem ll_X12_emit {fu : Nat} {v0 : Int32} {v1 : Int32} {s : fl_I} {l : fl_L}    : (f_X12_emit fu v0 v1 s l).2 = l := by
  unfold f_X12_emit
  repeat' (with_reducible apply itP3)
  all_goals first | with_reducible rfl | simp (disch := first | assumption | omega) only [ff_l]
set_option maxHeartbeats 1000000 in
theorem fr_X3_stop {fu : Nat} {v0 : Int32} {s : fl_I} {l : fl_L}  {cq cj : Nat} (h0 : ¬ (cq = 3 ∧ cj = 0)) (h1 : ¬ (cq = 3 ∧ cj = 3))  : (f_X3_stop fu v0 s l).2.1 cq cj = s cq cj := by
  unfold f_X3_stop
  repeat' (with_reducible apply itT1)
  all_goals first | with_reducible rfl | simp (disch := first | assumption | omega) only [wi_f, wi_g, wc_f, ff_s, ff_l, su_f]
set_option maxHeartbeats 1000000 in
theorem ll_X3_stop {fu : Nat} {v0 : Int32} {s : fl_I} {l : fl_L}    : (f_X3_stop fu v0 s l).2.2 = l := by
  unfold f_X3_stop
  repeat' (with_reducible apply itT3)
  all_goals first | with_reducible rfl | simp (disch := first | assumption | omega) only [ff_l]
set_option maxHeartbeats 1000000 in
theorem fr_X5_addWord {fu : Nat} {v0 : Int64} {t : Nat} {s : fl_I} {l : fl_L}  {cq cj : Nat} (h0 : ¬ (cq = t ∧ cj = 1))  : (f_X5_addWord fu v0 t s l).1 cq cj = s cq cj := by
  unfold f_X5_addWord
  repeat' (with_reducible apply itP1)
  all_goals first | with_reducible rfl | simp (disch := first | assumption | omega) only [wi_f, wi_g, wc_f, ff_s, ff_l, su_f]
set_option maxHeartbeats 1000000 in
theorem ll_X5_addWord {fu : Nat} {v0 : Int64} {t : Nat} {s : fl_I} {l : fl_L}  {cq cj : Nat} (h0 : cq ≠ (t + 2))  : (f_X5_addWord fu v0 t s l).2 cq cj = l cq cj := by
  unfold f_X5_addWord
  repeat' (with_reducible apply itP2)
  all_goals first | with_reducible rfl | simp (disch := first | assumption | omega) only [wl_f, wl_g, ff_l]
set_option maxHeartbeats 1000000 in
theorem fr_X5_addCode {fu : Nat} {v0 : Int32} {t : Nat} {s : fl_I} {l : fl_L}  {cq cj : Nat} (h0 : cq ≠ (t + 9)) (h1 : ¬ (cq = t ∧ cj = 14))  : (f_X5_addCode fu v0 t s l).1 cq cj = s cq cj := by
  unfold f_X5_addCode
  repeat' (with_reducible apply itP1)
  all_goals first | with_reducible rfl | simp (disch := first | assumption | omega) only [wi_f, wi_g, wc_f, ff_s, ff_l, su_f]
set_option maxHeartbeats 1000000 in
theorem ll_X5_addCode {fu : Nat} {v0 : Int32} {t : Nat} {s : fl_I} {l : fl_L}    : (f_X5_addCode fu v0 t s l).2 = l := by
  unfold f_X5_addCode
  repeat' (with_reducible apply itP3)
  all_goals first | with_reducible rfl | simp (disch := first | assumption | omega) only [ff_l]
set_option maxHeartbeats 1000000 in
theorem fr_X11_back {fu : Nat} {v0 : Int32} {s : fl_I} {l : fl_L}  {cq cj : Nat} (h0 : ¬ (cq = 1 ∧ cj = 1))  : (f_X11_back fu v0 s l).2.1 cq cj = s cq cj := by
  unfold f_X11_back
  repeat' (with_reducible apply itT1)
  all_goals first | with_reducible rfl | simp (disch := first | assumption | omega) only [wi_f, wi_g, wc_f, ff_s, ff_l, su_f]
set_option maxHeartbeats 1000000 in
theorem ll_X11_back {fu : Nat} {v0 : Int32} {s : fl_I} {l : fl_L}    : (f_X11_back fu v0 s l).2.2 = l := by
  unfold f_X11_back
  repeat' (with_reducible apply itT3)
  all_goals first | with_reducible rfl | simp (disch := first | assumption | omega) only [ff_l]
set_option maxHeartbeats 1000000 in
theorem fr_X10_putInHat {fu : Nat} {v0 : Int32} {v1 : Int32} {a : Nat} {s : fl_I} {l : fl_L}  {cq cj : Nat} (h0 : cq ≠ (a + 1)) (h1 : cq ≠ (a + 2)) (h2 : cq ≠ (a + 5))  : (f_X10_putInHat fu v0 v1 a s l).1 cq cj = s cq cj := by
  unfold f_X10_putInHat
  repeat' (with_reducible apply itP1)
  all_goals first | with_reducible rfl | simp (disch := first | assumption | omega) only [wi_f, wi_g, wc_f, ff_s, ff_l, su_f]
set_option maxHeartbeats 1000000 in
theorem ll_X10_putInHat {fu : Nat} {v0 : Int32} {v1 : Int32} {a : Nat} {s : fl_I} {l : fl_L}    : (f_X10_putInHat fu v0 v1 a s l).2 = l := by
  unfold f_X10_putInHat
  repeat' (with_reducible apply itP3)
  all_goals first | with_reducible rfl | simp (disch := first | assumption | omega) only [ff_l]
set_option maxHeartbeats 1000000 in
theorem fr_X12_looks_2 {fu : Nat}   {cq cj : Nat} (h0 : cq ≠ 92)  : ∀ (n : Nat) (x1 : Int32) (s : fl_I) (l : fl_L), (f_X12_looks_2 fu n x1 s l).1 cq cj = s cq cj := by
  intro n; induction n with
  | zero => intro x1 s l; rfl
  | succ n ih =>
    intro x1 s l; unfold f_X12_looks_2
    repeat' (with_reducible apply itP1)
    all_goals first | with_reducible rfl | with_reducible exact ih _ _ _ | simp (disch := first | assumption | omega | (intros; with_reducible exact ih _ _ _)) only [ih, wi_f, wi_g, wc_f, ff_s, ff_l, su_f]
set_option maxHeartbeats 1000000 in
theorem ll_X12_looks_2 {fu : Nat}     : ∀ (n : Nat) (x1 : Int32) (s : fl_I) (l : fl_L), (f_X12_looks_2 fu n x1 s l).2 = l := by
  intro n; induction n with
  | zero => intro x1 s l; rfl
  | succ n ih =>
    intro x1 s l; unfold f_X12_looks_2
    repeat' (with_reducible apply itP3)
    all_goals first | with_reducible rfl | with_reducible exact ih _ _ _ | simp (disch := first | assumption | omega | (intros; with_reducible exact ih _ _ _)) only [ih, ff_l]
set_option maxHeartbeats 1000000 in
theorem fr_X12_looks {fu : Nat} {s : fl_I} {l : fl_L}  {cq cj : Nat} (h0 : cq ≠ 92)  : (f_X12_looks fu s l).1 cq cj = s cq cj := by
  unfold f_X12_looks
  repeat' (with_reducible apply itP1)
  all_goals first | with_reducible rfl | simp (disch := first | assumption | omega) only [fr_X12_looks_2, wi_f, wi_g, wc_f, ff_s, ff_l, su_f]
set_option maxHeartbeats 1000000 in
theorem ll_X12_looks {fu : Nat} {s : fl_I} {l : fl_L}    : (f_X12_looks fu s l).2 = l := by
  unfold f_X12_looks
  repeat' (with_reducible apply itP3)
  all_goals first | with_reducible rfl | simp (disch := first | assumption | omega) only [ll_X12_looks_2, ff_l]
set_option maxHeartbeats 1000000 in
theorem fr_X3_noteLater {fu : Nat} {v0 : Int32} {s : fl_I} {l : fl_L}  {cq cj : Nat} (h0 : ¬ (cq = 3 ∧ cj = 4)) (h1 : ¬ (cq = 3 ∧ cj = 5))  : (f_X3_noteLater fu v0 s l).1 cq cj = s cq cj := by
  unfold f_X3_noteLater
  repeat' (with_reducible apply itP1)
  all_goals first | with_reducible rfl | simp (disch := first | assumption | omega) only [wi_f, wi_g, wc_f, ff_s, ff_l, su_f]
set_option maxHeartbeats 1000000 in
theorem ll_X3_noteLater {fu : Nat} {v0 : Int32} {s : fl_I} {l : fl_L}    : (f_X3_noteLater fu v0 s l).2 = l := by
  unfold f_X3_noteLater
  repeat' (with_reducible apply itP3)
  all_goals first | with_reducible rfl | simp (disch := first | assumption | omega) only [ff_l]
set_option maxHeartbeats 1000000 in
theorem fr_X12_put_3 {fu : Nat}   {cq cj : Nat} (h0 : ¬ (cq = 60 ∧ cj = 2)) (h1 : cq ≠ 61)  : ∀ (n : Nat) (x1 : Int32) (x2 : Int32) (s : fl_I) (l : fl_L), (f_X12_put_3 fu n x1 x2 s l).1 cq cj = s cq cj := by
  intro n; induction n with
  | zero => intro x1 x2 s l; rfl
  | succ n ih =>
    intro x1 x2 s l; unfold f_X12_put_3
    repeat' (with_reducible apply itP1)
    all_goals first | with_reducible rfl | with_reducible exact ih _ _ _ _ | simp (disch := first | assumption | omega | (intros; with_reducible exact ih _ _ _ _)) only [ih, wi_f, wi_g, wc_f, ff_s, ff_l, su_f]
set_option maxHeartbeats 1000000 in
theorem ll_X12_put_3 {fu : Nat}     : ∀ (n : Nat) (x1 : Int32) (x2 : Int32) (s : fl_I) (l : fl_L), (f_X12_put_3 fu n x1 x2 s l).2 = l := by
  intro n; induction n with
  | zero => intro x1 x2 s l; rfl
  | succ n ih =>
    intro x1 x2 s l; unfold f_X12_put_3
    repeat' (with_reducible apply itP3)
    all_goals first | with_reducible rfl | with_reducible exact ih _ _ _ _ | simp (disch := first | assumption | omega | (intros; with_reducible exact ih _ _ _ _)) only [ih, ff_l]
set_option maxHeartbeats 1000000 in
theorem fr_X12_put {fu : Nat} {v0 : Int32} {s : fl_I} {l : fl_L}  {cq cj : Nat} (h0 : ¬ (cq = 60 ∧ cj = 2)) (h1 : cq ≠ 61)  : (f_X12_put fu v0 s l).1 cq cj = s cq cj := by
  unfold f_X12_put
  repeat' (with_reducible apply itP1)
  all_goals first | with_reducible rfl | simp (disch := first | assumption | omega) only [fr_X12_put_3, wi_f, wi_g, wc_f, ff_s, ff_l, su_f]
set_option maxHeartbeats 1000000 in
theorem ll_X12_put {fu : Nat} {v0 : Int32} {s : fl_I} {l : fl_L}    : (f_X12_put fu v0 s l).2 = l := by
  unfold f_X12_put
  repeat' (with_reducible apply itP3)
  all_goals first | with_reducible rfl | simp (disch := first | assumption | omega) only [ll_X12_put_3, ff_l]
set_option maxHeartbeats 1000000 in
theorem fr_X3_take {fu : Nat} {v0 : Int32} {s : fl_I} {l : fl_L}  {cq cj : Nat} (h0 : ¬ (cq = 3 ∧ cj = 0)) (h1 : ¬ (cq = 3 ∧ cj = 2)) (h2 : ¬ (cq = 3 ∧ cj = 3))  : (f_X3_take fu v0 s l).2.1 cq cj = s cq cj := by
  unfold f_X3_take
  repeat' (with_reducible apply itT1)
  all_goals first | with_reducible rfl | simp (disch := first | assumption | omega) only [fr_X3_stop, wi_f, wi_g, wc_f, ff_s, ff_l, su_f]
set_option maxHeartbeats 1000000 in
theorem ll_X3_take {fu : Nat} {v0 : Int32} {s : fl_I} {l : fl_L}    : (f_X3_take fu v0 s l).2.2 = l := by
  unfold f_X3_take
  repeat' (with_reducible apply itT3)
  all_goals first | with_reducible rfl | simp (disch := first | assumption | omega) only [ll_X3_stop, ff_l]
set_option maxHeartbeats 1000000 in
theorem fr_X9_lieOn_2 {fu : Nat}  {a : Nat} {cq cj : Nat} (h0 : cq ≠ (a + 2))  : ∀ (n : Nat) (x1 : Int32) (s : fl_I) (l : fl_L), (f_X9_lieOn_2 fu n x1 a s l).1 cq cj = s cq cj := by
  intro n; induction n with
  | zero => intro x1 s l; rfl
  | succ n ih =>
    intro x1 s l; unfold f_X9_lieOn_2
    repeat' (with_reducible apply itP1)
    all_goals first | with_reducible rfl | with_reducible exact ih _ _ _ | simp (disch := first | assumption | omega | (intros; with_reducible exact ih _ _ _)) only [ih, wi_f, wi_g, wc_f, ff_s, ff_l, su_f]
set_option maxHeartbeats 1000000 in
theorem ll_X9_lieOn_2 {fu : Nat}  {a : Nat}   : ∀ (n : Nat) (x1 : Int32) (s : fl_I) (l : fl_L), (f_X9_lieOn_2 fu n x1 a s l).2 = l := by
  intro n; induction n with
  | zero => intro x1 s l; rfl
  | succ n ih =>
    intro x1 s l; unfold f_X9_lieOn_2
    repeat' (with_reducible apply itP3)
    all_goals first | with_reducible rfl | with_reducible exact ih _ _ _ | simp (disch := first | assumption | omega | (intros; with_reducible exact ih _ _ _)) only [ih, ff_l]
set_option maxHeartbeats 1000000 in
theorem fr_X9_lieOn {fu : Nat} {a : Nat} {s : fl_I} {l : fl_L}  {cq cj : Nat} (h0 : cq ≠ (a + 2))  : (f_X9_lieOn fu a s l).1 cq cj = s cq cj := by
  unfold f_X9_lieOn
  repeat' (with_reducible apply itP1)
  all_goals first | with_reducible rfl | simp (disch := first | assumption | omega) only [fr_X9_lieOn_2, wi_f, wi_g, wc_f, ff_s, ff_l, su_f]
set_option maxHeartbeats 1000000 in
theorem ll_X9_lieOn {fu : Nat} {a : Nat} {s : fl_I} {l : fl_L}    : (f_X9_lieOn fu a s l).2 = l := by
  unfold f_X9_lieOn
  repeat' (with_reducible apply itP3)
  all_goals first | with_reducible rfl | simp (disch := first | assumption | omega) only [ll_X9_lieOn_2, ff_l]
set_option maxHeartbeats 1000000 in
theorem fr_X4_add_3 {fu : Nat}   {cq cj : Nat} (h0 : ¬ (cq = 1 ∧ cj = 1)) (h1 : cq ≠ 2)  : ∀ (n : Nat) (x1 : Int32) (x2 : Int32) (s : fl_I) (l : fl_L), (f_X4_add_3 fu n x1 x2 s l).1 cq cj = s cq cj := by
  intro n; induction n with
  | zero => intro x1 x2 s l; rfl
  | succ n ih =>
    intro x1 x2 s l; unfold f_X4_add_3
    repeat' (with_reducible apply itP1)
    all_goals first | with_reducible rfl | with_reducible exact ih _ _ _ _ | simp (disch := first | assumption | omega | (intros; with_reducible exact ih _ _ _ _)) only [ih, wi_f, wi_g, wc_f, ff_s, ff_l, su_f]
set_option maxHeartbeats 1000000 in
theorem ll_X4_add_3 {fu : Nat}     : ∀ (n : Nat) (x1 : Int32) (x2 : Int32) (s : fl_I) (l : fl_L), (f_X4_add_3 fu n x1 x2 s l).2 = l := by
  intro n; induction n with
  | zero => intro x1 x2 s l; rfl
  | succ n ih =>
    intro x1 x2 s l; unfold f_X4_add_3
    repeat' (with_reducible apply itP3)
    all_goals first | with_reducible rfl | with_reducible exact ih _ _ _ _ | simp (disch := first | assumption | omega | (intros; with_reducible exact ih _ _ _ _)) only [ih, ff_l]
set_option maxHeartbeats 1000000 in
theorem fr_X4_add {fu : Nat} {v0 : Int32} {s : fl_I} {l : fl_L}  {cq cj : Nat} (h0 : ¬ (cq = 1 ∧ cj = 1)) (h1 : cq ≠ 2)  : (f_X4_add fu v0 s l).1 cq cj = s cq cj := by
  unfold f_X4_add
  repeat' (with_reducible apply itP1)
  all_goals first | with_reducible rfl | simp (disch := first | assumption | omega) only [fr_X4_add_3, wi_f, wi_g, wc_f, ff_s, ff_l, su_f]
set_option maxHeartbeats 1000000 in
theorem ll_X4_add {fu : Nat} {v0 : Int32} {s : fl_I} {l : fl_L}    : (f_X4_add fu v0 s l).2 = l := by
  unfold f_X4_add
  repeat' (with_reducible apply itP3)
  all_goals first | with_reducible rfl | simp (disch := first | assumption | omega) only [ll_X4_add_3, ff_l]
set_option maxHeartbeats 1000000 in
theorem fr_X12_feed {fu : Nat} {v0 : Int32} {v1 : Int32} {v2 : Int32} {v3 : Int32} {v4 : Int32} {s : fl_I} {l : fl_L}  {cq cj : Nat} (h0 : ¬ (cq = 60 ∧ cj = 2)) (h1 : cq ≠ 61)  : (f_X12_feed fu v0 v1 v2 v3 v4 s l).2.1 cq cj = s cq cj := by
  unfold f_X12_feed
  repeat' (with_reducible apply itT1)
  all_goals first | with_reducible rfl | simp (disch := first | assumption | omega) only [fr_X12_put, wi_f, wi_g, wc_f, ff_s, ff_l, su_f]
set_option maxHeartbeats 1000000 in
theorem ll_X12_feed {fu : Nat} {v0 : Int32} {v1 : Int32} {v2 : Int32} {v3 : Int32} {v4 : Int32} {s : fl_I} {l : fl_L}    : (f_X12_feed fu v0 v1 v2 v3 v4 s l).2.2 = l := by
  unfold f_X12_feed
  repeat' (with_reducible apply itT3)
  all_goals first | with_reducible rfl | simp (disch := first | assumption | omega) only [ll_X12_put, ff_l]
set_option maxHeartbeats 1000000 in
theorem fr_X12_copies_2 {fu : Nat}   {cq cj : Nat} (h0 : ¬ (cq = 60 ∧ cj = 52)) (h1 : ¬ (cq = 60 ∧ cj = 53)) (h2 : cq ≠ 95)  : ∀ (n : Nat) (x1 : Int32) (s : fl_I) (l : fl_L), (f_X12_copies_2 fu n x1 s l).1 cq cj = s cq cj := by
  intro n; induction n with
  | zero => intro x1 s l; rfl
  | succ n ih =>
    intro x1 s l; unfold f_X12_copies_2
    repeat' (with_reducible apply itP1)
    all_goals first | with_reducible rfl | with_reducible exact ih _ _ _ | simp (disch := first | assumption | omega | (intros; with_reducible exact ih _ _ _)) only [ih, wi_f, wi_g, wc_f, ff_s, ff_l, su_f]
set_option maxHeartbeats 1000000 in
theorem ll_X12_copies_2 {fu : Nat}     : ∀ (n : Nat) (x1 : Int32) (s : fl_I) (l : fl_L), (f_X12_copies_2 fu n x1 s l).2 = l := by
  intro n; induction n with
  | zero => intro x1 s l; rfl
  | succ n ih =>
    intro x1 s l; unfold f_X12_copies_2
    repeat' (with_reducible apply itP3)
    all_goals first | with_reducible rfl | with_reducible exact ih _ _ _ | simp (disch := first | assumption | omega | (intros; with_reducible exact ih _ _ _)) only [ih, ff_l]
set_option maxHeartbeats 1000000 in
theorem fr_X12_copies {fu : Nat} {s : fl_I} {l : fl_L}  {cq cj : Nat} (h0 : ¬ (cq = 60 ∧ cj = 52)) (h1 : ¬ (cq = 60 ∧ cj = 53)) (h2 : cq ≠ 95)  : (f_X12_copies fu s l).1 cq cj = s cq cj := by
  unfold f_X12_copies
  repeat' (with_reducible apply itP1)
  all_goals first | with_reducible rfl | simp (disch := first | assumption | omega) only [fr_X12_copies_2, wi_f, wi_g, wc_f, ff_s, ff_l, su_f]
set_option maxHeartbeats 1000000 in
theorem ll_X12_copies {fu : Nat} {s : fl_I} {l : fl_L}    : (f_X12_copies fu s l).2 = l := by
  unfold f_X12_copies
  repeat' (with_reducible apply itP3)
  all_goals first | with_reducible rfl | simp (disch := first | assumption | omega) only [ll_X12_copies_2, ff_l]
set_option maxHeartbeats 1000000 in
theorem fr_X3_takeName_10 {fu : Nat}  {q : Nat} {z : Nat} {cq cj : Nat} (h0 : ¬ (cq = 3 ∧ cj = 0)) (h1 : ¬ (cq = 3 ∧ cj = 2)) (h2 : ¬ (cq = 3 ∧ cj = 3)) (h3 : ¬ (cq = 3 ∧ cj = 4)) (h4 : ¬ (cq = 3 ∧ cj = 5))  : ∀ (n : Nat) (x2 : Int32) (x3 : Int32) (s : fl_I) (l : fl_L), (f_X3_takeName_10 fu n x2 x3 q z s l).2.1 cq cj = s cq cj := by
  intro n; induction n with
  | zero => intro x2 x3 s l; rfl
  | succ n ih =>
    intro x2 x3 s l; unfold f_X3_takeName_10
    repeat' (with_reducible apply itT1)
    all_goals first | with_reducible rfl | with_reducible exact ih _ _ _ _ | simp (disch := first | assumption | omega | (intros; with_reducible exact ih _ _ _ _)) only [ih, fr_X3_noteLater, fr_X3_take, wi_f, wi_g, wc_f, ff_s, ff_l, su_f]
set_option maxHeartbeats 1000000 in
theorem ll_X3_takeName_10 {fu : Nat}  {q : Nat} {z : Nat}   : ∀ (n : Nat) (x2 : Int32) (x3 : Int32) (s : fl_I) (l : fl_L), (f_X3_takeName_10 fu n x2 x3 q z s l).2.2 = l := by
  intro n; induction n with
  | zero => intro x2 x3 s l; rfl
  | succ n ih =>
    intro x2 x3 s l; unfold f_X3_takeName_10
    repeat' (with_reducible apply itT3)
    all_goals first | with_reducible rfl | with_reducible exact ih _ _ _ _ | simp (disch := first | assumption | omega | (intros; with_reducible exact ih _ _ _ _)) only [ih, ll_X3_noteLater, ll_X3_take, ff_l]
set_option maxHeartbeats 1000000 in
theorem fr_X3_takeName {fu : Nat} {v1 : Int32} {q : Nat} {z : Nat} {s : fl_I} {l : fl_L}  {cq cj : Nat} (h0 : ¬ (cq = 3 ∧ cj = 0)) (h1 : ¬ (cq = 3 ∧ cj = 2)) (h2 : ¬ (cq = 3 ∧ cj = 3)) (h3 : ¬ (cq = 3 ∧ cj = 4)) (h4 : ¬ (cq = 3 ∧ cj = 5))  : (f_X3_takeName fu v1 q z s l).2.1 cq cj = s cq cj := by
  unfold f_X3_takeName
  repeat' (with_reducible apply itT1)
  all_goals first | with_reducible rfl | simp (disch := first | assumption | omega) only [fr_X3_takeName_10, wi_f, wi_g, wc_f, ff_s, ff_l, su_f]
set_option maxHeartbeats 1000000 in
theorem ll_X3_takeName {fu : Nat} {v1 : Int32} {q : Nat} {z : Nat} {s : fl_I} {l : fl_L}  {cq cj : Nat} (h0 : ¬ (cq = 3 ∧ cj = 7))  : (f_X3_takeName fu v1 q z s l).2.2 cq cj = l cq cj := by
  unfold f_X3_takeName
  repeat' (with_reducible apply itT2)
  all_goals first | with_reducible rfl | simp (disch := first | assumption | omega) only [ll_X3_takeName_10, wl_f, wl_g, ff_l]
set_option maxHeartbeats 1000000 in
theorem fr_X3_wordTold {fu : Nat} {t : Nat} {s : fl_I} {l : fl_L}  {cq cj : Nat} (h0 : ¬ (cq = 3 ∧ cj = 0)) (h1 : ¬ (cq = 3 ∧ cj = 2)) (h2 : ¬ (cq = 3 ∧ cj = 3)) (h3 : ¬ (cq = 3 ∧ cj = 4)) (h4 : ¬ (cq = 3 ∧ cj = 5)) (h5 : ¬ (cq = t ∧ cj = 1))  : (f_X3_wordTold fu t s l).2.1 cq cj = s cq cj := by
  unfold f_X3_wordTold
  repeat' (with_reducible apply itT1)
  all_goals first | with_reducible rfl | simp (disch := first | assumption | omega) only [fr_X3_stop, fr_X3_take, fr_X3_takeName, fr_X5_addWord, wi_f, wi_g, wc_f, ff_s, ff_l, su_f]
set_option maxHeartbeats 1000000 in
theorem ll_X3_wordTold {fu : Nat} {t : Nat} {s : fl_I} {l : fl_L}  {cq cj : Nat} (h0 : ¬ (cq = 3 ∧ cj = 7)) (h1 : cq ≠ (t + 2))  : (f_X3_wordTold fu t s l).2.2 cq cj = l cq cj := by
  unfold f_X3_wordTold
  repeat' (with_reducible apply itT2)
  all_goals first | with_reducible rfl | simp (disch := first | assumption | omega) only [ll_X3_stop, ll_X3_take, ll_X3_takeName, ll_X5_addWord, wl_f, wl_g, ff_l]
set_option maxHeartbeats 1000000 in
theorem fr_X7_add {fu : Nat} {v0 : Int32} {v1 : Int32} {s : fl_I} {l : fl_L}  {cq cj : Nat} (h0 : ¬ (cq = 57 ∧ cj = 0)) (h1 : cq ≠ 58)  : (f_X7_add fu v0 v1 s l).2.1 cq cj = s cq cj := by
  unfold f_X7_add
  repeat' (with_reducible apply itT1)
  all_goals first | with_reducible rfl | simp (disch := first | assumption | omega) only [wi_f, wi_g, wc_f, ff_s, ff_l, su_f]
set_option maxHeartbeats 1000000 in
theorem ll_X7_add {fu : Nat} {v0 : Int32} {v1 : Int32} {s : fl_I} {l : fl_L}    : (f_X7_add fu v0 v1 s l).2.2 = l := by
  unfold f_X7_add
  repeat' (with_reducible apply itT3)
  all_goals first | with_reducible rfl | simp (disch := first | assumption | omega) only [ff_l]
set_option maxHeartbeats 1000000 in
theorem fr_X10_layDown {fu : Nat} {v0 : Int32} {a : Nat} {s : fl_I} {l : fl_L}  {cq cj : Nat} (h0 : cq ≠ (a + 1)) (h1 : cq ≠ (a + 2)) (h2 : cq ≠ (a + 5))  : (f_X10_layDown fu v0 a s l).1 cq cj = s cq cj := by
  unfold f_X10_layDown
  repeat' (with_reducible apply itP1)
  all_goals first | with_reducible rfl | simp (disch := first | assumption | omega) only [wi_f, wi_g, wc_f, ff_s, ff_l, su_f]
set_option maxHeartbeats 1000000 in
theorem ll_X10_layDown {fu : Nat} {v0 : Int32} {a : Nat} {s : fl_I} {l : fl_L}    : (f_X10_layDown fu v0 a s l).2 = l := by
  unfold f_X10_layDown
  repeat' (with_reducible apply itP3)
  all_goals first | with_reducible rfl | simp (disch := first | assumption | omega) only [ff_l]
set_option maxHeartbeats 1000000 in
theorem fr_X12_token {fu : Nat} {v0 : Int32} {v1 : Int32} {v2 : Int32} {v3 : Int64} {s : fl_I} {l : fl_L}  {cq cj : Nat} (h0 : ¬ (cq = 60 ∧ cj = 10)) (h1 : cq ≠ 63) (h2 : cq ≠ 64) (h3 : cq ≠ 65)  : (f_X12_token fu v0 v1 v2 v3 s l).1 cq cj = s cq cj := by
  unfold f_X12_token
  repeat' (with_reducible apply itP1)
  all_goals first | with_reducible rfl | simp (disch := first | assumption | omega) only [wi_f, wi_g, wc_f, ff_s, ff_l, su_f]
set_option maxHeartbeats 1000000 in
theorem ll_X12_token {fu : Nat} {v0 : Int32} {v1 : Int32} {v2 : Int32} {v3 : Int64} {s : fl_I} {l : fl_L}  {cq cj : Nat} (h0 : cq ≠ 66)  : (f_X12_token fu v0 v1 v2 v3 s l).2 cq cj = l cq cj := by
  unfold f_X12_token
  repeat' (with_reducible apply itP2)
  all_goals first | with_reducible rfl | simp (disch := first | assumption | omega) only [wl_f, wl_g, ff_l]
set_option maxHeartbeats 1000000 in
theorem fr_X12_wrong {fu : Nat} {v0 : Int32} {v1 : Int32} {s : fl_I} {l : fl_L}  {cq cj : Nat} (h0 : ¬ (cq = 60 ∧ cj = 15)) (h1 : ¬ (cq = 60 ∧ cj = 16))  : (f_X12_wrong fu v0 v1 s l).1 cq cj = s cq cj := by
  unfold f_X12_wrong
  repeat' (with_reducible apply itP1)
  all_goals first | with_reducible rfl | simp (disch := first | assumption | omega) only [wi_f, wi_g, wc_f, ff_s, ff_l, su_f]
set_option maxHeartbeats 1000000 in
theorem ll_X12_wrong {fu : Nat} {v0 : Int32} {v1 : Int32} {s : fl_I} {l : fl_L}    : (f_X12_wrong fu v0 v1 s l).2 = l := by
  unfold f_X12_wrong
  repeat' (with_reducible apply itP3)
  all_goals first | with_reducible rfl | simp (disch := first | assumption | omega) only [ff_l]
set_option maxHeartbeats 1000000 in
theorem fr_X5_addPicker {fu : Nat} {v0 : Int64} {v1 : Int32} {v2 : Int32} {t : Nat} {s : fl_I} {l : fl_L}  {cq cj : Nat} (h0 : cq ≠ (t + 7)) (h1 : cq ≠ (t + 8)) (h2 : ¬ (cq = t ∧ cj = 2))  : (f_X5_addPicker fu v0 v1 v2 t s l).1 cq cj = s cq cj := by
  unfold f_X5_addPicker
  repeat' (with_reducible apply itP1)
  all_goals first | with_reducible rfl | simp (disch := first | assumption | omega) only [wi_f, wi_g, wc_f, ff_s, ff_l, su_f]
set_option maxHeartbeats 1000000 in
theorem ll_X5_addPicker {fu : Nat} {v0 : Int64} {v1 : Int32} {v2 : Int32} {t : Nat} {s : fl_I} {l : fl_L}  {cq cj : Nat} (h0 : cq ≠ (t + 3))  : (f_X5_addPicker fu v0 v1 v2 t s l).2 cq cj = l cq cj := by
  unfold f_X5_addPicker
  repeat' (with_reducible apply itP2)
  all_goals first | with_reducible rfl | simp (disch := first | assumption | omega) only [wl_f, wl_g, ff_l]
set_option maxHeartbeats 1000000 in
theorem fr_X10_countAll_7 {fu : Nat}  {a : Nat} {q : Nat} {cq cj : Nat} (h0 : cq ≠ q)  : ∀ (n : Nat) (x2 : Int32) (s : fl_I) (l : fl_L), (f_X10_countAll_7 fu n x2 a q s l).1 cq cj = s cq cj := by
  intro n; induction n with
  | zero => intro x2 s l; rfl
  | succ n ih =>
    intro x2 s l; unfold f_X10_countAll_7
    repeat' (with_reducible apply itP1)
    all_goals first | with_reducible rfl | with_reducible exact ih _ _ _ | simp (disch := first | assumption | omega | (intros; with_reducible exact ih _ _ _)) only [ih, wi_f, wi_g, wc_f, ff_s, ff_l, su_f]
set_option maxHeartbeats 1000000 in
theorem ll_X10_countAll_7 {fu : Nat}  {a : Nat} {q : Nat}   : ∀ (n : Nat) (x2 : Int32) (s : fl_I) (l : fl_L), (f_X10_countAll_7 fu n x2 a q s l).2 = l := by
  intro n; induction n with
  | zero => intro x2 s l; rfl
  | succ n ih =>
    intro x2 s l; unfold f_X10_countAll_7
    repeat' (with_reducible apply itP3)
    all_goals first | with_reducible rfl | with_reducible exact ih _ _ _ | simp (disch := first | assumption | omega | (intros; with_reducible exact ih _ _ _)) only [ih, ff_l]
set_option maxHeartbeats 1000000 in
theorem fr_X10_countAll {fu : Nat} {a : Nat} {q : Nat} {s : fl_I} {l : fl_L}  {cq cj : Nat} (h0 : cq ≠ q)  : (f_X10_countAll fu a q s l).1 cq cj = s cq cj := by
  unfold f_X10_countAll
  repeat' (with_reducible apply itP1)
  all_goals first | with_reducible rfl | simp (disch := first | assumption | omega) only [fr_X10_countAll_7, wi_f, wi_g, wc_f, ff_s, ff_l, su_f]
set_option maxHeartbeats 1000000 in
theorem ll_X10_countAll {fu : Nat} {a : Nat} {q : Nat} {s : fl_I} {l : fl_L}    : (f_X10_countAll fu a q s l).2 = l := by
  unfold f_X10_countAll
  repeat' (with_reducible apply itP3)
  all_goals first | with_reducible rfl | simp (disch := first | assumption | omega) only [ll_X10_countAll_7, ff_l]
set_option maxHeartbeats 1000000 in
theorem fr_X11_feed {fu : Nat} {v0 : Int32} {v1 : Int32} {v2 : Int32} {v3 : Int32} {v4 : Int32} {s : fl_I} {l : fl_L}  {cq cj : Nat} (h0 : ¬ (cq = 1 ∧ cj = 1)) (h1 : cq ≠ 2)  : (f_X11_feed fu v0 v1 v2 v3 v4 s l).2.1 cq cj = s cq cj := by
  unfold f_X11_feed
  repeat' (with_reducible apply itT1)
  all_goals first | with_reducible rfl | simp (disch := first | assumption | omega) only [fr_X4_add, wi_f, wi_g, wc_f, ff_s, ff_l, su_f]
set_option maxHeartbeats 1000000 in
theorem ll_X11_feed {fu : Nat} {v0 : Int32} {v1 : Int32} {v2 : Int32} {v3 : Int32} {v4 : Int32} {s : fl_I} {l : fl_L}    : (f_X11_feed fu v0 v1 v2 v3 v4 s l).2.2 = l := by
  unfold f_X11_feed
  repeat' (with_reducible apply itT3)
  all_goals first | with_reducible rfl | simp (disch := first | assumption | omega) only [ll_X4_add, ff_l]
set_option maxHeartbeats 1000000 in
theorem fr_X12_bounded {fu : Nat} {v0 : Int32} {v1 : Int32} {s : fl_I} {l : fl_L}  {cq cj : Nat} (h0 : ¬ (cq = 60 ∧ cj = 11)) (h1 : ¬ (cq = 60 ∧ cj = 13)) (h2 : ¬ (cq = 60 ∧ cj = 14)) (h3 : ¬ (cq = 60 ∧ cj = 15)) (h4 : ¬ (cq = 60 ∧ cj = 16))  : (f_X12_bounded fu v0 v1 s l).2.1 cq cj = s cq cj := by
  unfold f_X12_bounded
  repeat' (with_reducible apply itT1)
  all_goals first | with_reducible rfl | simp (disch := first | assumption | omega) only [fr_X12_fail, fr_X12_goesOn, fr_X12_wrong, wi_f, wi_g, wc_f, ff_s, ff_l, su_f]
set_option maxHeartbeats 1000000 in
theorem ll_X12_bounded {fu : Nat} {v0 : Int32} {v1 : Int32} {s : fl_I} {l : fl_L}    : (f_X12_bounded fu v0 v1 s l).2.2 = l := by
  unfold f_X12_bounded
  repeat' (with_reducible apply itT3)
  all_goals first | with_reducible rfl | simp (disch := first | assumption | omega) only [ll_X12_fail, ll_X12_goesOn, ll_X12_wrong, ff_l]
set_option maxHeartbeats 1000000 in
theorem fr_X12_undo_21 {fu : Nat}   {cq cj : Nat} (h0 : cq ≠ 94)  : ∀ (n : Nat) (x1 : Int32) (s : fl_I) (l : fl_L), (f_X12_undo_21 fu n x1 s l).2.1 cq cj = s cq cj := by
  intro n; induction n with
  | zero => intro x1 s l; rfl
  | succ n ih =>
    intro x1 s l; unfold f_X12_undo_21
    repeat' (with_reducible apply itT1)
    all_goals first | with_reducible rfl | with_reducible exact ih _ _ _ | simp (disch := first | assumption | omega | (intros; with_reducible exact ih _ _ _)) only [ih, wi_f, wi_g, wc_f, ff_s, ff_l, su_f]
set_option maxHeartbeats 1000000 in
theorem ll_X12_undo_21 {fu : Nat}     : ∀ (n : Nat) (x1 : Int32) (s : fl_I) (l : fl_L), (f_X12_undo_21 fu n x1 s l).2.2 = l := by
  intro n; induction n with
  | zero => intro x1 s l; rfl
  | succ n ih =>
    intro x1 s l; unfold f_X12_undo_21
    repeat' (with_reducible apply itT3)
    all_goals first | with_reducible rfl | with_reducible exact ih _ _ _ | simp (disch := first | assumption | omega | (intros; with_reducible exact ih _ _ _)) only [ih, ff_l]
set_option maxHeartbeats 1000000 in
theorem fr_X12_undo {fu : Nat} {s : fl_I} {l : fl_L}  {cq cj : Nat} (h0 : ¬ (cq = 60 ∧ cj = 58)) (h1 : cq ≠ 94)  : (f_X12_undo fu s l).2.1 cq cj = s cq cj := by
  unfold f_X12_undo
  repeat' (with_reducible apply itT1)
  all_goals first | with_reducible rfl | simp (disch := first | assumption | omega) only [fr_X12_undo_21, wi_f, wi_g, wc_f, ff_s, ff_l, su_f]
set_option maxHeartbeats 1000000 in
theorem ll_X12_undo {fu : Nat} {s : fl_I} {l : fl_L}    : (f_X12_undo fu s l).2.2 = l := by
  unfold f_X12_undo
  repeat' (with_reducible apply itT3)
  all_goals first | with_reducible rfl | simp (disch := first | assumption | omega) only [ll_X12_undo_21, ff_l]
set_option maxHeartbeats 1000000 in
theorem fr_X12_hold_20 {fu : Nat}   {cq cj : Nat} (h0 : cq ≠ 106)  : ∀ (n : Nat) (x1 : Int32) (x2 : Int32) (s : fl_I) (l : fl_L), (f_X12_hold_20 fu n x1 x2 s l).2.1 cq cj = s cq cj := by
  intro n; induction n with
  | zero => intro x1 x2 s l; rfl
  | succ n ih =>
    intro x1 x2 s l; unfold f_X12_hold_20
    repeat' (with_reducible apply itT1)
    all_goals first | with_reducible rfl | with_reducible exact ih _ _ _ _ | simp (disch := first | assumption | omega | (intros; with_reducible exact ih _ _ _ _)) only [ih, wi_f, wi_g, wc_f, ff_s, ff_l, su_f]
set_option maxHeartbeats 1000000 in
theorem ll_X12_hold_20 {fu : Nat}     : ∀ (n : Nat) (x1 : Int32) (x2 : Int32) (s : fl_I) (l : fl_L), (f_X12_hold_20 fu n x1 x2 s l).2.2 = l := by
  intro n; induction n with
  | zero => intro x1 x2 s l; rfl
  | succ n ih =>
    intro x1 x2 s l; unfold f_X12_hold_20
    repeat' (with_reducible apply itT3)
    all_goals first | with_reducible rfl | with_reducible exact ih _ _ _ _ | simp (disch := first | assumption | omega | (intros; with_reducible exact ih _ _ _ _)) only [ih, ff_l]
set_option maxHeartbeats 1000000 in
theorem fr_X12_hold {fu : Nat} {v0 : Int32} {s : fl_I} {l : fl_L}  {cq cj : Nat} (h0 : cq ≠ 105) (h1 : cq ≠ 106)  : (f_X12_hold fu v0 s l).2.1 cq cj = s cq cj := by
  unfold f_X12_hold
  repeat' (with_reducible apply itT1)
  all_goals first | with_reducible rfl | simp (disch := first | assumption | omega) only [fr_X12_hold_20, wi_f, wi_g, wc_f, ff_s, ff_l, su_f]
set_option maxHeartbeats 1000000 in
theorem ll_X12_hold {fu : Nat} {v0 : Int32} {s : fl_I} {l : fl_L}    : (f_X12_hold fu v0 s l).2.2 = l := by
  unfold f_X12_hold
  repeat' (with_reducible apply itT3)
  all_goals first | with_reducible rfl | simp (disch := first | assumption | omega) only [ll_X12_hold_20, ff_l]
set_option maxHeartbeats 1000000 in
theorem fr_X12_fillsCells_7 {fu : Nat}   {cq cj : Nat} (h0 : ¬ (cq = 60 ∧ cj = 60)) (h1 : cq ≠ 100)  : ∀ (n : Nat) (x1 : Int32) (x2 : Int32) (x3 : Int32) (s : fl_I) (l : fl_L), (f_X12_fillsCells_7 fu n x1 x2 x3 s l).1 cq cj = s cq cj := by
  intro n; induction n with
  | zero => intro x1 x2 x3 s l; rfl
  | succ n ih =>
    intro x1 x2 x3 s l; unfold f_X12_fillsCells_7
    repeat' (with_reducible apply itP1)
    all_goals first | with_reducible rfl | with_reducible exact ih _ _ _ _ _ | simp (disch := first | assumption | omega | (intros; with_reducible exact ih _ _ _ _ _)) only [ih, wi_f, wi_g, wc_f, ff_s, ff_l, su_f]
set_option maxHeartbeats 1000000 in
theorem ll_X12_fillsCells_7 {fu : Nat}     : ∀ (n : Nat) (x1 : Int32) (x2 : Int32) (x3 : Int32) (s : fl_I) (l : fl_L), (f_X12_fillsCells_7 fu n x1 x2 x3 s l).2 = l := by
  intro n; induction n with
  | zero => intro x1 x2 x3 s l; rfl
  | succ n ih =>
    intro x1 x2 x3 s l; unfold f_X12_fillsCells_7
    repeat' (with_reducible apply itP3)
    all_goals first | with_reducible rfl | with_reducible exact ih _ _ _ _ _ | simp (disch := first | assumption | omega | (intros; with_reducible exact ih _ _ _ _ _)) only [ih, ff_l]
set_option maxHeartbeats 1000000 in
theorem fr_X12_fillsCells {fu : Nat} {v0 : Int32} {v1 : Int32} {s : fl_I} {l : fl_L}  {cq cj : Nat} (h0 : ¬ (cq = 60 ∧ cj = 60)) (h1 : cq ≠ 100)  : (f_X12_fillsCells fu v0 v1 s l).1 cq cj = s cq cj := by
  unfold f_X12_fillsCells
  repeat' (with_reducible apply itP1)
  all_goals first | with_reducible rfl | simp (disch := first | assumption | omega) only [fr_X12_fillsCells_7, wi_f, wi_g, wc_f, ff_s, ff_l, su_f]
set_option maxHeartbeats 1000000 in
theorem ll_X12_fillsCells {fu : Nat} {v0 : Int32} {v1 : Int32} {s : fl_I} {l : fl_L}    : (f_X12_fillsCells fu v0 v1 s l).2 = l := by
  unfold f_X12_fillsCells
  repeat' (with_reducible apply itP3)
  all_goals first | with_reducible rfl | simp (disch := first | assumption | omega) only [ll_X12_fillsCells_7, ff_l]
set_option maxHeartbeats 1000000 in
theorem fr_X12_tell {fu : Nat} {v0 : Int32} {v1 : Int32} {s : fl_I} {l : fl_L}  {cq cj : Nat} (h0 : ¬ (cq = 60 ∧ cj = 65)) (h1 : cq ≠ 103) (h2 : cq ≠ 104)  : (f_X12_tell fu v0 v1 s l).2.1 cq cj = s cq cj := by
  unfold f_X12_tell
  repeat' (with_reducible apply itT1)
  all_goals first | with_reducible rfl | simp (disch := first | assumption | omega) only [wi_f, wi_g, wc_f, ff_s, ff_l, su_f]
set_option maxHeartbeats 1000000 in
theorem ll_X12_tell {fu : Nat} {v0 : Int32} {v1 : Int32} {s : fl_I} {l : fl_L}    : (f_X12_tell fu v0 v1 s l).2.2 = l := by
  unfold f_X12_tell
  repeat' (with_reducible apply itT3)
  all_goals first | with_reducible rfl | simp (disch := first | assumption | omega) only [ff_l]
set_option maxHeartbeats 1000000 in
theorem fr_X12_restore_22 {fu : Nat}   {cq cj : Nat} (h0 : ¬ (cq = 60 ∧ cj = 58)) (h1 : cq ≠ 94)  : ∀ (n : Nat) (x1 : Int32) (x2 : Int32) (s : fl_I) (l : fl_L), (f_X12_restore_22 fu n x1 x2 s l).2.1 cq cj = s cq cj := by
  intro n; induction n with
  | zero => intro x1 x2 s l; rfl
  | succ n ih =>
    intro x1 x2 s l; unfold f_X12_restore_22
    repeat' (with_reducible apply itT1)
    all_goals first | with_reducible rfl | with_reducible exact ih _ _ _ _ | simp (disch := first | assumption | omega | (intros; with_reducible exact ih _ _ _ _)) only [ih, wi_f, wi_g, wc_f, ff_s, ff_l, su_f]
set_option maxHeartbeats 1000000 in
theorem ll_X12_restore_22 {fu : Nat}     : ∀ (n : Nat) (x1 : Int32) (x2 : Int32) (s : fl_I) (l : fl_L), (f_X12_restore_22 fu n x1 x2 s l).2.2 = l := by
  intro n; induction n with
  | zero => intro x1 x2 s l; rfl
  | succ n ih =>
    intro x1 x2 s l; unfold f_X12_restore_22
    repeat' (with_reducible apply itT3)
    all_goals first | with_reducible rfl | with_reducible exact ih _ _ _ _ | simp (disch := first | assumption | omega | (intros; with_reducible exact ih _ _ _ _)) only [ih, ff_l]
set_option maxHeartbeats 1000000 in
theorem fr_X12_restore {fu : Nat} {v0 : Int32} {s : fl_I} {l : fl_L}  {cq cj : Nat} (h0 : ¬ (cq = 60 ∧ cj = 58)) (h1 : cq ≠ 94)  : (f_X12_restore fu v0 s l).2.1 cq cj = s cq cj := by
  unfold f_X12_restore
  repeat' (with_reducible apply itT1)
  all_goals first | with_reducible rfl | simp (disch := first | assumption | omega) only [fr_X12_restore_22, wi_f, wi_g, wc_f, ff_s, ff_l, su_f]
set_option maxHeartbeats 1000000 in
theorem ll_X12_restore {fu : Nat} {v0 : Int32} {s : fl_I} {l : fl_L}    : (f_X12_restore fu v0 s l).2.2 = l := by
  unfold f_X12_restore
  repeat' (with_reducible apply itT3)
  all_goals first | with_reducible rfl | simp (disch := first | assumption | omega) only [ll_X12_restore_22, ff_l]
set_option maxHeartbeats 1000000 in
theorem fr_X12_richest_23 {fu : Nat}   {cq cj : Nat}   : ∀ (n : Nat) (x1 : Int32) (x2 : Int32) (x3 : Int32) (x4 : Int32) (s : fl_I) (l : fl_L), (f_X12_richest_23 fu n x1 x2 x3 x4 s l).2.1 cq cj = s cq cj := by
  intro n; induction n with
  | zero => intro x1 x2 x3 x4 s l; rfl
  | succ n ih =>
    intro x1 x2 x3 x4 s l; unfold f_X12_richest_23
    repeat' (with_reducible apply itT1)
    all_goals first | with_reducible rfl | with_reducible exact ih _ _ _ _ _ _ | simp (disch := first | assumption | omega | (intros; with_reducible exact ih _ _ _ _ _ _)) only [ih, wi_f, wi_g, wc_f, ff_s, ff_l, su_f]
set_option maxHeartbeats 1000000 in
theorem ll_X12_richest_23 {fu : Nat}     : ∀ (n : Nat) (x1 : Int32) (x2 : Int32) (x3 : Int32) (x4 : Int32) (s : fl_I) (l : fl_L), (f_X12_richest_23 fu n x1 x2 x3 x4 s l).2.2 = l := by
  intro n; induction n with
  | zero => intro x1 x2 x3 x4 s l; rfl
  | succ n ih =>
    intro x1 x2 x3 x4 s l; unfold f_X12_richest_23
    repeat' (with_reducible apply itT3)
    all_goals first | with_reducible rfl | with_reducible exact ih _ _ _ _ _ _ | simp (disch := first | assumption | omega | (intros; with_reducible exact ih _ _ _ _ _ _)) only [ih, ff_l]
set_option maxHeartbeats 1000000 in
theorem fr_X12_richest {fu : Nat} {v0 : Int32} {s : fl_I} {l : fl_L}  {cq cj : Nat} (h0 : ¬ (cq = 60 ∧ cj = 52)) (h1 : ¬ (cq = 60 ∧ cj = 53)) (h2 : cq ≠ 95)  : (f_X12_richest fu v0 s l).2.1 cq cj = s cq cj := by
  unfold f_X12_richest
  repeat' (with_reducible apply itT1)
  all_goals first | with_reducible rfl | simp (disch := first | assumption | omega) only [fr_X12_copies, fr_X12_richest_23, wi_f, wi_g, wc_f, ff_s, ff_l, su_f]
set_option maxHeartbeats 1000000 in
theorem ll_X12_richest {fu : Nat} {v0 : Int32} {s : fl_I} {l : fl_L}    : (f_X12_richest fu v0 s l).2.2 = l := by
  unfold f_X12_richest
  repeat' (with_reducible apply itT3)
  all_goals first | with_reducible rfl | simp (disch := first | assumption | omega) only [ll_X12_copies, ll_X12_richest_23, ff_l]
set_option maxHeartbeats 1000000 in
theorem fr_X9_pickUp_20 {fu : Nat} {K2 : Int32 → fl_I → fl_L → fl_I × fl_L} {t : Nat} {a : Nat} {cq cj : Nat} (h0 : cq ≠ (a + 1)) (h1 : cq ≠ (a + 2)) (h2 : cq ≠ (a + 5)) (hkK2 : ∀ (k0 : Int32) (k1 : fl_I) (k2 : fl_L), (K2 k0 k1 k2).1 cq cj = k1 cq cj) : ∀ (n : Nat) (x2 : Int32) (x3 : Int32) (x4 : Int32) (s : fl_I) (l : fl_L), (f_X9_pickUp_20 fu K2 n x2 x3 x4 t a s l).1 cq cj = s cq cj := by
  intro n; induction n with
  | zero => intro x2 x3 x4 s l; rfl
  | succ n ih =>
    intro x2 x3 x4 s l; unfold f_X9_pickUp_20
    repeat' (with_reducible apply itP1)
    all_goals first | with_reducible rfl | with_reducible exact ih _ _ _ _ _ | simp (disch := first | assumption | omega | (intros; with_reducible exact ih _ _ _ _ _)) only [ih, fr_X10_putInHat, hkK2, wi_f, wi_g, wc_f, ff_s, ff_l, su_f]
set_option maxHeartbeats 1000000 in
theorem ll_X9_pickUp_20 {fu : Nat} {K2 : Int32 → fl_I → fl_L → fl_I × fl_L} {t : Nat} {a : Nat} {cq cj : Nat}  (hkK2 : ∀ (k0 : Int32) (k1 : fl_I) (k2 : fl_L), (K2 k0 k1 k2).2 cq cj = k2 cq cj) : ∀ (n : Nat) (x2 : Int32) (x3 : Int32) (x4 : Int32) (s : fl_I) (l : fl_L), (f_X9_pickUp_20 fu K2 n x2 x3 x4 t a s l).2 cq cj = l cq cj := by
  intro n; induction n with
  | zero => intro x2 x3 x4 s l; rfl
  | succ n ih =>
    intro x2 x3 x4 s l; unfold f_X9_pickUp_20
    repeat' (with_reducible apply itP2)
    all_goals first | with_reducible rfl | with_reducible exact ih _ _ _ _ _ | simp (disch := first | assumption | omega | (intros; with_reducible exact ih _ _ _ _ _)) only [ih, ll_X10_putInHat, hkK2, wl_f, wl_g, ff_l]
set_option maxHeartbeats 1000000 in
theorem fr_X9_pickUp_2 {fu : Nat}  {t : Nat} {a : Nat} {cq cj : Nat} (h0 : cq ≠ (a + 1)) (h1 : cq ≠ (a + 2)) (h2 : cq ≠ (a + 5))  : ∀ (n : Nat) (x2 : Int32) (s : fl_I) (l : fl_L), (f_X9_pickUp_2 fu n x2 t a s l).1 cq cj = s cq cj := by
  intro n; induction n with
  | zero => intro x2 s l; rfl
  | succ n ih =>
    intro x2 s l; unfold f_X9_pickUp_2
    repeat' (with_reducible apply itP1)
    all_goals first | with_reducible rfl | with_reducible exact ih _ _ _ | simp (disch := first | assumption | omega | (intros; with_reducible exact ih _ _ _)) only [ih, fr_X9_pickUp_20, wi_f, wi_g, wc_f, ff_s, ff_l, su_f]
set_option maxHeartbeats 1000000 in
theorem ll_X9_pickUp_2 {fu : Nat}  {t : Nat} {a : Nat} {cq cj : Nat}   : ∀ (n : Nat) (x2 : Int32) (s : fl_I) (l : fl_L), (f_X9_pickUp_2 fu n x2 t a s l).2 cq cj = l cq cj := by
  intro n; induction n with
  | zero => intro x2 s l; rfl
  | succ n ih =>
    intro x2 s l; unfold f_X9_pickUp_2
    repeat' (with_reducible apply itP2)
    all_goals first | with_reducible rfl | with_reducible exact ih _ _ _ | simp (disch := first | assumption | omega | (intros; with_reducible exact ih _ _ _)) only [ih, ll_X9_pickUp_20, wl_f, wl_g, ff_l]
set_option maxHeartbeats 1000000 in
theorem fr_X9_pickUp {fu : Nat} {t : Nat} {a : Nat} {s : fl_I} {l : fl_L}  {cq cj : Nat} (h0 : cq ≠ (a + 1)) (h1 : cq ≠ (a + 2)) (h2 : cq ≠ (a + 5))  : (f_X9_pickUp fu t a s l).1 cq cj = s cq cj := by
  unfold f_X9_pickUp
  repeat' (with_reducible apply itP1)
  all_goals first | with_reducible rfl | simp (disch := first | assumption | omega) only [fr_X9_pickUp_2, wi_f, wi_g, wc_f, ff_s, ff_l, su_f]
set_option maxHeartbeats 1000000 in
theorem ll_X9_pickUp {fu : Nat} {t : Nat} {a : Nat} {s : fl_I} {l : fl_L}  {cq cj : Nat}   : (f_X9_pickUp fu t a s l).2 cq cj = l cq cj := by
  unfold f_X9_pickUp
  repeat' (with_reducible apply itP2)
  all_goals first | with_reducible rfl | simp (disch := first | assumption | omega) only [ll_X9_pickUp_2, wl_f, wl_g, ff_l]
set_option maxHeartbeats 1000000 in
theorem fr_X0_gather_11 {fu : Nat}  {t : Nat} {a : Nat} {cq cj : Nat} (h0 : cq ≠ 56)  : ∀ (n : Nat) (x3 : Int32) (x4 : Int32) (s : fl_I) (l : fl_L), (f_X0_gather_11 fu n x3 x4 t a s l).1 cq cj = s cq cj := by
  intro n; induction n with
  | zero => intro x3 x4 s l; rfl
  | succ n ih =>
    intro x3 x4 s l; unfold f_X0_gather_11
    repeat' (with_reducible apply itP1)
    all_goals first | with_reducible rfl | with_reducible exact ih _ _ _ _ | simp (disch := first | assumption | omega | (intros; with_reducible exact ih _ _ _ _)) only [ih, wi_f, wi_g, wc_f, ff_s, ff_l, su_f]
set_option maxHeartbeats 1000000 in
theorem ll_X0_gather_11 {fu : Nat}  {t : Nat} {a : Nat}   : ∀ (n : Nat) (x3 : Int32) (x4 : Int32) (s : fl_I) (l : fl_L), (f_X0_gather_11 fu n x3 x4 t a s l).2 = l := by
  intro n; induction n with
  | zero => intro x3 x4 s l; rfl
  | succ n ih =>
    intro x3 x4 s l; unfold f_X0_gather_11
    repeat' (with_reducible apply itP3)
    all_goals first | with_reducible rfl | with_reducible exact ih _ _ _ _ | simp (disch := first | assumption | omega | (intros; with_reducible exact ih _ _ _ _)) only [ih, ff_l]
set_option maxHeartbeats 1000000 in
theorem fr_X0_gather {fu : Nat} {v2 : Int32} {t : Nat} {a : Nat} {s : fl_I} {l : fl_L}  {cq cj : Nat} (h0 : cq ≠ 56)  : (f_X0_gather fu v2 t a s l).1 cq cj = s cq cj := by
  unfold f_X0_gather
  repeat' (with_reducible apply itP1)
  all_goals first | with_reducible rfl | simp (disch := first | assumption | omega) only [fr_X0_gather_11, wi_f, wi_g, wc_f, ff_s, ff_l, su_f]
set_option maxHeartbeats 1000000 in
theorem ll_X0_gather {fu : Nat} {v2 : Int32} {t : Nat} {a : Nat} {s : fl_I} {l : fl_L}    : (f_X0_gather fu v2 t a s l).2 = l := by
  unfold f_X0_gather
  repeat' (with_reducible apply itP3)
  all_goals first | with_reducible rfl | simp (disch := first | assumption | omega) only [ll_X0_gather_11, ff_l]
set_option maxHeartbeats 1000000 in
theorem fr_X10_begin {fu : Nat} {a : Nat} {t : Nat} {s : fl_I} {l : fl_L}  {cq cj : Nat} (h0 : cq ≠ (a + 1)) (h1 : cq ≠ (a + 2)) (h2 : cq ≠ (a + 3)) (h3 : cq ≠ (a + 4)) (h4 : cq ≠ (a + 5)) (h5 : ¬ (cq = a ∧ cj = 0)) (h6 : ¬ (cq = a ∧ cj = 1)) (h7 : ¬ (cq = a ∧ cj = 2))  : (f_X10_begin fu a t s l).1 cq cj = s cq cj := by
  unfold f_X10_begin
  repeat' (with_reducible apply itP1)
  all_goals first | with_reducible rfl | simp (disch := first | assumption | omega) only [wi_f, wi_g, wc_f, ff_s, ff_l, su_f]
set_option maxHeartbeats 1000000 in
theorem ll_X10_begin {fu : Nat} {a : Nat} {t : Nat} {s : fl_I} {l : fl_L}    : (f_X10_begin fu a t s l).2 = l := by
  unfold f_X10_begin
  repeat' (with_reducible apply itP3)
  all_goals first | with_reducible rfl | simp (disch := first | assumption | omega) only [ff_l]
set_option maxHeartbeats 1000000 in
theorem fr_X11_richest_30 {fu : Nat}   {cq cj : Nat}   : ∀ (n : Nat) (x1 : Int32) (x2 : Int32) (x3 : Int32) (x4 : Int32) (s : fl_I) (l : fl_L), (f_X11_richest_30 fu n x1 x2 x3 x4 s l).2.1 cq cj = s cq cj := by
  intro n; induction n with
  | zero => intro x1 x2 x3 x4 s l; rfl
  | succ n ih =>
    intro x1 x2 x3 x4 s l; unfold f_X11_richest_30
    repeat' (with_reducible apply itT1)
    all_goals first | with_reducible rfl | with_reducible exact ih _ _ _ _ _ _ | simp (disch := first | assumption | omega | (intros; with_reducible exact ih _ _ _ _ _ _)) only [ih, wi_f, wi_g, wc_f, ff_s, ff_l, su_f]
set_option maxHeartbeats 1000000 in
theorem ll_X11_richest_30 {fu : Nat}     : ∀ (n : Nat) (x1 : Int32) (x2 : Int32) (x3 : Int32) (x4 : Int32) (s : fl_I) (l : fl_L), (f_X11_richest_30 fu n x1 x2 x3 x4 s l).2.2 = l := by
  intro n; induction n with
  | zero => intro x1 x2 x3 x4 s l; rfl
  | succ n ih =>
    intro x1 x2 x3 x4 s l; unfold f_X11_richest_30
    repeat' (with_reducible apply itT3)
    all_goals first | with_reducible rfl | with_reducible exact ih _ _ _ _ _ _ | simp (disch := first | assumption | omega | (intros; with_reducible exact ih _ _ _ _ _ _)) only [ih, ff_l]
set_option maxHeartbeats 1000000 in
theorem fr_X11_richest {fu : Nat} {v0 : Int32} {s : fl_I} {l : fl_L}  {cq cj : Nat} (h0 : cq ≠ 59)  : (f_X11_richest fu v0 s l).2.1 cq cj = s cq cj := by
  unfold f_X11_richest
  repeat' (with_reducible apply itT1)
  all_goals first | with_reducible rfl | simp (disch := first | assumption | omega) only [fr_X10_countAll, fr_X11_richest_30, wi_f, wi_g, wc_f, ff_s, ff_l, su_f]
set_option maxHeartbeats 1000000 in
theorem ll_X11_richest {fu : Nat} {v0 : Int32} {s : fl_I} {l : fl_L}    : (f_X11_richest fu v0 s l).2.2 = l := by
  unfold f_X11_richest
  repeat' (with_reducible apply itT3)
  all_goals first | with_reducible rfl | simp (disch := first | assumption | omega) only [ll_X10_countAll, ll_X11_richest_30, ff_l]
set_option maxHeartbeats 1000000 in
theorem fr_X12_closest_23 {fu : Nat}   {cq cj : Nat}   : ∀ (n : Nat) (x1 : Int32) (x2 : Int32) (x3 : Int32) (x4 : Int32) (x5 : Int32) (s : fl_I) (l : fl_L), (f_X12_closest_23 fu n x1 x2 x3 x4 x5 s l).2.1 cq cj = s cq cj := by
  intro n; induction n with
  | zero => intro x1 x2 x3 x4 x5 s l; rfl
  | succ n ih =>
    intro x1 x2 x3 x4 x5 s l; unfold f_X12_closest_23
    repeat' (with_reducible apply itT1)
    all_goals first | with_reducible rfl | with_reducible exact ih _ _ _ _ _ _ _ | simp (disch := first | assumption | omega | (intros; with_reducible exact ih _ _ _ _ _ _ _)) only [ih, wi_f, wi_g, wc_f, ff_s, ff_l, su_f]
set_option maxHeartbeats 1000000 in
theorem ll_X12_closest_23 {fu : Nat}     : ∀ (n : Nat) (x1 : Int32) (x2 : Int32) (x3 : Int32) (x4 : Int32) (x5 : Int32) (s : fl_I) (l : fl_L), (f_X12_closest_23 fu n x1 x2 x3 x4 x5 s l).2.2 = l := by
  intro n; induction n with
  | zero => intro x1 x2 x3 x4 x5 s l; rfl
  | succ n ih =>
    intro x1 x2 x3 x4 x5 s l; unfold f_X12_closest_23
    repeat' (with_reducible apply itT3)
    all_goals first | with_reducible rfl | with_reducible exact ih _ _ _ _ _ _ _ | simp (disch := first | assumption | omega | (intros; with_reducible exact ih _ _ _ _ _ _ _)) only [ih, ff_l]
set_option maxHeartbeats 1000000 in
theorem fr_X12_closest {fu : Nat} {v0 : Int32} {v1 : Int32} {s : fl_I} {l : fl_L}  {cq cj : Nat} (h0 : ¬ (cq = 60 ∧ cj = 52)) (h1 : ¬ (cq = 60 ∧ cj = 53)) (h2 : cq ≠ 95)  : (f_X12_closest fu v0 v1 s l).2.1 cq cj = s cq cj := by
  unfold f_X12_closest
  repeat' (with_reducible apply itT1)
  all_goals first | with_reducible rfl | simp (disch := first | assumption | omega) only [fr_X12_closest_23, fr_X12_copies, wi_f, wi_g, wc_f, ff_s, ff_l, su_f]
set_option maxHeartbeats 1000000 in
theorem ll_X12_closest {fu : Nat} {v0 : Int32} {v1 : Int32} {s : fl_I} {l : fl_L}    : (f_X12_closest fu v0 v1 s l).2.2 = l := by
  unfold f_X12_closest
  repeat' (with_reducible apply itT3)
  all_goals first | with_reducible rfl | simp (disch := first | assumption | omega) only [ll_X12_closest_23, ll_X12_copies, ff_l]
