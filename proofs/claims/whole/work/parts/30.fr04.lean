set_option maxHeartbeats 1000000 in
theorem fr_X6_kindFrom {fu : Nat} {v1 : Int32} {s : fl_I} {l : fl_L}  {cq cj : Nat} (h0 : ¬ (cq = 4 ∧ cj = 4))  : (f_X6_kindFrom fu v1 s l).2.1 cq cj = s cq cj := by
  unfold f_X6_kindFrom
  repeat' (with_reducible apply itT1)
  all_goals first | with_reducible rfl | simp (disch := first | assumption | omega) only [fr_X6_intKind, fr_X6_nameKind, wi_f, wi_g, wc_f, ff_s, ff_l, su_f]
set_option maxHeartbeats 1000000 in
theorem ll_X6_kindFrom {fu : Nat} {v1 : Int32} {s : fl_I} {l : fl_L}  {cq cj : Nat} (h0 : cq ≠ 7)  : (f_X6_kindFrom fu v1 s l).2.2 cq cj = l cq cj := by
  unfold f_X6_kindFrom
  repeat' (with_reducible apply itT2)
  all_goals first | with_reducible rfl | simp (disch := first | assumption | omega) only [ll_X6_intKind, ll_X6_nameKind, wl_f, wl_g, ff_l]
set_option maxHeartbeats 1000000 in
theorem fr_X12_made_19 {fu : Nat}   {cq cj : Nat}   : ∀ (n : Nat) (x2 : Int32) (x3 : Int32) (s : fl_I) (l : fl_L), (f_X12_made_19 fu n x2 x3 s l).2.1 cq cj = s cq cj := by
  intro n; induction n with
  | zero => intro x2 x3 s l; rfl
  | succ n ih =>
    intro x2 x3 s l; unfold f_X12_made_19
    repeat' (with_reducible apply itT1)
    all_goals first | with_reducible rfl | with_reducible exact ih _ _ _ _ | simp (disch := first | assumption | omega | (intros; with_reducible exact ih _ _ _ _)) only [ih, wi_f, wi_g, wc_f, ff_s, ff_l, su_f]
set_option maxHeartbeats 1000000 in
theorem ll_X12_made_19 {fu : Nat}     : ∀ (n : Nat) (x2 : Int32) (x3 : Int32) (s : fl_I) (l : fl_L), (f_X12_made_19 fu n x2 x3 s l).2.2 = l := by
  intro n; induction n with
  | zero => intro x2 x3 s l; rfl
  | succ n ih =>
    intro x2 x3 s l; unfold f_X12_made_19
    repeat' (with_reducible apply itT3)
    all_goals first | with_reducible rfl | with_reducible exact ih _ _ _ _ | simp (disch := first | assumption | omega | (intros; with_reducible exact ih _ _ _ _)) only [ih, ff_l]
set_option maxHeartbeats 1000000 in
theorem fr_X12_made {fu : Nat} {v0 : Int32} {s : fl_I} {l : fl_L}  {cq cj : Nat} (h0 : cq ≠ 102)  : (f_X12_made fu v0 s l).2.1 cq cj = s cq cj := by
  unfold f_X12_made
  repeat' (with_reducible apply itT1)
  all_goals first | with_reducible rfl | simp (disch := first | assumption | omega) only [fr_X12_fillsHeap, fr_X12_made_19, wi_f, wi_g, wc_f, ff_s, ff_l, su_f]
set_option maxHeartbeats 1000000 in
theorem ll_X12_made {fu : Nat} {v0 : Int32} {s : fl_I} {l : fl_L}  {cq cj : Nat}   : (f_X12_made fu v0 s l).2.2 cq cj = l cq cj := by
  unfold f_X12_made
  repeat' (with_reducible apply itT2)
  all_goals first | with_reducible rfl | simp (disch := first | assumption | omega) only [ll_X12_fillsHeap, ll_X12_made_19, wl_f, wl_g, ff_l]
set_option maxHeartbeats 1000000 in
theorem fr_X12_named_14 {fu : Nat}  {q : Nat} {z : Nat} {cq cj : Nat} (h0 : ¬ (cq = 60 ∧ cj = 15)) (h1 : ¬ (cq = 60 ∧ cj = 16))  : ∀ (n : Nat) (x2 : Int32) (x3 : Int32) (x4 : Int32) (x5 : Int32) (s : fl_I) (l : fl_L), (f_X12_named_14 fu n x2 x3 x4 x5 q z s l).2.1 cq cj = s cq cj := by
  intro n; induction n with
  | zero => intro x2 x3 x4 x5 s l; rfl
  | succ n ih =>
    intro x2 x3 x4 x5 s l; unfold f_X12_named_14
    repeat' (with_reducible apply itT1)
    all_goals first | with_reducible rfl | with_reducible exact ih _ _ _ _ _ _ | simp (disch := first | assumption | omega | (intros; with_reducible exact ih _ _ _ _ _ _)) only [ih, fr_X12_wrong, wi_f, wi_g, wc_f, ff_s, ff_l, su_f]
set_option maxHeartbeats 1000000 in
theorem ll_X12_named_14 {fu : Nat}  {q : Nat} {z : Nat}   : ∀ (n : Nat) (x2 : Int32) (x3 : Int32) (x4 : Int32) (x5 : Int32) (s : fl_I) (l : fl_L), (f_X12_named_14 fu n x2 x3 x4 x5 q z s l).2.2 = l := by
  intro n; induction n with
  | zero => intro x2 x3 x4 x5 s l; rfl
  | succ n ih =>
    intro x2 x3 x4 x5 s l; unfold f_X12_named_14
    repeat' (with_reducible apply itT3)
    all_goals first | with_reducible rfl | with_reducible exact ih _ _ _ _ _ _ | simp (disch := first | assumption | omega | (intros; with_reducible exact ih _ _ _ _ _ _)) only [ih, ll_X12_wrong, ff_l]
set_option maxHeartbeats 1000000 in
theorem fr_X12_named {fu : Nat} {v1 : Int32} {v2 : Int32} {q : Nat} {z : Nat} {s : fl_I} {l : fl_L}  {cq cj : Nat} (h0 : ¬ (cq = 60 ∧ cj = 11)) (h1 : ¬ (cq = 60 ∧ cj = 13)) (h2 : ¬ (cq = 60 ∧ cj = 14)) (h3 : ¬ (cq = 60 ∧ cj = 15)) (h4 : ¬ (cq = 60 ∧ cj = 16))  : (f_X12_named fu v1 v2 q z s l).2.1 cq cj = s cq cj := by
  unfold f_X12_named
  repeat' (with_reducible apply itT1)
  all_goals first | with_reducible rfl | simp (disch := first | assumption | omega) only [fr_X12_must, fr_X12_named_14, wi_f, wi_g, wc_f, ff_s, ff_l, su_f]
set_option maxHeartbeats 1000000 in
theorem ll_X12_named {fu : Nat} {v1 : Int32} {v2 : Int32} {q : Nat} {z : Nat} {s : fl_I} {l : fl_L}    : (f_X12_named fu v1 v2 q z s l).2.2 = l := by
  unfold f_X12_named
  repeat' (with_reducible apply itT3)
  all_goals first | with_reducible rfl | simp (disch := first | assumption | omega) only [ll_X12_must, ll_X12_named_14, ff_l]
set_option maxHeartbeats 1000000 in
theorem fr_X12_longest_20 {fu : Nat}   {cq cj : Nat}   : ∀ (n : Nat) (x2 : Int32) (x3 : Int32) (s : fl_I) (l : fl_L), (f_X12_longest_20 fu n x2 x3 s l).2.1 cq cj = s cq cj := by
  intro n; induction n with
  | zero => intro x2 x3 s l; rfl
  | succ n ih =>
    intro x2 x3 s l; unfold f_X12_longest_20
    repeat' (with_reducible apply itT1)
    all_goals first | with_reducible rfl | with_reducible exact ih _ _ _ _ | simp (disch := first | assumption | omega | (intros; with_reducible exact ih _ _ _ _)) only [ih, wi_f, wi_g, wc_f, ff_s, ff_l, su_f]
set_option maxHeartbeats 1000000 in
theorem ll_X12_longest_20 {fu : Nat}     : ∀ (n : Nat) (x2 : Int32) (x3 : Int32) (s : fl_I) (l : fl_L), (f_X12_longest_20 fu n x2 x3 s l).2.2 = l := by
  intro n; induction n with
  | zero => intro x2 x3 s l; rfl
  | succ n ih =>
    intro x2 x3 s l; unfold f_X12_longest_20
    repeat' (with_reducible apply itT3)
    all_goals first | with_reducible rfl | with_reducible exact ih _ _ _ _ | simp (disch := first | assumption | omega | (intros; with_reducible exact ih _ _ _ _)) only [ih, ff_l]
set_option maxHeartbeats 1000000 in
theorem fr_X12_longest {fu : Nat} {v0 : Int32} {s : fl_I} {l : fl_L}  {cq cj : Nat} (h0 : cq ≠ 102)  : (f_X12_longest fu v0 s l).2.1 cq cj = s cq cj := by
  unfold f_X12_longest
  repeat' (with_reducible apply itT1)
  all_goals first | with_reducible rfl | simp (disch := first | assumption | omega) only [fr_X12_fillsHeap, fr_X12_longest_20, wi_f, wi_g, wc_f, ff_s, ff_l, su_f]
set_option maxHeartbeats 1000000 in
theorem ll_X12_longest {fu : Nat} {v0 : Int32} {s : fl_I} {l : fl_L}  {cq cj : Nat}   : (f_X12_longest fu v0 s l).2.2 cq cj = l cq cj := by
  unfold f_X12_longest
  repeat' (with_reducible apply itT2)
  all_goals first | with_reducible rfl | simp (disch := first | assumption | omega) only [ll_X12_fillsHeap, ll_X12_longest_20, wl_f, wl_g, ff_l]
set_option maxHeartbeats 1000000 in
theorem fr_X12_together_20 {fu : Nat}   {cq cj : Nat}   : ∀ (n : Nat) (x1 : Int32) (x2 : Int32) (x3 : Int32) (s : fl_I) (l : fl_L), (f_X12_together_20 fu n x1 x2 x3 s l).2.1 cq cj = s cq cj := by
  intro n; induction n with
  | zero => intro x1 x2 x3 s l; rfl
  | succ n ih =>
    intro x1 x2 x3 s l; unfold f_X12_together_20
    repeat' (with_reducible apply itT1)
    all_goals first | with_reducible rfl | with_reducible exact ih _ _ _ _ _ | simp (disch := first | assumption | omega | (intros; with_reducible exact ih _ _ _ _ _)) only [ih, wi_f, wi_g, wc_f, ff_s, ff_l, su_f]
set_option maxHeartbeats 1000000 in
theorem ll_X12_together_20 {fu : Nat}     : ∀ (n : Nat) (x1 : Int32) (x2 : Int32) (x3 : Int32) (s : fl_I) (l : fl_L), (f_X12_together_20 fu n x1 x2 x3 s l).2.2 = l := by
  intro n; induction n with
  | zero => intro x1 x2 x3 s l; rfl
  | succ n ih =>
    intro x1 x2 x3 s l; unfold f_X12_together_20
    repeat' (with_reducible apply itT3)
    all_goals first | with_reducible rfl | with_reducible exact ih _ _ _ _ _ | simp (disch := first | assumption | omega | (intros; with_reducible exact ih _ _ _ _ _)) only [ih, ff_l]
set_option maxHeartbeats 1000000 in
theorem fr_X12_together {fu : Nat} {v0 : Int32} {s : fl_I} {l : fl_L}  {cq cj : Nat} (h0 : cq ≠ 102)  : (f_X12_together fu v0 s l).2.1 cq cj = s cq cj := by
  unfold f_X12_together
  repeat' (with_reducible apply itT1)
  all_goals first | with_reducible rfl | simp (disch := first | assumption | omega) only [fr_X12_fillsHeap, fr_X12_together_20, wi_f, wi_g, wc_f, ff_s, ff_l, su_f]
set_option maxHeartbeats 1000000 in
theorem ll_X12_together {fu : Nat} {v0 : Int32} {s : fl_I} {l : fl_L}  {cq cj : Nat}   : (f_X12_together fu v0 s l).2.2 cq cj = l cq cj := by
  unfold f_X12_together
  repeat' (with_reducible apply itT2)
  all_goals first | with_reducible rfl | simp (disch := first | assumption | omega) only [ll_X12_fillsHeap, ll_X12_together_20, wl_f, wl_g, ff_l]
set_option maxHeartbeats 1000000 in
theorem fr_X1_pays {fu : Nat} {v2 : Int32} {v3 : Int32} {t : Nat} {a : Nat} {s : fl_I} {l : fl_L}  {cq cj : Nat} (h0 : cq ≠ 48) (h1 : cq ≠ 49)  : (f_X1_pays fu v2 v3 t a s l).2.1 cq cj = s cq cj := by
  unfold f_X1_pays
  repeat' (with_reducible apply itT1)
  all_goals first | with_reducible rfl | simp (disch := first | assumption | omega) only [fr_X1_value, wi_f, wi_g, wc_f, ff_s, ff_l, su_f]
set_option maxHeartbeats 1000000 in
theorem ll_X1_pays {fu : Nat} {v2 : Int32} {v3 : Int32} {t : Nat} {a : Nat} {s : fl_I} {l : fl_L}  {cq cj : Nat}   : (f_X1_pays fu v2 v3 t a s l).2.2 cq cj = l cq cj := by
  unfold f_X1_pays
  repeat' (with_reducible apply itT2)
  all_goals first | with_reducible rfl | simp (disch := first | assumption | omega) only [ll_X1_value, wl_f, wl_g, ff_l]
set_option maxHeartbeats 1000000 in
theorem fr_X12_round_17 {fu : Nat} {s : fl_I} {l : fl_L}  {cq cj : Nat}   : (f_X12_round_17 fu s l).2.1 cq cj = s cq cj := by
  unfold f_X12_round_17
  repeat' (with_reducible apply itT1)
  all_goals first | with_reducible rfl | simp (disch := first | assumption | omega) only [wi_f, wi_g, wc_f, ff_s, ff_l, su_f]
set_option maxHeartbeats 1000000 in
theorem ll_X12_round_17 {fu : Nat} {s : fl_I} {l : fl_L}    : (f_X12_round_17 fu s l).2.2 = l := by
  unfold f_X12_round_17
  repeat' (with_reducible apply itT3)
  all_goals first | with_reducible rfl | simp (disch := first | assumption | omega) only [ff_l]
set_option maxHeartbeats 1000000 in
theorem fr_X12_round_64 {fu : Nat} {x2 : Int32} {y0 : Int32} {s : fl_I} {l : fl_L}  {cq cj : Nat}   : (f_X12_round_64 fu x2 y0 s l).2.1 cq cj = s cq cj := by
  unfold f_X12_round_64
  repeat' (with_reducible apply itT1)
  all_goals first | with_reducible rfl | simp (disch := first | assumption | omega) only [wi_f, wi_g, wc_f, ff_s, ff_l, su_f]
set_option maxHeartbeats 1000000 in
theorem ll_X12_round_64 {fu : Nat} {x2 : Int32} {y0 : Int32} {s : fl_I} {l : fl_L}    : (f_X12_round_64 fu x2 y0 s l).2.2 = l := by
  unfold f_X12_round_64
  repeat' (with_reducible apply itT3)
  all_goals first | with_reducible rfl | simp (disch := first | assumption | omega) only [ff_l]
set_option maxHeartbeats 1000000 in
theorem fr_X12_round_51 {fu : Nat} {x2 : Int32} {x3 : Int32} {s : fl_I} {l : fl_L}  {cq cj : Nat} (h0 : ¬ (cq = 60 ∧ cj = 63))  : (f_X12_round_51 fu x2 x3 s l).2.1 cq cj = s cq cj := by
  unfold f_X12_round_51
  repeat' (with_reducible apply itT1)
  all_goals first | with_reducible rfl | simp (disch := first | assumption | omega) only [fr_X12_roundFrom, fr_X12_round_64, wi_f, wi_g, wc_f, ff_s, ff_l, su_f]
set_option maxHeartbeats 1000000 in
theorem ll_X12_round_51 {fu : Nat} {x2 : Int32} {x3 : Int32} {s : fl_I} {l : fl_L}    : (f_X12_round_51 fu x2 x3 s l).2.2 = l := by
  unfold f_X12_round_51
  repeat' (with_reducible apply itT3)
  all_goals first | with_reducible rfl | simp (disch := first | assumption | omega) only [ll_X12_roundFrom, ll_X12_round_64, ff_l]
set_option maxHeartbeats 1000000 in
theorem fr_X12_round_35 {fu : Nat} {x2 : Int32} {x3 : Int32} {s : fl_I} {l : fl_L}  {cq cj : Nat} (h0 : ¬ (cq = 60 ∧ cj = 63)) (h1 : cq ≠ 101)  : (f_X12_round_35 fu x2 x3 s l).2.1 cq cj = s cq cj := by
  unfold f_X12_round_35
  repeat' (with_reducible apply itT1)
  all_goals first | with_reducible rfl | simp (disch := first | assumption | omega) only [fr_X12_fillsRest, fr_X12_round_51, wi_f, wi_g, wc_f, ff_s, ff_l, su_f]
set_option maxHeartbeats 1000000 in
theorem ll_X12_round_35 {fu : Nat} {x2 : Int32} {x3 : Int32} {s : fl_I} {l : fl_L}  {cq cj : Nat}   : (f_X12_round_35 fu x2 x3 s l).2.2 cq cj = l cq cj := by
  unfold f_X12_round_35
  repeat' (with_reducible apply itT2)
  all_goals first | with_reducible rfl | simp (disch := first | assumption | omega) only [ll_X12_fillsRest, ll_X12_round_51, wl_f, wl_g, ff_l]
set_option maxHeartbeats 1000000 in
theorem fr_X12_round_23 {fu : Nat} {x1 : Int32} {x2 : Int32} {s : fl_I} {l : fl_L}  {cq cj : Nat} (h0 : ¬ (cq = 60 ∧ cj = 60)) (h1 : ¬ (cq = 60 ∧ cj = 63)) (h2 : cq ≠ 100) (h3 : cq ≠ 101)  : (f_X12_round_23 fu x1 x2 s l).2.1 cq cj = s cq cj := by
  unfold f_X12_round_23
  repeat' (with_reducible apply itT1)
  all_goals first | with_reducible rfl | simp (disch := first | assumption | omega) only [fr_X12_fillsCells, fr_X12_round_35, wi_f, wi_g, wc_f, ff_s, ff_l, su_f]
set_option maxHeartbeats 1000000 in
theorem ll_X12_round_23 {fu : Nat} {x1 : Int32} {x2 : Int32} {s : fl_I} {l : fl_L}  {cq cj : Nat}   : (f_X12_round_23 fu x1 x2 s l).2.2 cq cj = l cq cj := by
  unfold f_X12_round_23
  repeat' (with_reducible apply itT2)
  all_goals first | with_reducible rfl | simp (disch := first | assumption | omega) only [ll_X12_fillsCells, ll_X12_round_35, wl_f, wl_g, ff_l]
set_option maxHeartbeats 1000000 in
theorem fr_X12_round {fu : Nat} {v0 : Int32} {v1 : Int32} {s : fl_I} {l : fl_L}  {cq cj : Nat} (h0 : ¬ (cq = 60 ∧ cj = 52)) (h1 : ¬ (cq = 60 ∧ cj = 53)) (h2 : ¬ (cq = 60 ∧ cj = 60)) (h3 : ¬ (cq = 60 ∧ cj = 63)) (h4 : cq ≠ 95) (h5 : cq ≠ 100) (h6 : cq ≠ 101)  : (f_X12_round fu v0 v1 s l).2.1 cq cj = s cq cj := by
  unfold f_X12_round
  repeat' (with_reducible apply itT1)
  all_goals first | with_reducible rfl | simp (disch := first | assumption | omega) only [fr_X12_copies, fr_X12_round_17, fr_X12_round_23, wi_f, wi_g, wc_f, ff_s, ff_l, su_f]
set_option maxHeartbeats 1000000 in
theorem ll_X12_round {fu : Nat} {v0 : Int32} {v1 : Int32} {s : fl_I} {l : fl_L}  {cq cj : Nat}   : (f_X12_round fu v0 v1 s l).2.2 cq cj = l cq cj := by
  unfold f_X12_round
  repeat' (with_reducible apply itT2)
  all_goals first | with_reducible rfl | simp (disch := first | assumption | omega) only [ll_X12_copies, ll_X12_round_17, ll_X12_round_23, wl_f, wl_g, ff_l]
set_option maxHeartbeats 1000000 in
theorem fr_X12_send_21 {fu : Nat} {s : fl_I} {l : fl_L}  {cq cj : Nat}   : (f_X12_send_21 fu s l).2.1 cq cj = s cq cj := by
  unfold f_X12_send_21
  repeat' (with_reducible apply itT1)
  all_goals first | with_reducible rfl | simp (disch := first | assumption | omega) only [wi_f, wi_g, wc_f, ff_s, ff_l, su_f]
set_option maxHeartbeats 1000000 in
theorem ll_X12_send_21 {fu : Nat} {s : fl_I} {l : fl_L}    : (f_X12_send_21 fu s l).2.2 = l := by
  unfold f_X12_send_21
  repeat' (with_reducible apply itT3)
  all_goals first | with_reducible rfl | simp (disch := first | assumption | omega) only [ff_l]
set_option maxHeartbeats 1000000 in
theorem fr_X12_send_83 {fu : Nat} {s : fl_I} {l : fl_L}  {cq cj : Nat}   : (f_X12_send_83 fu s l).2.1 cq cj = s cq cj := by
  unfold f_X12_send_83
  repeat' (with_reducible apply itT1)
  all_goals first | with_reducible rfl | simp (disch := first | assumption | omega) only [wi_f, wi_g, wc_f, ff_s, ff_l, su_f]
set_option maxHeartbeats 1000000 in
theorem ll_X12_send_83 {fu : Nat} {s : fl_I} {l : fl_L}    : (f_X12_send_83 fu s l).2.2 = l := by
  unfold f_X12_send_83
  repeat' (with_reducible apply itT3)
  all_goals first | with_reducible rfl | simp (disch := first | assumption | omega) only [ff_l]
set_option maxHeartbeats 1000000 in
theorem fr_X12_send_67 {fu : Nat} {x1 : Int32} {x4 : Int32} {s : fl_I} {l : fl_L}  {cq cj : Nat} (h0 : ¬ (cq = 60 ∧ cj = 58)) (h1 : cq ≠ 94) (h2 : cq ≠ 95) (h3 : cq ≠ 99)  : (f_X12_send_67 fu x1 x4 s l).2.1 cq cj = s cq cj := by
  unfold f_X12_send_67
  repeat' (with_reducible apply itT1)
  all_goals first | with_reducible rfl | simp (disch := first | assumption | omega) only [fr_X12_records, fr_X12_send_83, wi_f, wi_g, wc_f, ff_s, ff_l, su_f]
set_option maxHeartbeats 1000000 in
theorem ll_X12_send_67 {fu : Nat} {x1 : Int32} {x4 : Int32} {s : fl_I} {l : fl_L}    : (f_X12_send_67 fu x1 x4 s l).2.2 = l := by
  unfold f_X12_send_67
  repeat' (with_reducible apply itT3)
  all_goals first | with_reducible rfl | simp (disch := first | assumption | omega) only [ll_X12_records, ll_X12_send_83, ff_l]
set_option maxHeartbeats 1000000 in
theorem fr_X12_send_23 {fu : Nat} {x1 : Int32} {x2 : Int32} {x3 : Int32} {s : fl_I} {l : fl_L}  {cq cj : Nat} (h0 : ¬ (cq = 60 ∧ cj = 52)) (h1 : ¬ (cq = 60 ∧ cj = 53)) (h2 : ¬ (cq = 60 ∧ cj = 58)) (h3 : cq ≠ 94) (h4 : cq ≠ 95) (h5 : cq ≠ 99)  : (f_X12_send_23 fu x1 x2 x3 s l).2.1 cq cj = s cq cj := by
  unfold f_X12_send_23
  repeat' (with_reducible apply itT1)
  all_goals first | with_reducible rfl | simp (disch := first | assumption | omega) only [fr_X12_copies, fr_X12_send_67, wi_f, wi_g, wc_f, ff_s, ff_l, su_f]
set_option maxHeartbeats 1000000 in
theorem ll_X12_send_23 {fu : Nat} {x1 : Int32} {x2 : Int32} {x3 : Int32} {s : fl_I} {l : fl_L}    : (f_X12_send_23 fu x1 x2 x3 s l).2.2 = l := by
  unfold f_X12_send_23
  repeat' (with_reducible apply itT3)
  all_goals first | with_reducible rfl | simp (disch := first | assumption | omega) only [ll_X12_copies, ll_X12_send_67, ff_l]
set_option maxHeartbeats 1000000 in
theorem fr_X12_send {fu : Nat} {v0 : Int32} {v1 : Int32} {v2 : Int32} {s : fl_I} {l : fl_L}  {cq cj : Nat} (h0 : ¬ (cq = 60 ∧ cj = 52)) (h1 : ¬ (cq = 60 ∧ cj = 53)) (h2 : ¬ (cq = 60 ∧ cj = 58)) (h3 : cq ≠ 94) (h4 : cq ≠ 95) (h5 : cq ≠ 99)  : (f_X12_send fu v0 v1 v2 s l).2.1 cq cj = s cq cj := by
  unfold f_X12_send
  repeat' (with_reducible apply itT1)
  all_goals first | with_reducible rfl | simp (disch := first | assumption | omega) only [fr_X12_send_21, fr_X12_send_23, wi_f, wi_g, wc_f, ff_s, ff_l, su_f]
set_option maxHeartbeats 1000000 in
theorem ll_X12_send {fu : Nat} {v0 : Int32} {v1 : Int32} {v2 : Int32} {s : fl_I} {l : fl_L}    : (f_X12_send fu v0 v1 v2 s l).2.2 = l := by
  unfold f_X12_send
  repeat' (with_reducible apply itT3)
  all_goals first | with_reducible rfl | simp (disch := first | assumption | omega) only [ll_X12_send_21, ll_X12_send_23, ff_l]
set_option maxHeartbeats 1000000 in
theorem fr_X0_makesAtOnce_47 {fu : Nat}  {t : Nat} {cq cj : Nat} (h0 : cq ≠ 56)  : ∀ (n : Nat) (x2 : Int32) (x3 : Int32) (x4 : Int32) (s : fl_I) (l : fl_L), (f_X0_makesAtOnce_47 fu n x2 x3 x4 t s l).2.1 cq cj = s cq cj := by
  intro n; induction n with
  | zero => intro x2 x3 x4 s l; rfl
  | succ n ih =>
    intro x2 x3 x4 s l; unfold f_X0_makesAtOnce_47
    repeat' (with_reducible apply itT1)
    all_goals first | with_reducible rfl | with_reducible exact ih _ _ _ _ _ | simp (disch := first | assumption | omega | (intros; with_reducible exact ih _ _ _ _ _)) only [ih, fr_X0_putBack, wi_f, wi_g, wc_f, ff_s, ff_l, su_f]
set_option maxHeartbeats 1000000 in
theorem ll_X0_makesAtOnce_47 {fu : Nat}  {t : Nat}   : ∀ (n : Nat) (x2 : Int32) (x3 : Int32) (x4 : Int32) (s : fl_I) (l : fl_L), (f_X0_makesAtOnce_47 fu n x2 x3 x4 t s l).2.2 = l := by
  intro n; induction n with
  | zero => intro x2 x3 x4 s l; rfl
  | succ n ih =>
    intro x2 x3 x4 s l; unfold f_X0_makesAtOnce_47
    repeat' (with_reducible apply itT3)
    all_goals first | with_reducible rfl | with_reducible exact ih _ _ _ _ _ | simp (disch := first | assumption | omega | (intros; with_reducible exact ih _ _ _ _ _)) only [ih, ll_X0_putBack, ff_l]
set_option maxHeartbeats 1000000 in
theorem fr_X0_makesAtOnce_5 {fu : Nat}  {t : Nat} {cq cj : Nat} (h0 : cq ≠ 56)  : ∀ (n : Nat) (x2 : Int32) (x3 : Int32) (x4 : Int32) (s : fl_I) (l : fl_L), (f_X0_makesAtOnce_5 fu n x2 x3 x4 t s l).2.1 cq cj = s cq cj := by
  intro n; induction n with
  | zero => intro x2 x3 x4 s l; rfl
  | succ n ih =>
    intro x2 x3 x4 s l; unfold f_X0_makesAtOnce_5
    repeat' (with_reducible apply itT1)
    all_goals first | with_reducible rfl | with_reducible exact ih _ _ _ _ _ | simp (disch := first | assumption | omega | (intros; with_reducible exact ih _ _ _ _ _)) only [ih, fr_X0_makesAtOnce_47, fr_X0_takeOut, wi_f, wi_g, wc_f, ff_s, ff_l, su_f]
set_option maxHeartbeats 1000000 in
theorem ll_X0_makesAtOnce_5 {fu : Nat}  {t : Nat}   : ∀ (n : Nat) (x2 : Int32) (x3 : Int32) (x4 : Int32) (s : fl_I) (l : fl_L), (f_X0_makesAtOnce_5 fu n x2 x3 x4 t s l).2.2 = l := by
  intro n; induction n with
  | zero => intro x2 x3 x4 s l; rfl
  | succ n ih =>
    intro x2 x3 x4 s l; unfold f_X0_makesAtOnce_5
    repeat' (with_reducible apply itT3)
    all_goals first | with_reducible rfl | with_reducible exact ih _ _ _ _ _ | simp (disch := first | assumption | omega | (intros; with_reducible exact ih _ _ _ _ _)) only [ih, ll_X0_makesAtOnce_47, ll_X0_takeOut, ff_l]
set_option maxHeartbeats 1000000 in
theorem fr_X0_makesAtOnce {fu : Nat} {v1 : Int32} {t : Nat} {s : fl_I} {l : fl_L}  {cq cj : Nat} (h0 : cq ≠ 56)  : (f_X0_makesAtOnce fu v1 t s l).2.1 cq cj = s cq cj := by
  unfold f_X0_makesAtOnce
  repeat' (with_reducible apply itT1)
  all_goals first | with_reducible rfl | simp (disch := first | assumption | omega) only [fr_X0_makesAtOnce_5, wi_f, wi_g, wc_f, ff_s, ff_l, su_f]
set_option maxHeartbeats 1000000 in
theorem ll_X0_makesAtOnce {fu : Nat} {v1 : Int32} {t : Nat} {s : fl_I} {l : fl_L}    : (f_X0_makesAtOnce fu v1 t s l).2.2 = l := by
  unfold f_X0_makesAtOnce
  repeat' (with_reducible apply itT3)
  all_goals first | with_reducible rfl | simp (disch := first | assumption | omega) only [ll_X0_makesAtOnce_5, ff_l]
set_option maxHeartbeats 1000000 in
theorem fr_X3_ifTold_47 {fu : Nat} {t : Nat} {s : fl_I} {l : fl_L}  {cq cj : Nat}   : (f_X3_ifTold_47 fu t s l).2.1 cq cj = s cq cj := by
  unfold f_X3_ifTold_47
  repeat' (with_reducible apply itT1)
  all_goals first | with_reducible rfl | simp (disch := first | assumption | omega) only [wi_f, wi_g, wc_f, ff_s, ff_l, su_f]
set_option maxHeartbeats 1000000 in
theorem ll_X3_ifTold_47 {fu : Nat} {t : Nat} {s : fl_I} {l : fl_L}    : (f_X3_ifTold_47 fu t s l).2.2 = l := by
  unfold f_X3_ifTold_47
  repeat' (with_reducible apply itT3)
  all_goals first | with_reducible rfl | simp (disch := first | assumption | omega) only [ff_l]
set_option maxHeartbeats 1000000 in
theorem fr_X3_ifTold_84 {fu : Nat} {t : Nat} {s : fl_I} {l : fl_L}  {cq cj : Nat}   : (f_X3_ifTold_84 fu t s l).2.1 cq cj = s cq cj := by
  unfold f_X3_ifTold_84
  repeat' (with_reducible apply itT1)
  all_goals first | with_reducible rfl | simp (disch := first | assumption | omega) only [wi_f, wi_g, wc_f, ff_s, ff_l, su_f]
set_option maxHeartbeats 1000000 in
theorem ll_X3_ifTold_84 {fu : Nat} {t : Nat} {s : fl_I} {l : fl_L}    : (f_X3_ifTold_84 fu t s l).2.2 = l := by
  unfold f_X3_ifTold_84
  repeat' (with_reducible apply itT3)
  all_goals first | with_reducible rfl | simp (disch := first | assumption | omega) only [ff_l]
set_option maxHeartbeats 1000000 in
theorem fr_X3_ifTold_101 {fu : Nat} {t : Nat} {s : fl_I} {l : fl_L}  {cq cj : Nat}   : (f_X3_ifTold_101 fu t s l).2.1 cq cj = s cq cj := by
  unfold f_X3_ifTold_101
  repeat' (with_reducible apply itT1)
  all_goals first | with_reducible rfl | simp (disch := first | assumption | omega) only [wi_f, wi_g, wc_f, ff_s, ff_l, su_f]
set_option maxHeartbeats 1000000 in
theorem ll_X3_ifTold_101 {fu : Nat} {t : Nat} {s : fl_I} {l : fl_L}    : (f_X3_ifTold_101 fu t s l).2.2 = l := by
  unfold f_X3_ifTold_101
  repeat' (with_reducible apply itT3)
  all_goals first | with_reducible rfl | simp (disch := first | assumption | omega) only [ff_l]
set_option maxHeartbeats 1000000 in
theorem fr_X3_ifTold_92 {fu : Nat} {x2 : Int32} {t : Nat} {s : fl_I} {l : fl_L}  {cq cj : Nat} (h0 : cq ≠ (t + 9))  : (f_X3_ifTold_92 fu x2 t s l).2.1 cq cj = s cq cj := by
  unfold f_X3_ifTold_92
  repeat' (with_reducible apply itT1)
  all_goals first | with_reducible rfl | simp (disch := first | assumption | omega) only [fr_X3_ifTold_101, fr_X5_setCode, wi_f, wi_g, wc_f, ff_s, ff_l, su_f]
set_option maxHeartbeats 1000000 in
theorem ll_X3_ifTold_92 {fu : Nat} {x2 : Int32} {t : Nat} {s : fl_I} {l : fl_L}    : (f_X3_ifTold_92 fu x2 t s l).2.2 = l := by
  unfold f_X3_ifTold_92
  repeat' (with_reducible apply itT3)
  all_goals first | with_reducible rfl | simp (disch := first | assumption | omega) only [ll_X3_ifTold_101, ll_X5_setCode, ff_l]
set_option maxHeartbeats 1000000 in
theorem fr_X3_ifTold_81 {fu : Nat} {x2 : Int32} {y0 : Int32} {t : Nat} {s : fl_I} {l : fl_L}  {cq cj : Nat} (h0 : cq ≠ (t + 9)) (h1 : ¬ (cq = t ∧ cj = 14))  : (f_X3_ifTold_81 fu x2 y0 t s l).2.1 cq cj = s cq cj := by
  unfold f_X3_ifTold_81
  repeat' (with_reducible apply itT1)
  all_goals first | with_reducible rfl | simp (disch := first | assumption | omega) only [fr_X3_ifTold_84, fr_X3_ifTold_92, fr_X5_addCode, wi_f, wi_g, wc_f, ff_s, ff_l, su_f]
set_option maxHeartbeats 1000000 in
theorem ll_X3_ifTold_81 {fu : Nat} {x2 : Int32} {y0 : Int32} {t : Nat} {s : fl_I} {l : fl_L}    : (f_X3_ifTold_81 fu x2 y0 t s l).2.2 = l := by
  unfold f_X3_ifTold_81
  repeat' (with_reducible apply itT3)
  all_goals first | with_reducible rfl | simp (disch := first | assumption | omega) only [ll_X3_ifTold_84, ll_X3_ifTold_92, ll_X5_addCode, ff_l]
set_option maxHeartbeats 1000000 in
theorem fr_X3_ifTold_71 {fu : Nat} {x2 : Int32} {y0 : Int32} {t : Nat} {s : fl_I} {l : fl_L}  {cq cj : Nat} (h0 : ¬ (cq = 3 ∧ cj = 0)) (h1 : ¬ (cq = 3 ∧ cj = 2)) (h2 : ¬ (cq = 3 ∧ cj = 3)) (h3 : cq ≠ (t + 9)) (h4 : ¬ (cq = t ∧ cj = 14))  : (f_X3_ifTold_71 fu x2 y0 t s l).2.1 cq cj = s cq cj := by
  unfold f_X3_ifTold_71
  repeat' (with_reducible apply itT1)
  all_goals first | with_reducible rfl | simp (disch := first | assumption | omega) only [fr_X3_ifTold_81, fr_X3_ifTold_84, fr_X3_take, wi_f, wi_g, wc_f, ff_s, ff_l, su_f]
set_option maxHeartbeats 1000000 in
theorem ll_X3_ifTold_71 {fu : Nat} {x2 : Int32} {y0 : Int32} {t : Nat} {s : fl_I} {l : fl_L}    : (f_X3_ifTold_71 fu x2 y0 t s l).2.2 = l := by
  unfold f_X3_ifTold_71
  repeat' (with_reducible apply itT3)
  all_goals first | with_reducible rfl | simp (disch := first | assumption | omega) only [ll_X3_ifTold_81, ll_X3_ifTold_84, ll_X3_take, ff_l]
set_option maxHeartbeats 1000000 in
theorem fr_X3_ifTold_65 {fu : Nat} {x2 : Int32} {t : Nat} {s : fl_I} {l : fl_L}  {cq cj : Nat} (h0 : ¬ (cq = 3 ∧ cj = 0)) (h1 : ¬ (cq = 3 ∧ cj = 2)) (h2 : ¬ (cq = 3 ∧ cj = 3)) (h3 : cq ≠ (t + 9)) (h4 : ¬ (cq = t ∧ cj = 14))  : (f_X3_ifTold_65 fu x2 t s l).2.1 cq cj = s cq cj := by
  unfold f_X3_ifTold_65
  repeat' (with_reducible apply itT1)
  all_goals first | with_reducible rfl | simp (disch := first | assumption | omega) only [fr_X3_ifTold_71, fr_sumD, wi_f, wi_g, wc_f, ff_s, ff_l, su_f]
set_option maxHeartbeats 1000000 in
theorem ll_X3_ifTold_65 {fu : Nat} {x2 : Int32} {t : Nat} {s : fl_I} {l : fl_L}  {cq cj : Nat}   : (f_X3_ifTold_65 fu x2 t s l).2.2 cq cj = l cq cj := by
  unfold f_X3_ifTold_65
  repeat' (with_reducible apply itT2)
  all_goals first | with_reducible rfl | simp (disch := first | assumption | omega) only [ll_X3_ifTold_71, ll_sumD, wl_f, wl_g, ff_l]
set_option maxHeartbeats 1000000 in
theorem fr_X3_ifTold_55 {fu : Nat} {t : Nat} {s : fl_I} {l : fl_L}  {cq cj : Nat} (h0 : ¬ (cq = 3 ∧ cj = 0)) (h1 : ¬ (cq = 3 ∧ cj = 2)) (h2 : ¬ (cq = 3 ∧ cj = 3)) (h3 : cq ≠ (t + 9)) (h4 : ¬ (cq = t ∧ cj = 14))  : (f_X3_ifTold_55 fu t s l).2.1 cq cj = s cq cj := by
  unfold f_X3_ifTold_55
  repeat' (with_reducible apply itT1)
  all_goals first | with_reducible rfl | simp (disch := first | assumption | omega) only [fr_X3_ifTold_65, fr_X5_addCode, wi_f, wi_g, wc_f, ff_s, ff_l, su_f]
set_option maxHeartbeats 1000000 in
theorem ll_X3_ifTold_55 {fu : Nat} {t : Nat} {s : fl_I} {l : fl_L}  {cq cj : Nat}   : (f_X3_ifTold_55 fu t s l).2.2 cq cj = l cq cj := by
  unfold f_X3_ifTold_55
  repeat' (with_reducible apply itT2)
  all_goals first | with_reducible rfl | simp (disch := first | assumption | omega) only [ll_X3_ifTold_65, ll_X5_addCode, wl_f, wl_g, ff_l]
set_option maxHeartbeats 1000000 in
theorem fr_X3_ifTold_44 {fu : Nat} {y0 : Int32} {t : Nat} {s : fl_I} {l : fl_L}  {cq cj : Nat} (h0 : ¬ (cq = 3 ∧ cj = 0)) (h1 : ¬ (cq = 3 ∧ cj = 2)) (h2 : ¬ (cq = 3 ∧ cj = 3)) (h3 : cq ≠ (t + 9)) (h4 : ¬ (cq = t ∧ cj = 14))  : (f_X3_ifTold_44 fu y0 t s l).2.1 cq cj = s cq cj := by
  unfold f_X3_ifTold_44
  repeat' (with_reducible apply itT1)
  all_goals first | with_reducible rfl | simp (disch := first | assumption | omega) only [fr_X3_ifTold_47, fr_X3_ifTold_55, fr_X5_addCode, wi_f, wi_g, wc_f, ff_s, ff_l, su_f]
set_option maxHeartbeats 1000000 in
theorem ll_X3_ifTold_44 {fu : Nat} {y0 : Int32} {t : Nat} {s : fl_I} {l : fl_L}  {cq cj : Nat}   : (f_X3_ifTold_44 fu y0 t s l).2.2 cq cj = l cq cj := by
  unfold f_X3_ifTold_44
  repeat' (with_reducible apply itT2)
  all_goals first | with_reducible rfl | simp (disch := first | assumption | omega) only [ll_X3_ifTold_47, ll_X3_ifTold_55, ll_X5_addCode, wl_f, wl_g, ff_l]
set_option maxHeartbeats 1000000 in
theorem fr_X3_ifTold_34 {fu : Nat} {y0 : Int32} {t : Nat} {s : fl_I} {l : fl_L}  {cq cj : Nat} (h0 : ¬ (cq = 3 ∧ cj = 0)) (h1 : ¬ (cq = 3 ∧ cj = 2)) (h2 : ¬ (cq = 3 ∧ cj = 3)) (h3 : cq ≠ (t + 9)) (h4 : ¬ (cq = t ∧ cj = 14))  : (f_X3_ifTold_34 fu y0 t s l).2.1 cq cj = s cq cj := by
  unfold f_X3_ifTold_34
  repeat' (with_reducible apply itT1)
  all_goals first | with_reducible rfl | simp (disch := first | assumption | omega) only [fr_X3_ifTold_44, fr_X3_ifTold_47, fr_X3_take, wi_f, wi_g, wc_f, ff_s, ff_l, su_f]
set_option maxHeartbeats 1000000 in
theorem ll_X3_ifTold_34 {fu : Nat} {y0 : Int32} {t : Nat} {s : fl_I} {l : fl_L}  {cq cj : Nat}   : (f_X3_ifTold_34 fu y0 t s l).2.2 cq cj = l cq cj := by
  unfold f_X3_ifTold_34
  repeat' (with_reducible apply itT2)
  all_goals first | with_reducible rfl | simp (disch := first | assumption | omega) only [ll_X3_ifTold_44, ll_X3_ifTold_47, ll_X3_take, wl_f, wl_g, ff_l]
set_option maxHeartbeats 1000000 in
theorem fr_X3_ifTold_25 {fu : Nat} {y0 : Int32} {t : Nat} {s : fl_I} {l : fl_L}  {cq cj : Nat} (h0 : ¬ (cq = 3 ∧ cj = 0)) (h1 : ¬ (cq = 3 ∧ cj = 2)) (h2 : ¬ (cq = 3 ∧ cj = 3)) (h3 : cq ≠ (t + 9)) (h4 : ¬ (cq = t ∧ cj = 14))  : (f_X3_ifTold_25 fu y0 t s l).2.1 cq cj = s cq cj := by
  unfold f_X3_ifTold_25
  repeat' (with_reducible apply itT1)
  all_goals first | with_reducible rfl | simp (disch := first | assumption | omega) only [fr_X3_ifTold_34, fr_X3_ifTold_47, fr_sumD, wi_f, wi_g, wc_f, ff_s, ff_l, su_f]
set_option maxHeartbeats 1000000 in
theorem ll_X3_ifTold_25 {fu : Nat} {y0 : Int32} {t : Nat} {s : fl_I} {l : fl_L}  {cq cj : Nat}   : (f_X3_ifTold_25 fu y0 t s l).2.2 cq cj = l cq cj := by
  unfold f_X3_ifTold_25
  repeat' (with_reducible apply itT2)
  all_goals first | with_reducible rfl | simp (disch := first | assumption | omega) only [ll_X3_ifTold_34, ll_X3_ifTold_47, ll_sumD, wl_f, wl_g, ff_l]
set_option maxHeartbeats 1000000 in
theorem fr_X3_ifTold_16 {fu : Nat} {y0 : Int32} {t : Nat} {s : fl_I} {l : fl_L}  {cq cj : Nat} (h0 : ¬ (cq = 3 ∧ cj = 0)) (h1 : ¬ (cq = 3 ∧ cj = 2)) (h2 : ¬ (cq = 3 ∧ cj = 3)) (h3 : cq ≠ (t + 9)) (h4 : ¬ (cq = t ∧ cj = 14))  : (f_X3_ifTold_16 fu y0 t s l).2.1 cq cj = s cq cj := by
  unfold f_X3_ifTold_16
  repeat' (with_reducible apply itT1)
  all_goals first | with_reducible rfl | simp (disch := first | assumption | omega) only [fr_X3_ifTold_25, fr_X3_ifTold_47, fr_X3_take, wi_f, wi_g, wc_f, ff_s, ff_l, su_f]
set_option maxHeartbeats 1000000 in
theorem ll_X3_ifTold_16 {fu : Nat} {y0 : Int32} {t : Nat} {s : fl_I} {l : fl_L}  {cq cj : Nat}   : (f_X3_ifTold_16 fu y0 t s l).2.2 cq cj = l cq cj := by
  unfold f_X3_ifTold_16
  repeat' (with_reducible apply itT2)
  all_goals first | with_reducible rfl | simp (disch := first | assumption | omega) only [ll_X3_ifTold_25, ll_X3_ifTold_47, ll_X3_take, wl_f, wl_g, ff_l]
set_option maxHeartbeats 1000000 in
theorem fr_X3_ifTold_7 {fu : Nat} {y0 : Int32} {t : Nat} {s : fl_I} {l : fl_L}  {cq cj : Nat} (h0 : ¬ (cq = 3 ∧ cj = 0)) (h1 : ¬ (cq = 3 ∧ cj = 2)) (h2 : ¬ (cq = 3 ∧ cj = 3)) (h3 : cq ≠ (t + 9)) (h4 : ¬ (cq = t ∧ cj = 14))  : (f_X3_ifTold_7 fu y0 t s l).2.1 cq cj = s cq cj := by
  unfold f_X3_ifTold_7
  repeat' (with_reducible apply itT1)
  all_goals first | with_reducible rfl | simp (disch := first | assumption | omega) only [fr_X3_ifTold_16, fr_X3_ifTold_47, fr_sumD, wi_f, wi_g, wc_f, ff_s, ff_l, su_f]
set_option maxHeartbeats 1000000 in
theorem ll_X3_ifTold_7 {fu : Nat} {y0 : Int32} {t : Nat} {s : fl_I} {l : fl_L}  {cq cj : Nat}   : (f_X3_ifTold_7 fu y0 t s l).2.2 cq cj = l cq cj := by
  unfold f_X3_ifTold_7
  repeat' (with_reducible apply itT2)
  all_goals first | with_reducible rfl | simp (disch := first | assumption | omega) only [ll_X3_ifTold_16, ll_X3_ifTold_47, ll_sumD, wl_f, wl_g, ff_l]
set_option maxHeartbeats 1000000 in
theorem fr_X3_ifTold {fu : Nat} {t : Nat} {s : fl_I} {l : fl_L}  {cq cj : Nat} (h0 : ¬ (cq = 3 ∧ cj = 0)) (h1 : ¬ (cq = 3 ∧ cj = 2)) (h2 : ¬ (cq = 3 ∧ cj = 3)) (h3 : cq ≠ (t + 9)) (h4 : ¬ (cq = t ∧ cj = 14))  : (f_X3_ifTold fu t s l).2.1 cq cj = s cq cj := by
  unfold f_X3_ifTold
  repeat' (with_reducible apply itT1)
  all_goals first | with_reducible rfl | simp (disch := first | assumption | omega) only [fr_X3_ifTold_7, fr_X3_take, wi_f, wi_g, wc_f, ff_s, ff_l, su_f]
set_option maxHeartbeats 1000000 in
theorem ll_X3_ifTold {fu : Nat} {t : Nat} {s : fl_I} {l : fl_L}  {cq cj : Nat}   : (f_X3_ifTold fu t s l).2.2 cq cj = l cq cj := by
  unfold f_X3_ifTold
  repeat' (with_reducible apply itT2)
  all_goals first | with_reducible rfl | simp (disch := first | assumption | omega) only [ll_X3_ifTold_7, ll_X3_take, wl_f, wl_g, ff_l]
set_option maxHeartbeats 1000000 in
theorem fr_X12_tellLetter_97 {fu : Nat} {s : fl_I} {l : fl_L}  {cq cj : Nat}   : (f_X12_tellLetter_97 fu s l).1 cq cj = s cq cj := by
  unfold f_X12_tellLetter_97
  repeat' (with_reducible apply itP1)
  all_goals first | with_reducible rfl | simp (disch := first | assumption | omega) only [wi_f, wi_g, wc_f, ff_s, ff_l, su_f]
set_option maxHeartbeats 1000000 in
theorem ll_X12_tellLetter_97 {fu : Nat} {s : fl_I} {l : fl_L}    : (f_X12_tellLetter_97 fu s l).2 = l := by
  unfold f_X12_tellLetter_97
  repeat' (with_reducible apply itP3)
  all_goals first | with_reducible rfl | simp (disch := first | assumption | omega) only [ff_l]
set_option maxHeartbeats 1000000 in
theorem fr_X12_tellLetter_77 {fu : Nat} {s : fl_I} {l : fl_L}  {cq cj : Nat} (h0 : cq ≠ 68)  : (f_X12_tellLetter_77 fu s l).1 cq cj = s cq cj := by
  unfold f_X12_tellLetter_77
  repeat' (with_reducible apply itP1)
  all_goals first | with_reducible rfl | simp (disch := first | assumption | omega) only [fr_X12_tellLetter_97, wi_f, wi_g, wc_f, ff_s, ff_l, su_f]
set_option maxHeartbeats 1000000 in
theorem ll_X12_tellLetter_77 {fu : Nat} {s : fl_I} {l : fl_L}    : (f_X12_tellLetter_77 fu s l).2 = l := by
  unfold f_X12_tellLetter_77
  repeat' (with_reducible apply itP3)
  all_goals first | with_reducible rfl | simp (disch := first | assumption | omega) only [ll_X12_tellLetter_97, ff_l]
set_option maxHeartbeats 1000000 in
theorem fr_X12_tellLetter_71 {fu : Nat} {y1 : Int32} {y2 : Int32} {s : fl_I} {l : fl_L}  {cq cj : Nat} (h0 : ¬ (cq = 60 ∧ cj = 11)) (h1 : ¬ (cq = 60 ∧ cj = 13)) (h2 : ¬ (cq = 60 ∧ cj = 14)) (h3 : cq ≠ 68) (h4 : cq ≠ 71)  : (f_X12_tellLetter_71 fu y1 y2 s l).1 cq cj = s cq cj := by
  unfold f_X12_tellLetter_71
  repeat' (with_reducible apply itP1)
  all_goals first | with_reducible rfl | simp (disch := first | assumption | omega) only [fr_X12_must, fr_X12_tellLetter_77, wi_f, wi_g, wc_f, ff_s, ff_l, su_f]
set_option maxHeartbeats 1000000 in
theorem ll_X12_tellLetter_71 {fu : Nat} {y1 : Int32} {y2 : Int32} {s : fl_I} {l : fl_L}    : (f_X12_tellLetter_71 fu y1 y2 s l).2 = l := by
  unfold f_X12_tellLetter_71
  repeat' (with_reducible apply itP3)
  all_goals first | with_reducible rfl | simp (disch := first | assumption | omega) only [ll_X12_must, ll_X12_tellLetter_77, ff_l]
set_option maxHeartbeats 1000000 in
theorem fr_X12_tellLetter_58 {fu : Nat} {x1 : Int32} {y1 : Int32} {y2 : Int32} {s : fl_I} {l : fl_L}  {cq cj : Nat} (h0 : ¬ (cq = 60 ∧ cj = 11)) (h1 : ¬ (cq = 60 ∧ cj = 13)) (h2 : ¬ (cq = 60 ∧ cj = 14)) (h3 : ¬ (cq = 60 ∧ cj = 15)) (h4 : ¬ (cq = 60 ∧ cj = 16)) (h5 : cq ≠ 68) (h6 : cq ≠ 70) (h7 : cq ≠ 71)  : (f_X12_tellLetter_58 fu x1 y1 y2 s l).1 cq cj = s cq cj := by
  unfold f_X12_tellLetter_58
  repeat' (with_reducible apply itP1)
  all_goals first | with_reducible rfl | simp (disch := first | assumption | omega) only [fr_X12_bounded, fr_X12_tellLetter_71, wi_f, wi_g, wc_f, ff_s, ff_l, su_f]
set_option maxHeartbeats 1000000 in
theorem ll_X12_tellLetter_58 {fu : Nat} {x1 : Int32} {y1 : Int32} {y2 : Int32} {s : fl_I} {l : fl_L}    : (f_X12_tellLetter_58 fu x1 y1 y2 s l).2 = l := by
  unfold f_X12_tellLetter_58
  repeat' (with_reducible apply itP3)
  all_goals first | with_reducible rfl | simp (disch := first | assumption | omega) only [ll_X12_bounded, ll_X12_tellLetter_71, ff_l]
set_option maxHeartbeats 1000000 in
theorem fr_X12_tellLetter_45 {fu : Nat} {x1 : Int32} {y1 : Int32} {y2 : Int64} {s : fl_I} {l : fl_L}  {cq cj : Nat} (h0 : ¬ (cq = 60 ∧ cj = 11)) (h1 : ¬ (cq = 60 ∧ cj = 13)) (h2 : ¬ (cq = 60 ∧ cj = 14)) (h3 : ¬ (cq = 60 ∧ cj = 15)) (h4 : ¬ (cq = 60 ∧ cj = 16)) (h5 : cq ≠ 68) (h6 : cq ≠ 70) (h7 : cq ≠ 71)  : (f_X12_tellLetter_45 fu x1 y1 y2 s l).1 cq cj = s cq cj := by
  unfold f_X12_tellLetter_45
  repeat' (with_reducible apply itP1)
  all_goals first | with_reducible rfl | simp (disch := first | assumption | omega) only [fr_X12_bounded, fr_X12_tellLetter_58, wi_f, wi_g, wc_f, ff_s, ff_l, su_f]
set_option maxHeartbeats 1000000 in
theorem ll_X12_tellLetter_45 {fu : Nat} {x1 : Int32} {y1 : Int32} {y2 : Int64} {s : fl_I} {l : fl_L}  {cq cj : Nat} (h0 : cq ≠ 69)  : (f_X12_tellLetter_45 fu x1 y1 y2 s l).2 cq cj = l cq cj := by
  unfold f_X12_tellLetter_45
  repeat' (with_reducible apply itP2)
  all_goals first | with_reducible rfl | simp (disch := first | assumption | omega) only [ll_X12_bounded, ll_X12_tellLetter_58, wl_f, wl_g, ff_l]
set_option maxHeartbeats 1000000 in
theorem fr_X12_tellLetter {fu : Nat} {s : fl_I} {l : fl_L}  {cq cj : Nat} (h0 : ¬ (cq = 60 ∧ cj = 11)) (h1 : ¬ (cq = 60 ∧ cj = 13)) (h2 : ¬ (cq = 60 ∧ cj = 14)) (h3 : ¬ (cq = 60 ∧ cj = 15)) (h4 : ¬ (cq = 60 ∧ cj = 16)) (h5 : cq ≠ 68) (h6 : cq ≠ 70) (h7 : cq ≠ 71)  : (f_X12_tellLetter fu s l).1 cq cj = s cq cj := by
  unfold f_X12_tellLetter
  repeat' (with_reducible apply itP1)
  all_goals first | with_reducible rfl | simp (disch := first | assumption | omega) only [fr_X12_named, fr_X12_tellLetter_45, wi_f, wi_g, wc_f, ff_s, ff_l, su_f]
set_option maxHeartbeats 1000000 in
theorem ll_X12_tellLetter {fu : Nat} {s : fl_I} {l : fl_L}  {cq cj : Nat} (h0 : cq ≠ 69)  : (f_X12_tellLetter fu s l).2 cq cj = l cq cj := by
  unfold f_X12_tellLetter
  repeat' (with_reducible apply itP2)
  all_goals first | with_reducible rfl | simp (disch := first | assumption | omega) only [ll_X12_named, ll_X12_tellLetter_45, wl_f, wl_g, ff_l]
set_option maxHeartbeats 1000000 in
theorem fr_X3_pickerTold_49 {fu : Nat} {t : Nat} {s : fl_I} {l : fl_L}  {cq cj : Nat}   : (f_X3_pickerTold_49 fu t s l).2.1 cq cj = s cq cj := by
  unfold f_X3_pickerTold_49
  repeat' (with_reducible apply itT1)
  all_goals first | with_reducible rfl | simp (disch := first | assumption | omega) only [wi_f, wi_g, wc_f, ff_s, ff_l, su_f]
set_option maxHeartbeats 1000000 in
theorem ll_X3_pickerTold_49 {fu : Nat} {t : Nat} {s : fl_I} {l : fl_L}    : (f_X3_pickerTold_49 fu t s l).2.2 = l := by
  unfold f_X3_pickerTold_49
  repeat' (with_reducible apply itT3)
  all_goals first | with_reducible rfl | simp (disch := first | assumption | omega) only [ff_l]
set_option maxHeartbeats 1000000 in
theorem fr_X3_pickerTold_92 {fu : Nat} {t : Nat} {s : fl_I} {l : fl_L}  {cq cj : Nat}   : (f_X3_pickerTold_92 fu t s l).2.1 cq cj = s cq cj := by
  unfold f_X3_pickerTold_92
  repeat' (with_reducible apply itT1)
  all_goals first | with_reducible rfl | simp (disch := first | assumption | omega) only [wi_f, wi_g, wc_f, ff_s, ff_l, su_f]
set_option maxHeartbeats 1000000 in
theorem ll_X3_pickerTold_92 {fu : Nat} {t : Nat} {s : fl_I} {l : fl_L}    : (f_X3_pickerTold_92 fu t s l).2.2 = l := by
  unfold f_X3_pickerTold_92
  repeat' (with_reducible apply itT3)
  all_goals first | with_reducible rfl | simp (disch := first | assumption | omega) only [ff_l]
set_option maxHeartbeats 1000000 in
theorem fr_X3_pickerTold_112 {fu : Nat} {t : Nat} {s : fl_I} {l : fl_L}  {cq cj : Nat}   : (f_X3_pickerTold_112 fu t s l).2.1 cq cj = s cq cj := by
  unfold f_X3_pickerTold_112
  repeat' (with_reducible apply itT1)
  all_goals first | with_reducible rfl | simp (disch := first | assumption | omega) only [wi_f, wi_g, wc_f, ff_s, ff_l, su_f]
set_option maxHeartbeats 1000000 in
theorem ll_X3_pickerTold_112 {fu : Nat} {t : Nat} {s : fl_I} {l : fl_L}    : (f_X3_pickerTold_112 fu t s l).2.2 = l := by
  unfold f_X3_pickerTold_112
  repeat' (with_reducible apply itT3)
  all_goals first | with_reducible rfl | simp (disch := first | assumption | omega) only [ff_l]
set_option maxHeartbeats 1000000 in
theorem fr_X3_pickerTold_89 {fu : Nat} {x2 : Int32} {x3 : Int32} {y0 : Int32} {t : Nat} {s : fl_I} {l : fl_L}  {cq cj : Nat} (h0 : cq ≠ (t + 7)) (h1 : cq ≠ (t + 8)) (h2 : ¬ (cq = t ∧ cj = 2))  : (f_X3_pickerTold_89 fu x2 x3 y0 t s l).2.1 cq cj = s cq cj := by
  unfold f_X3_pickerTold_89
  repeat' (with_reducible apply itT1)
  all_goals first | with_reducible rfl | simp (disch := first | assumption | omega) only [fr_X3_pickerTold_112, fr_X3_pickerTold_92, fr_X5_addPicker, wi_f, wi_g, wc_f, ff_s, ff_l, su_f]
set_option maxHeartbeats 1000000 in
theorem ll_X3_pickerTold_89 {fu : Nat} {x2 : Int32} {x3 : Int32} {y0 : Int32} {t : Nat} {s : fl_I} {l : fl_L}  {cq cj : Nat} (h0 : cq ≠ (t + 3))  : (f_X3_pickerTold_89 fu x2 x3 y0 t s l).2.2 cq cj = l cq cj := by
  unfold f_X3_pickerTold_89
  repeat' (with_reducible apply itT2)
  all_goals first | with_reducible rfl | simp (disch := first | assumption | omega) only [ll_X3_pickerTold_112, ll_X3_pickerTold_92, ll_X5_addPicker, wl_f, wl_g, ff_l]
set_option maxHeartbeats 1000000 in
theorem fr_X3_pickerTold_80 {fu : Nat} {x2 : Int32} {x3 : Int32} {y0 : Int32} {t : Nat} {s : fl_I} {l : fl_L}  {cq cj : Nat} (h0 : ¬ (cq = 3 ∧ cj = 0)) (h1 : ¬ (cq = 3 ∧ cj = 2)) (h2 : ¬ (cq = 3 ∧ cj = 3)) (h3 : cq ≠ (t + 7)) (h4 : cq ≠ (t + 8)) (h5 : ¬ (cq = t ∧ cj = 2))  : (f_X3_pickerTold_80 fu x2 x3 y0 t s l).2.1 cq cj = s cq cj := by
  unfold f_X3_pickerTold_80
  repeat' (with_reducible apply itT1)
  all_goals first | with_reducible rfl | simp (disch := first | assumption | omega) only [fr_X3_pickerTold_89, fr_X3_pickerTold_92, fr_X3_take, wi_f, wi_g, wc_f, ff_s, ff_l, su_f]
set_option maxHeartbeats 1000000 in
theorem ll_X3_pickerTold_80 {fu : Nat} {x2 : Int32} {x3 : Int32} {y0 : Int32} {t : Nat} {s : fl_I} {l : fl_L}  {cq cj : Nat} (h0 : cq ≠ (t + 3))  : (f_X3_pickerTold_80 fu x2 x3 y0 t s l).2.2 cq cj = l cq cj := by
  unfold f_X3_pickerTold_80
  repeat' (with_reducible apply itT2)
  all_goals first | with_reducible rfl | simp (disch := first | assumption | omega) only [ll_X3_pickerTold_89, ll_X3_pickerTold_92, ll_X3_take, wl_f, wl_g, ff_l]
set_option maxHeartbeats 1000000 in
theorem fr_X3_pickerTold_63 {fu : Nat} {x2 : Int32} {y0 : Int32} {t : Nat} {s : fl_I} {l : fl_L}  {cq cj : Nat} (h0 : ¬ (cq = 3 ∧ cj = 0)) (h1 : ¬ (cq = 3 ∧ cj = 2)) (h2 : ¬ (cq = 3 ∧ cj = 3)) (h3 : ¬ (cq = 3 ∧ cj = 4)) (h4 : ¬ (cq = 3 ∧ cj = 5)) (h5 : ¬ (cq = 3 ∧ cj = 6)) (h6 : cq ≠ (t + 7)) (h7 : cq ≠ (t + 8)) (h8 : ¬ (cq = t ∧ cj = 2))  : (f_X3_pickerTold_63 fu x2 y0 t s l).2.1 cq cj = s cq cj := by
  unfold f_X3_pickerTold_63
  repeat' (with_reducible apply itT1)
  all_goals first | with_reducible rfl | simp (disch := first | assumption | omega) only [fr_X3_pickerTold_80, fr_X3_takeInt, wi_f, wi_g, wc_f, ff_s, ff_l, su_f]
set_option maxHeartbeats 1000000 in
theorem ll_X3_pickerTold_63 {fu : Nat} {x2 : Int32} {y0 : Int32} {t : Nat} {s : fl_I} {l : fl_L}  {cq cj : Nat} (h0 : cq ≠ (t + 3))  : (f_X3_pickerTold_63 fu x2 y0 t s l).2.2 cq cj = l cq cj := by
  unfold f_X3_pickerTold_63
  repeat' (with_reducible apply itT2)
  all_goals first | with_reducible rfl | simp (disch := first | assumption | omega) only [ll_X3_pickerTold_80, ll_X3_takeInt, wl_f, wl_g, ff_l]
set_option maxHeartbeats 1000000 in
theorem fr_X3_pickerTold_46 {fu : Nat} {y0 : Int32} {t : Nat} {s : fl_I} {l : fl_L}  {cq cj : Nat} (h0 : ¬ (cq = 3 ∧ cj = 0)) (h1 : ¬ (cq = 3 ∧ cj = 2)) (h2 : ¬ (cq = 3 ∧ cj = 3)) (h3 : ¬ (cq = 3 ∧ cj = 4)) (h4 : ¬ (cq = 3 ∧ cj = 5)) (h5 : ¬ (cq = 3 ∧ cj = 6)) (h6 : cq ≠ (t + 7)) (h7 : cq ≠ (t + 8)) (h8 : ¬ (cq = t ∧ cj = 2))  : (f_X3_pickerTold_46 fu y0 t s l).2.1 cq cj = s cq cj := by
  unfold f_X3_pickerTold_46
  repeat' (with_reducible apply itT1)
  all_goals first | with_reducible rfl | simp (disch := first | assumption | omega) only [fr_X3_pickerTold_49, fr_X3_pickerTold_63, fr_X3_takeInt, wi_f, wi_g, wc_f, ff_s, ff_l, su_f]
set_option maxHeartbeats 1000000 in
theorem ll_X3_pickerTold_46 {fu : Nat} {y0 : Int32} {t : Nat} {s : fl_I} {l : fl_L}  {cq cj : Nat} (h0 : cq ≠ (t + 3))  : (f_X3_pickerTold_46 fu y0 t s l).2.2 cq cj = l cq cj := by
  unfold f_X3_pickerTold_46
  repeat' (with_reducible apply itT2)
  all_goals first | with_reducible rfl | simp (disch := first | assumption | omega) only [ll_X3_pickerTold_49, ll_X3_pickerTold_63, ll_X3_takeInt, wl_f, wl_g, ff_l]
set_option maxHeartbeats 1000000 in
theorem fr_X3_pickerTold_36 {fu : Nat} {y0 : Int32} {t : Nat} {s : fl_I} {l : fl_L}  {cq cj : Nat} (h0 : ¬ (cq = 3 ∧ cj = 0)) (h1 : ¬ (cq = 3 ∧ cj = 2)) (h2 : ¬ (cq = 3 ∧ cj = 3)) (h3 : ¬ (cq = 3 ∧ cj = 4)) (h4 : ¬ (cq = 3 ∧ cj = 5)) (h5 : ¬ (cq = 3 ∧ cj = 6)) (h6 : cq ≠ (t + 7)) (h7 : cq ≠ (t + 8)) (h8 : ¬ (cq = t ∧ cj = 2))  : (f_X3_pickerTold_36 fu y0 t s l).2.1 cq cj = s cq cj := by
  unfold f_X3_pickerTold_36
  repeat' (with_reducible apply itT1)
  all_goals first | with_reducible rfl | simp (disch := first | assumption | omega) only [fr_X3_pickerTold_46, fr_X3_pickerTold_49, fr_X3_takeInt, wi_f, wi_g, wc_f, ff_s, ff_l, su_f]
set_option maxHeartbeats 1000000 in
theorem ll_X3_pickerTold_36 {fu : Nat} {y0 : Int32} {t : Nat} {s : fl_I} {l : fl_L}  {cq cj : Nat} (h0 : cq ≠ (t + 3))  : (f_X3_pickerTold_36 fu y0 t s l).2.2 cq cj = l cq cj := by
  unfold f_X3_pickerTold_36
  repeat' (with_reducible apply itT2)
  all_goals first | with_reducible rfl | simp (disch := first | assumption | omega) only [ll_X3_pickerTold_46, ll_X3_pickerTold_49, ll_X3_takeInt, wl_f, wl_g, ff_l]
set_option maxHeartbeats 1000000 in
theorem fr_X3_pickerTold_21 {fu : Nat} {y0 : Int32} {t : Nat} {s : fl_I} {l : fl_L}  {cq cj : Nat} (h0 : ¬ (cq = 3 ∧ cj = 0)) (h1 : ¬ (cq = 3 ∧ cj = 2)) (h2 : ¬ (cq = 3 ∧ cj = 3)) (h3 : ¬ (cq = 3 ∧ cj = 4)) (h4 : ¬ (cq = 3 ∧ cj = 5)) (h5 : ¬ (cq = 3 ∧ cj = 6)) (h6 : cq ≠ (t + 7)) (h7 : cq ≠ (t + 8)) (h8 : ¬ (cq = t ∧ cj = 2))  : (f_X3_pickerTold_21 fu y0 t s l).2.1 cq cj = s cq cj := by
  unfold f_X3_pickerTold_21
  repeat' (with_reducible apply itT1)
  all_goals first | with_reducible rfl | simp (disch := first | assumption | omega) only [fr_X3_pickerTold_36, fr_X3_pickerTold_49, fr_X3_takeName, wi_f, wi_g, wc_f, ff_s, ff_l, su_f]
set_option maxHeartbeats 1000000 in
theorem ll_X3_pickerTold_21 {fu : Nat} {y0 : Int32} {t : Nat} {s : fl_I} {l : fl_L}  {cq cj : Nat} (h0 : ¬ (cq = 3 ∧ cj = 7)) (h1 : cq ≠ (t + 3))  : (f_X3_pickerTold_21 fu y0 t s l).2.2 cq cj = l cq cj := by
  unfold f_X3_pickerTold_21
  repeat' (with_reducible apply itT2)
  all_goals first | with_reducible rfl | simp (disch := first | assumption | omega) only [ll_X3_pickerTold_36, ll_X3_pickerTold_49, ll_X3_takeName, wl_f, wl_g, ff_l]
set_option maxHeartbeats 1000000 in
theorem fr_X3_pickerTold_13 {fu : Nat} {y0 : Int32} {t : Nat} {s : fl_I} {l : fl_L}  {cq cj : Nat}   : (f_X3_pickerTold_13 fu y0 t s l).2.1 cq cj = s cq cj := by
  unfold f_X3_pickerTold_13
  repeat' (with_reducible apply itT1)
  all_goals first | with_reducible rfl | simp (disch := first | assumption | omega) only [wi_f, wi_g, wc_f, ff_s, ff_l, su_f]
set_option maxHeartbeats 1000000 in
theorem ll_X3_pickerTold_13 {fu : Nat} {y0 : Int32} {t : Nat} {s : fl_I} {l : fl_L}    : (f_X3_pickerTold_13 fu y0 t s l).2.2 = l := by
  unfold f_X3_pickerTold_13
  repeat' (with_reducible apply itT3)
  all_goals first | with_reducible rfl | simp (disch := first | assumption | omega) only [ff_l]
set_option maxHeartbeats 1000000 in
theorem fr_X3_pickerTold {fu : Nat} {t : Nat} {s : fl_I} {l : fl_L}  {cq cj : Nat} (h0 : ¬ (cq = 3 ∧ cj = 0)) (h1 : ¬ (cq = 3 ∧ cj = 2)) (h2 : ¬ (cq = 3 ∧ cj = 3)) (h3 : ¬ (cq = 3 ∧ cj = 4)) (h4 : ¬ (cq = 3 ∧ cj = 5)) (h5 : ¬ (cq = 3 ∧ cj = 6)) (h6 : cq ≠ (t + 7)) (h7 : cq ≠ (t + 8)) (h8 : ¬ (cq = t ∧ cj = 2))  : (f_X3_pickerTold fu t s l).2.1 cq cj = s cq cj := by
  unfold f_X3_pickerTold
  repeat' (with_reducible apply itT1)
  all_goals first | with_reducible rfl | simp (disch := first | assumption | omega) only [fr_X3_pickerTold_13, fr_X3_pickerTold_21, fr_X3_stop, fr_X3_take, wi_f, wi_g, wc_f, ff_s, ff_l, su_f]
set_option maxHeartbeats 1000000 in
theorem ll_X3_pickerTold {fu : Nat} {t : Nat} {s : fl_I} {l : fl_L}  {cq cj : Nat} (h0 : ¬ (cq = 3 ∧ cj = 7)) (h1 : cq ≠ (t + 3))  : (f_X3_pickerTold fu t s l).2.2 cq cj = l cq cj := by
  unfold f_X3_pickerTold
  repeat' (with_reducible apply itT2)
  all_goals first | with_reducible rfl | simp (disch := first | assumption | omega) only [ll_X3_pickerTold_13, ll_X3_pickerTold_21, ll_X3_stop, ll_X3_take, wl_f, wl_g, ff_l]
set_option maxHeartbeats 1000000 in
theorem fr_X3_lawTold_34 {fu : Nat}  {t : Nat} {cq cj : Nat} (h0 : ¬ (cq = 3 ∧ cj = 0)) (h1 : ¬ (cq = 3 ∧ cj = 2)) (h2 : ¬ (cq = 3 ∧ cj = 3)) (h3 : cq ≠ (t + 10)) (h4 : cq ≠ (t + 9)) (h5 : ¬ (cq = t ∧ cj = 14))  : ∀ (n : Nat) (x2 : Int32) (x3 : Int32) (x4 : Int32) (x5 : Int32) (s : fl_I) (l : fl_L), (f_X3_lawTold_34 fu n x2 x3 x4 x5 t s l).2.1 cq cj = s cq cj := by
  intro n; induction n with
  | zero => intro x2 x3 x4 x5 s l; rfl
  | succ n ih =>
    intro x2 x3 x4 x5 s l; unfold f_X3_lawTold_34
    repeat' (with_reducible apply itT1)
    all_goals first | with_reducible rfl | with_reducible exact ih _ _ _ _ _ _ | simp (disch := first | assumption | omega | (intros; with_reducible exact ih _ _ _ _ _ _)) only [ih, fr_X3_ifTold, fr_X3_stop, fr_X3_take, fr_X5_addCode, fr_sumD, wi_f, wi_g, wc_f, ff_s, ff_l, su_f]
set_option maxHeartbeats 1000000 in
theorem ll_X3_lawTold_34 {fu : Nat}  {t : Nat} {cq cj : Nat}   : ∀ (n : Nat) (x2 : Int32) (x3 : Int32) (x4 : Int32) (x5 : Int32) (s : fl_I) (l : fl_L), (f_X3_lawTold_34 fu n x2 x3 x4 x5 t s l).2.2 cq cj = l cq cj := by
  intro n; induction n with
  | zero => intro x2 x3 x4 x5 s l; rfl
  | succ n ih =>
    intro x2 x3 x4 x5 s l; unfold f_X3_lawTold_34
    repeat' (with_reducible apply itT2)
    all_goals first | with_reducible rfl | with_reducible exact ih _ _ _ _ _ _ | simp (disch := first | assumption | omega | (intros; with_reducible exact ih _ _ _ _ _ _)) only [ih, ll_X3_ifTold, ll_X3_stop, ll_X3_take, ll_X5_addCode, ll_sumD, wl_f, wl_g, ff_l]
set_option maxHeartbeats 1000000 in
theorem fr_X3_lawTold {fu : Nat} {v1 : Int32} {t : Nat} {s : fl_I} {l : fl_L}  {cq cj : Nat} (h0 : ¬ (cq = 3 ∧ cj = 0)) (h1 : ¬ (cq = 3 ∧ cj = 2)) (h2 : ¬ (cq = 3 ∧ cj = 3)) (h3 : cq ≠ (t + 10)) (h4 : cq ≠ (t + 9)) (h5 : ¬ (cq = t ∧ cj = 14))  : (f_X3_lawTold fu v1 t s l).2.1 cq cj = s cq cj := by
  unfold f_X3_lawTold
  repeat' (with_reducible apply itT1)
  all_goals first | with_reducible rfl | simp (disch := first | assumption | omega) only [fr_X3_lawTold_34, fr_X3_take, wi_f, wi_g, wc_f, ff_s, ff_l, su_f]
set_option maxHeartbeats 1000000 in
theorem ll_X3_lawTold {fu : Nat} {v1 : Int32} {t : Nat} {s : fl_I} {l : fl_L}  {cq cj : Nat}   : (f_X3_lawTold fu v1 t s l).2.2 cq cj = l cq cj := by
  unfold f_X3_lawTold
  repeat' (with_reducible apply itT2)
  all_goals first | with_reducible rfl | simp (disch := first | assumption | omega) only [ll_X3_lawTold_34, ll_X3_take, wl_f, wl_g, ff_l]
set_option maxHeartbeats 1000000 in
theorem fr_X12_drop {fu : Nat} {v0 : Int32} {s : fl_I} {l : fl_L}  {cq cj : Nat} (h0 : ¬ (cq = 60 ∧ cj = 52)) (h1 : ¬ (cq = 60 ∧ cj = 53)) (h2 : ¬ (cq = 60 ∧ cj = 58)) (h3 : cq ≠ 94) (h4 : cq ≠ 95) (h5 : cq ≠ 99)  : (f_X12_drop fu v0 s l).2.1 cq cj = s cq cj := by
  unfold f_X12_drop
  repeat' (with_reducible apply itT1)
  all_goals first | with_reducible rfl | simp (disch := first | assumption | omega) only [fr_X12_copies, fr_X12_records, wi_f, wi_g, wc_f, ff_s, ff_l, su_f]
set_option maxHeartbeats 1000000 in
theorem ll_X12_drop {fu : Nat} {v0 : Int32} {s : fl_I} {l : fl_L}    : (f_X12_drop fu v0 s l).2.2 = l := by
  unfold f_X12_drop
  repeat' (with_reducible apply itT3)
  all_goals first | with_reducible rfl | simp (disch := first | assumption | omega) only [ll_X12_copies, ll_X12_records, ff_l]
set_option maxHeartbeats 1000000 in
theorem fr_X1_ofPiece {fu : Nat} {v0 : Int32} {v3 : Int32} {v4 : Int32} {t : Nat} {a : Nat} {s : fl_I} {l : fl_L}  {cq cj : Nat} (h0 : cq ≠ 48) (h1 : cq ≠ 49)  : (f_X1_ofPiece fu v0 v3 v4 t a s l).2.1 cq cj = s cq cj := by
  unfold f_X1_ofPiece
  repeat' (with_reducible apply itT1)
  all_goals first | with_reducible rfl | simp (disch := first | assumption | omega) only [fr_X1_value, wi_f, wi_g, wc_f, ff_s, ff_l, su_f]
set_option maxHeartbeats 1000000 in
theorem ll_X1_ofPiece {fu : Nat} {v0 : Int32} {v3 : Int32} {v4 : Int32} {t : Nat} {a : Nat} {s : fl_I} {l : fl_L}  {cq cj : Nat}   : (f_X1_ofPiece fu v0 v3 v4 t a s l).2.2 cq cj = l cq cj := by
  unfold f_X1_ofPiece
  repeat' (with_reducible apply itT2)
  all_goals first | with_reducible rfl | simp (disch := first | assumption | omega) only [ll_X1_value, wl_f, wl_g, ff_l]
set_option maxHeartbeats 1000000 in
theorem fr_X12_tellPicker_110 {fu : Nat} {s : fl_I} {l : fl_L}  {cq cj : Nat}   : (f_X12_tellPicker_110 fu s l).1 cq cj = s cq cj := by
  unfold f_X12_tellPicker_110
  repeat' (with_reducible apply itP1)
  all_goals first | with_reducible rfl | simp (disch := first | assumption | omega) only [wi_f, wi_g, wc_f, ff_s, ff_l, su_f]
set_option maxHeartbeats 1000000 in
theorem ll_X12_tellPicker_110 {fu : Nat} {s : fl_I} {l : fl_L}    : (f_X12_tellPicker_110 fu s l).2 = l := by
  unfold f_X12_tellPicker_110
  repeat' (with_reducible apply itP3)
  all_goals first | with_reducible rfl | simp (disch := first | assumption | omega) only [ff_l]
