/-! Frames: which cells each function leaves as they were (printed by gen_frames.py) -/
theorem wi_f {s : fl_I} {q' i q j : Nat} {v : Int32} (h : q ≠ q') : wi s q' i v q j = s q j := by unfold wi; rw [su_ne _ _ h]
theorem wi_g {s : fl_I} {q' i q j : Nat} {v : Int32} (h : ¬ (q = q' ∧ j = i)) : wi s q' i v q j = s q j := by
  by_cases hq : q = q'
  · subst hq; unfold wi; rw [su_same]; unfold upd; exact if_neg (fun e => h ⟨rfl, e⟩)
  · exact wi_f hq
theorem wi_s {s : fl_I} {q i : Nat} {v : Int32} : wi s q i v q i = v := by unfold wi; rw [su_same]; exact if_pos rfl
theorem wl_f {l : fl_L} {q' i q j : Nat} {v : Int64} (h : q ≠ q') : wl l q' i v q j = l q j := by unfold wl; rw [sl_ne _ _ h]
theorem wl_g {l : fl_L} {q' i q j : Nat} {v : Int64} (h : ¬ (q = q' ∧ j = i)) : wl l q' i v q j = l q j := by
  by_cases hq : q = q'
  · subst hq; unfold wl; rw [sl_same]; unfold vp_updL; exact if_neg (fun e => h ⟨rfl, e⟩)
  · exact wl_f hq
theorem wl_s {l : fl_L} {q i : Nat} {v : Int64} : wl l q i v q i = v := by unfold wl; rw [sl_same]; exact if_pos rfl
theorem wc_f {s : fl_I} {q0 q' sp dp n q j : Nat} (h : q ≠ q') : wc s q0 q' sp dp n q j = s q j := by unfold wc; rw [su_ne _ _ h]
theorem su_f {s : fl_I} {q' q j : Nat} {f : Nat → Int32} (h : q ≠ q') : su s q' f q j = s q j := by rw [su_ne _ _ h]
theorem ff_s {v : Int32} {q' z : Nat} {s : fl_I} {l : fl_L} {q j : Nat} (h : q ≠ q') : (fl_fill v q' z s l).1 q j = s q j := su_f h
theorem ff_l {v : Int32} {q' z : Nat} {s : fl_I} {l : fl_L} : (fl_fill v q' z s l).2 = l := rfl
theorem itP1 {c : Prop} {dc : Decidable c} {A B : fl_I × fl_L} {q j : Nat} {v : Int32} (h1 : A.1 q j = v) (h2 : B.1 q j = v) : (ite c A B).1 q j = v := by by_cases h : c <;> simp [h, h1, h2]
theorem itP2 {c : Prop} {dc : Decidable c} {A B : fl_I × fl_L} {q j : Nat} {v : Int64} (h1 : A.2 q j = v) (h2 : B.2 q j = v) : (ite c A B).2 q j = v := by by_cases h : c <;> simp [h, h1, h2]
theorem itP3 {c : Prop} {dc : Decidable c} {A B : fl_I × fl_L} {v : fl_L} (h1 : A.2 = v) (h2 : B.2 = v) : (ite c A B).2 = v := by by_cases h : c <;> simp [h, h1, h2]
theorem itT1 {X : Type} {c : Prop} {dc : Decidable c} {A B : X × fl_I × fl_L} {q j : Nat} {v : Int32} (h1 : A.2.1 q j = v) (h2 : B.2.1 q j = v) : (ite c A B).2.1 q j = v := by by_cases h : c <;> simp [h, h1, h2]
theorem itT2 {X : Type} {c : Prop} {dc : Decidable c} {A B : X × fl_I × fl_L} {q j : Nat} {v : Int64} (h1 : A.2.2 q j = v) (h2 : B.2.2 q j = v) : (ite c A B).2.2 q j = v := by by_cases h : c <;> simp [h, h1, h2]
theorem itT3 {X : Type} {c : Prop} {dc : Decidable c} {A B : X × fl_I × fl_L} {v : fl_L} (h1 : A.2.2 = v) (h2 : B.2.2 = v) : (ite c A B).2.2 = v := by by_cases h : c <;> simp [h, h1, h2]
