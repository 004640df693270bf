/-! The reference reads expressions: the rules one by one -/
def gA (fu n f : Nat) (s : fl_I) (l : fl_L) : fl_I × fl_L := f_X12_expression_23 fu (fun x1 x2 s l => f_X12_expression_12 fu n x1 x2 s l) f (nI 0) s l
def gAp (fu n f : Nat) (s : fl_I) (l : fl_L) : Prop := p_X12_expression_23 fu (fun x1 x2 s l => p_X12_expression_12 fu n x1 x2 s l) f (nI 0) s l
def gZ (fu n f : Nat) (s : fl_I) (l : fl_L) : fl_I × fl_L := f_X12_expression_96 fu (fun x1 x2 s l => f_X12_expression_12 fu n x1 x2 s l) f (nI 0) s l
def gZp (fu n f : Nat) (s : fl_I) (l : fl_L) : Prop := p_X12_expression_96 fu (fun x1 x2 s l => p_X12_expression_12 fu n x1 x2 s l) f (nI 0) s l
/-- what may wait behind a level -/
def okQ (lv : Nat) (Q : List Nat) : Prop := ∃ Q1 Q2 : List Nat, Q = Q1 ++ Q2 ∧ (Q1 = [] ∨ (3 ≤ lv ∧ (Q1 = [8] ∨ Q1 = [9]))) ∧ (Q2 = [] ∨ (1 ≤ lv ∧ (Q2 = [10] ∨ Q2 = [15])))
def flQ (Q : List Nat) : List Nat := Q.reverse.map wO
/-- read well -/
def xG (B : Nat → Nat) (n fu b0 lv w a m : Nat) (W Q C : List Nat) (s : fl_I) (l : fl_L) (val : fl_I × fl_L) (pv : Prop) : Prop := ∃ n2 f2 Q2 C0 s', okQ lv Q2 ∧ val = gZ fu n2 f2 s' l ∧ (gZp fu n2 f2 s' l → pv) ∧ rAt B n a (m + C0.length) w (W ++ Q2) s' l ∧ rEf s s' ∧ rCd m C0 s s' ∧ C0 ++ flQ Q2 = flQ Q ++ C ∧ m + C0.length + (W ++ Q2).length ≤ b0 + a ∧ 1000 ≤ n2 + a ∧ 1000 ≤ f2 + a ∧ (1 ≤ lv → ¬ opS 1 (tK B n a)) ∧ (3 ≤ lv → ¬ opS 3 (tK B n a))
/-- a fault -/
def xB (B : Nat → Nat) (n b0 e a m : Nat) (s : fl_I) (l : fl_L) (val : fl_I × fl_L) (pv : Prop) : Prop := ∃ s' C0, val = (s', l) ∧ pv ∧ rBd B n e a s' ∧ rEf s s' ∧ rCd m C0 s s' ∧ m + C0.length ≤ b0 + 401
section rex7
variable {B : Nat → Nat} {a b c e i j k m n o p q r t w f en v b0 n1 lv : Nat} {s s1 s2 : fl_I} {l l1 : fl_L} {fu : Nat} {x y z : Int32} {C C1 C2 W Q R : List Nat}
theorem tkE_n (h : tkE (tK B n) c k = (e, a)) (he : e ≠ 0) : a = k ∧ ((tK B n k = c ∧ ¬ k < 400 ∧ e = 2) ∨ (tK B n k ≠ c ∧ e = 1)) := by
  unfold tkE at h
  by_cases e1 : tK B n k = c
  · rw [if_pos e1] at h
    by_cases e2 : k < 400
    · rw [if_pos e2] at h; exact absurd (Prod.mk.inj h).1.symm he
    · rw [if_neg e2] at h; exact ⟨(Prod.mk.inj h).2.symm, .inl ⟨e1, e2, (Prod.mk.inj h).1.symm⟩⟩
  · rw [if_neg e1] at h; exact ⟨(Prod.mk.inj h).2.symm, .inr ⟨e1, (Prod.mk.inj h).1.symm⟩⟩
/-- a number, a variable, or what is neither -/
theorem x_leaf (hfu : 20000 ≤ fu) (hn : 1000 ≤ n1 + k) (hf : 1000 ≤ f + k) (h : rAt B n k m w W s l) (hm : m + W.length ≤ b0 + k) (hb : b0 ≤ 420) (h40 : tK B n k ≠ 40) (hc : (c = tK B n k ∧ 268 ≤ tK B n k ∧ tK B n k < 277 ∧ C = [30000 + (tK B n k - 268)]) ∨ (c = 3 ∧ ¬ (268 ≤ tK B n k ∧ tK B n k < 277) ∧ C = [tV B n k])) (hE : tkE (tK B n) c k = (e, a)) :
    (e = 0 → xG B n fu b0 0 w a m W [] C s l (gA fu n1 f s l) (gAp fu n1 f s l)) ∧ (e ≠ 0 → xB B n b0 e a m s l (gA fu n1 f s l) (gAp fu n1 f s l)) := by
  have hk := h.2.1.1
  obtain ⟨f, rfl⟩ : ∃ f', f = f' + 1 := ⟨f - 1, by omega⟩
  by_cases hl : tK B n k = 3 ∨ (268 ≤ tK B n k ∧ tK B n k < 277)
  · have hC : C = [if tK B n k = 3 then tV B n k else 30000 + (tK B n k - 268)] := by
      rcases hc with ⟨h1, h2, h3, h4⟩ | ⟨h1, h2, h3⟩
      · rw [if_neg (by omega)]; exact h4
      · rw [if_pos (by omega)]; exact h3
    have hcT : tK B n k = c := by omega
    rcases r_leaf (fu := fu) (f := f) (x := nI 0) (K := fun x1 x2 s l => f_X12_expression_12 fu n1 x1 x2 s l) (PK := fun x1 x2 s l => p_X12_expression_12 fu n1 x1 x2 s l) h (by omega) hl rfl with ⟨g0, s', g1, g2, g3, g4, g5⟩ | ⟨g0, s', g1, g2, g3, g4, g5⟩
    · have hE' : (e, a) = (0, k + 1) := by rw [← hE]; unfold tkE; rw [if_pos hcT, if_pos g0]
      obtain ⟨rfl, rfl⟩ := Prod.mk.inj hE'
      refine ⟨fun _ => ⟨n1, fu, [], C, s', ⟨[], [], rfl, .inl rfl, .inl rfl⟩, g1, g2, ?_, g4, by rw [hC]; exact g5, ?_, ?_, by omega, by omega, fun h => by omega, fun h => by omega⟩, fun h => absurd rfl h⟩
      · rw [List.append_nil, hC]; exact g3
      · show C ++ [] = [] ++ C; rw [List.append_nil]; rfl
      · rw [List.append_nil, hC, List.length_singleton]; omega
    · have hE' : (e, a) = (2, k) := by rw [← hE]; unfold tkE; rw [if_pos hcT, if_neg (by omega)]
      obtain ⟨rfl, rfl⟩ := Prod.mk.inj hE'
      exact ⟨fun h => by omega, fun _ => ⟨s', _, g1, g2, g3, g4, g5, by rw [List.length_singleton]; omega⟩⟩
  · have hcT : tK B n k ≠ c := by omega
    have hE' : (e, a) = (1, k) := by rw [← hE]; unfold tkE; rw [if_neg hcT]
    obtain ⟨rfl, rfl⟩ := Prod.mk.inj hE'
    obtain ⟨s', g1, g2, g3, g4, g5, g6⟩ := r_noleaf (fu := fu) (f := f) (x := nI 0) (K := fun x1 x2 s l => f_X12_expression_12 fu n1 x1 x2 s l) (PK := fun x1 x2 s l => p_X12_expression_12 fu n1 x1 x2 s l) h hl h40
    exact ⟨fun h => by omega, fun _ => ⟨s', [], g1, g2, g3, g4, rCd_tr rCd_rfl g5 g6, by show m + 0 ≤ b0 + 401; omega⟩⟩
/-- no room for ( -/
theorem x_open (hf : 1000 ≤ f + k) (h : rAt B n k m w W s l) (hm : m + W.length ≤ b0 + k) (hT : tK B n k = 40) (hw : w ≤ 6) (hr : w = 6 ∨ k = 400) (hW : W.length < 64) : xB B n b0 2 k m s l (gA fu n1 f s l) (gAp fu n1 f s l) := by
  have hk := h.2.1.1
  obtain ⟨f, rfl⟩ : ∃ f', f = f' + 1 + 1 := ⟨f - 2, by omega⟩
  obtain ⟨s', g1, g2, g3, g4, g5, g6⟩ := r_openB (fu := fu) (f := f) (x := nI 0) (K := fun x1 x2 s l => f_X12_expression_12 fu n1 x1 x2 s l) (PK := fun x1 x2 s l => p_X12_expression_12 fu n1 x1 x2 s l) h hT hw hr hW
  exact ⟨s', [], g1, g2, g3, g4, rCd_tr rCd_rfl g5 g6, by show m + 0 ≤ b0 + 401; omega⟩
end rex7
