/-! Laws as programs: postfix code run on a stack -/
def jn (x : Nat) (a b : Int32) : Int32 := if x = 20043 then a + b else if x = 20045 then a - b else if x = 20042 then a * b else a / b
def rnC : List Nat → (Nat → Int32) → List Int32 → Option (List Int32)
  | [], _, st => some st
  | x :: C, v, st => if x < 20000 then rnC C v (nI x :: st) else if 30000 ≤ x then rnC C v (v (x - 30000) :: st) else
      match st with
      | b :: a :: st' => if x = 20047 ∧ b = nI 0 then none else rnC C v (jn x a b :: st')
      | _ => none
/-- code that goes from height h to h', below D all the way -/
def wfC : List Nat → Nat → Nat → Nat → Prop
  | [], h, _, h' => h = h'
  | x :: C, h, D, h' => ((x < 20000 ∨ (30000 ≤ x ∧ x < 30009)) ∧ h + 1 ≤ D ∧ wfC C (h + 1) D h') ∨ ((x = 20043 ∨ x = 20045 ∨ x = 20042 ∨ x = 20047) ∧ 2 ≤ h ∧ wfC C (h - 1) D h')
def gdC (C : List Nat) : Prop := ∀ h, wfC C h (h + 15) (h + 1)
def vl (C : List Nat) (v : Nat → Int32) : Option Int32 := match rnC C v [] with
  | some (x :: _) => some x
  | _ => none
def dpt (lv w : Nat) : Nat := 1 + 2 * (6 - w) + (if lv = 0 then 0 else if lv ≤ 2 then 1 else 2)
def wR (lv w _k e _a : Nat) (C : List Nat) : Prop := e = 0 → w ≤ 6 → ∀ h, wfC C (h + (if lv = 1 ∨ lv = 3 then 1 else 0)) (h + dpt lv w) (h + 1)
section rnm
variable {C C1 C2 : List Nat} {h h' h1 h2 D D' x k a w lv e : Nat} {v v' : Nat → Int32} {st st0 st' : List Int32} {p q : Int32} {T V : Nat → Nat}
theorem rn_i (hx : x < 20000) : rnC (x :: C) v st = rnC C v (nI x :: st) := by
  show (if x < 20000 then _ else _) = _
  rw [if_pos hx]
theorem rn_v (hx : 30000 ≤ x) : rnC (x :: C) v st = rnC C v (v (x - 30000) :: st) := by
  show (if x < 20000 then _ else if 30000 ≤ x then _ else _) = _
  rw [if_neg (by omega), if_pos hx]
theorem rn_o (h1 : 20000 ≤ x) (h2 : x < 30000) : rnC (x :: C) v (q :: p :: st) = if x = 20047 ∧ q = nI 0 then none else rnC C v (jn x p q :: st) := by
  show (if x < 20000 then _ else if 30000 ≤ x then _ else _) = _
  rw [if_neg (by omega), if_neg (by omega)]
theorem wfC_app (a : wfC C1 h D h1) (b : wfC C2 h1 D h2) : wfC (C1 ++ C2) h D h2 := by
  induction C1 generalizing h with
  | nil => have e : h = h1 := a; rw [e]; exact b
  | cons x C ih =>
    rcases a with ⟨a1, a2, a3⟩ | ⟨a1, a2, a3⟩
    · exact .inl ⟨a1, a2, ih a3⟩
    · exact .inr ⟨a1, a2, ih a3⟩
theorem wfC_mono (a : wfC C h D h') (hD : D ≤ D') : wfC C h D' h' := by
  induction C generalizing h with
  | nil => exact a
  | cons x C ih =>
    rcases a with ⟨a1, a2, a3⟩ | ⟨a1, a2, a3⟩
    · exact .inl ⟨a1, by omega, ih a3⟩
    · exact .inr ⟨a1, a2, ih a3⟩
theorem st_2 (h : 2 ≤ st.length) : ∃ q p st', st = q :: p :: st' := by
  match st, h with
  | [], h => exact absurd h (by show ¬ 2 ≤ 0; omega)
  | [_], h => exact absurd h (by show ¬ 2 ≤ 1; omega)
  | q :: p :: st', _ => exact ⟨q, p, st', rfl⟩
theorem rnC_fr (a : wfC C st.length D h') : rnC C v (st ++ st0) = (rnC C v st).map (· ++ st0) := by
  induction C generalizing st with
  | nil => rfl
  | cons x C ih =>
    rcases a with ⟨a1, a2, a3⟩ | ⟨a1, a2, a3⟩
    · rcases a1 with a1 | a1
      · rw [rn_i a1, rn_i a1]; exact ih (st := nI x :: st) a3
      · rw [rn_v a1.1, rn_v a1.1]; exact ih (st := v (x - 30000) :: st) a3
    · obtain ⟨q, p, st', rfl⟩ := st_2 a2
      rw [List.cons_append, List.cons_append, rn_o (by omega) (by omega), rn_o (by omega) (by omega)]
      by_cases e : x = 20047 ∧ q = nI 0
      · rw [if_pos e, if_pos e]; rfl
      · rw [if_neg e, if_neg e]; exact ih (st := jn x p q :: st') a3
theorem rnC_len (a : wfC C st.length D h') (g : rnC C v st = some st') : st'.length = h' := by
  induction C generalizing st with
  | nil => have g : some st = some st' := g; rw [← Option.some.inj g]; exact a
  | cons x C ih =>
    rcases a with ⟨a1, a2, a3⟩ | ⟨a1, a2, a3⟩
    · rcases a1 with a1 | a1
      · rw [rn_i a1] at g; exact ih (st := nI x :: st) a3 g
      · rw [rn_v a1.1] at g; exact ih (st := v (x - 30000) :: st) a3 g
    · obtain ⟨q, p, st', rfl⟩ := st_2 a2
      rw [rn_o (by omega) (by omega)] at g
      by_cases e : x = 20047 ∧ q = nI 0
      · rw [if_pos e] at g; exact absurd g (fun h => by injection h)
      · rw [if_neg e] at g; exact ih (st := jn x p q :: st') a3 g
theorem rnC_cg (hv : ∀ j, j < 9 → v j = v' j) (a : wfC C h D h') : rnC C v st = rnC C v' st := by
  induction C generalizing st h with
  | nil => rfl
  | cons x C ih =>
    rcases a with ⟨a1, a2, a3⟩ | ⟨a1, a2, a3⟩
    · rcases a1 with a1 | a1
      · rw [rn_i a1, rn_i a1]; exact ih a3
      · rw [rn_v a1.1, rn_v a1.1, hv _ (by omega)]; exact ih a3
    · match st with
      | [] => show (if x < 20000 then _ else if 30000 ≤ x then _ else _) = (if x < 20000 then _ else if 30000 ≤ x then _ else _); rw [if_neg (by omega), if_neg (by omega), if_neg (by omega), if_neg (by omega)]
      | [_] => show (if x < 20000 then _ else if 30000 ≤ x then _ else _) = (if x < 20000 then _ else if 30000 ≤ x then _ else _); rw [if_neg (by omega), if_neg (by omega), if_neg (by omega), if_neg (by omega)]
      | q :: p :: st' =>
        rw [rn_o (by omega) (by omega), rn_o (by omega) (by omega)]
        by_cases e : x = 20047 ∧ q = nI 0
        · rw [if_pos e, if_pos e]
        · rw [if_neg e, if_neg e]; exact ih a3
theorem vl_st (g : gdC C) : rnC C v st = (vl C v).map (· :: st) := by
  have h := rnC_fr (v := v) (st := []) (st0 := st) (g 0)
  rw [List.nil_append] at h
  rw [h]
  unfold vl
  cases e : rnC C v [] with
  | none => rfl
  | some st' =>
    have l := rnC_len (st := []) (g 0) e
    match st', l with
    | [y], _ => rfl
    | [], l => exact absurd l (by show ¬ 0 = 0 + 1; omega)
    | _ :: _ :: st2, l => exact absurd l (by show ¬ st2.length + 1 + 1 = 0 + 1; omega)
theorem vl_cg (hv : ∀ j, j < 9 → v j = v' j) (g : gdC C) : vl C v = vl C v' := by
  unfold vl; rw [rnC_cg hv (g 0)]
theorem w_cl (hV : ∀ k, T k = 3 → V k < 20000) : eCl T V wR := by
  have nO : ∀ {lv : Nat}, lv ≠ 1 → lv ≠ 3 → ¬ (lv = 1 ∨ lv = 3) := fun a b => by omega
  refine ⟨?_, ?_, ?_, ?_, ?_, ?_, ?_, ?_, ?_, ?_, ?_, ?_⟩
  · exact fun w k _ _ h => absurd h (by omega)
  · exact fun w k e a _ _ _ h h' => absurd h' h
  · exact fun w k a e a' c _ _ _ _ h h' => absurd h' h
  · intro w k a a' c e a'' h1 h2 h3 h4 h5 _ hw h
    have g := h4 rfl (by omega) h
    rw [if_neg (nO (by omega) (by omega))] at g ⊢
    refine wfC_mono g ?_
    unfold dpt; rw [if_neg (by omega), if_neg (by omega), if_pos rfl]; omega
  · intro w k e a h1 h2 h3 h4 _ hw h
    rw [if_neg (nO (by omega) (by omega))]
    exact .inl ⟨.inr ⟨by omega, by omega⟩, by unfold dpt; omega, rfl⟩
  · intro w k e a h1 h2 h3 e0 hw h
    subst e0
    rw [if_neg (nO (by omega) (by omega))]
    exact .inl ⟨.inl (hV k (tkE_0 h3).1), by unfold dpt; omega, rfl⟩
  · intro r w k hr _ _ hw h
    rw [if_pos hr]
    exact rfl
  · exact fun r w k e a _ _ _ h h' => absurd h' h
  · exact fun r w k a e a' c _ _ _ _ h h' => absurd h' h
  · intro r w k a a' c e a'' c' hr ho h3 h4 h5 e0 hw h
    have g4 := h4 rfl hw (h + 1)
    have g5 := h5 e0 hw h
    rw [if_neg (nO (by omega) (by omega))] at g4
    rw [if_pos hr] at g5 ⊢
    have hd : h + 1 + dpt (r - 1) w ≤ h + dpt r w := by
      unfold dpt
      rcases hr with rfl | rfl
      · rw [if_pos (by omega), if_neg (by omega), if_pos (by omega)]; omega
      · rw [if_neg (by omega), if_pos (by omega), if_neg (by omega), if_neg (by omega)]; omega
    refine wfC_app (wfC_mono g4 hd) (.inr ⟨?_, by omega, ?_⟩)
    · unfold opS at ho
      rcases hr with rfl | rfl
      · rw [if_pos rfl] at ho; omega
      · rw [if_neg (by omega)] at ho; omega
    · rw [show h + 1 + 1 - 1 = h + 1 from by omega]; exact g5
  · exact fun r w k e a c _ _ h h' => absurd h' h
  · intro r w k a c e a' c' hr h2 h3 e0 hw h
    have g2 := h2 rfl hw h
    have g3 := h3 e0 hw h
    rw [if_neg (nO (by omega) (by omega))] at g2 ⊢
    rw [if_pos hr] at g3
    have hd : dpt (r - 1) w ≤ dpt (r + 1) w ∧ dpt r w ≤ dpt (r + 1) w := by
      unfold dpt
      rcases hr with rfl | rfl
      · rw [if_pos (by omega), if_neg (by omega), if_pos (by omega), if_neg (by omega), if_pos (by omega)]; omega
      · rw [if_neg (by omega), if_pos (by omega), if_neg (by omega), if_neg (by omega), if_neg (by omega), if_neg (by omega)]; omega
    exact wfC_app (wfC_mono g2 (by omega)) (wfC_mono g3 (by omega))
theorem eD_gd (hV : ∀ k, T k = 3 → V k < 20000) (hd : eD T V 4 0 k 0 a C) : gdC C := fun h => by
  have := hd wR (w_cl hV) rfl (by omega) h
  rw [if_neg (by omega)] at this
  exact this
/-- a program: branches (two that are held against each other, one that is told), and the last -/
abbrev Pg : Type := List (List Nat × List Nat × List Nat)
def evP : Pg → List Nat → (Nat → Int32) → Int32
  | [], D, v => (vl D v).getD (nI 0)
  | b :: bs, D, v => match vl b.1 v, vl b.2.1 v with
    | some x, some y => if x < y then (vl b.2.2 v).getD (nI 0) else evP bs D v
    | _, _ => nI 0
def gdP : Pg → List Nat → Prop
  | [], D => gdC D
  | b :: bs, D => gdC b.1 ∧ gdC b.2.1 ∧ gdC b.2.2 ∧ gdP bs D
theorem evP_cg {bs : Pg} (hv : ∀ j, j < 9 → v j = v' j) (g : gdP bs C) : evP bs C v = evP bs C v' := by
  induction bs with
  | nil => show (vl C v).getD _ = (vl C v').getD _; rw [vl_cg hv g]
  | cons b bs ih =>
    obtain ⟨g1, g2, g3, g4⟩ := g
    unfold evP
    rw [vl_cg hv g1, vl_cg hv g2, vl_cg hv g3, ih g4]
end rnm
