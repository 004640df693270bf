/-! the String constant of Tokens: what lies outside, and that calls keep it -/
def st_tx : String := "letter word picker blows takes pays wind rain seed if then else sign across down hour lain hat has here which "
def st_by : List Int32 := [108, 101, 116, 116, 101, 114, 32, 119, 111, 114, 100, 32, 112, 105, 99, 107, 101, 114, 32, 98, 108, 111, 119, 115, 32, 116, 97, 107, 101, 115, 32, 112, 97, 121, 115, 32, 119, 105, 110, 100, 32, 114, 97, 105, 110, 32, 115, 101, 101, 100, 32, 105, 102, 32, 116, 104, 101, 110, 32, 101, 108, 115, 101, 32, 115, 105, 103, 110, 32, 97, 99, 114, 111, 115, 115, 32, 100, 111, 119, 110, 32, 104, 111, 117, 114, 32, 108, 97, 105, 110, 32, 104, 97, 116, 32, 104, 97, 115, 32, 104, 101, 114, 101, 32, 119, 104, 105, 99, 104, 32]
def ab_str (A : Nat → Prop) (sa sb : Nat) (sc : Option Nat) (U : State) : Prop := vk_S 1 [110] [st_by] (fun _ => sa) (fun _ => sb) A U U.heap ∧ vk_R "ConfettiRound$Tokens" 25 st_tx sa U ∧ va_Z "java/lang/String" "COMPACT_STRINGS" "Z" (.int 1) A U U.heap ∧ va_Z "jdk/internal/util/Preconditions" "SIOOBE_FORMATTER" "Ljava/util/function/BiFunction;" (va_rf sc) A U U.heap
theorem ab_str_same {A : Nat → Prop} {sa sb : Nat} {sc : Option Nat} {u U : State} (hv : U.vm = u.vm) (hh : U.heap = u.heap) (h : ab_str A sa sb sc u) : ab_str A sa sb sc U := by
  have ha : u.vm.Alike U.vm := by rw [hv]; exact Vm.Alike.refl u.vm
  refine ⟨?_, h.2.1.same hv, ?_, ?_⟩
  · rw [hh]; exact vk_S.moved ha h.1
  · rw [hh]; exact va_Z.moved ha h.2.2.1
  · rw [hh]; exact va_Z.moved ha h.2.2.2
theorem ab_str_call {A : Nat → Prop} {sa sb : Nat} {sc : Option Nat} {s U : State} (hW : s.WarmedH U.vm) (hk : ∀ q : Nat, q < s.heap.size → ¬ A q → U.heap[q]? = s.heap[q]?) (h : ab_str A sa sb sc s) : ab_str A sa sb sc U :=
  ⟨vk_S.moved hW.alike (h.1.kept hk), h.2.1.warm hW, va_Z.moved hW.alike (h.2.2.1.kept hk), va_Z.moved hW.alike (h.2.2.2.kept hk)⟩
/-- the launch; the first address that is ours; classes' numbers and slots; array classes; the script: its address, length, ints; the String constant's address, its byte row's -/
abbrev ab_G : Type := Launch × Nat × va_G × (Nat → ClassId) × Nat × Nat × (Nat → Int32) × Nat × Nat × Option Nat
abbrev ab_A (G : ab_G) : Nat → Prop := fun q => G.2.1 ≤ q
/-- a value: references count from our first address; two that lie outside have names -/
def ab_v (G : ab_G) : Value → Value
  | .ref a => .ref (G.2.1 + a)
  | .retAddr 0 => .ref G.2.2.2.2.1
  | .retAddr 1 => .ref G.2.2.2.2.2.2.2.1
  | .retAddr 2 => .ref G.2.2.2.2.2.2.2.2.1
  | .retAddr (_ + 3) => va_rf G.2.2.2.2.2.2.2.2.2
  | .int x => .int x
  | .long x => .long x
  | .float x => .float x
  | .double x => .double x
  | .null => .null
theorem ab_v_cat (G : ab_G) (v : Value) : (ab_v G v).category = v.category := by
  cases v with
  | retAddr k =>
    match k with
    | 0 => rfl
    | 1 => rfl
    | 2 => rfl
    | _ + 3 =>
      show (va_rf G.2.2.2.2.2.2.2.2.2).category = 1
      cases G.2.2.2.2.2.2.2.2.2 <;> rfl
  | _ => rfl
theorem ab_v_rf (G : ab_G) (r : Option Nat) : va_rf (r.map (G.2.1 + ·)) = ab_v G (va_rf r) := by cases r <;> rfl
def ab_la (G : ab_G) (w : vp_A) : vp_A := (w.1, match w.2 with
  | .inl f => .inl f
  | .inr (.inl f) => .inr (.inl f)
  | .inr (.inr (.inl f)) => .inr (.inr (.inl f))
  | .inr (.inr (.inr (.inl f))) => .inr (.inr (.inr (.inl f)))
  | .inr (.inr (.inr (.inr f))) => .inr (.inr (.inr (.inr fun j => (f j).map (G.2.1 + ·)))))
def ab_le (G : ab_G) : ab_E → va_E
  | .inl a => .inl (G.2.2.2.1 a.1, ab_la G a.2)
  | .inr o => .inr (o.1, o.2.map (ab_v G))
def ab_tys (dA : Nat → ClassId) : List (ClassId × FieldType) := [(dA 0, .int), (dA 1, .long), (dA 2, .byte), (dA 3, .boolean), (dA 4, .object "ConfettiRound$Yard")]
/-- the heap holds the abstract one -/
def ab_w (G : ab_G) (h : ab_H) (H : Heap) : Prop := H.size = G.2.1 + h.2 ∧ ∀ a e, h.1 a = some e → va_at G.2.2.1 vwCl (G.2.1 + a, ab_le G e) H
/-- what holds of the machine's tables, and of what lies outside -/
def ab_K (G : ab_G) (U : State) : Prop := va_K G.2.2.1 vwCl (ab_tys G.2.2.2.1) U ∧ (∀ w ∈ ab_nest, va_Nw w U) ∧ va_AO "ConfettiRound$Yard" U ∧ va_X G.2.2.2.2.1 G.2.2.2.2.2.1 G.2.2.2.2.2.2.1 U U.heap ∧ G.2.2.2.2.1 < G.2.1 ∧ ab_str (ab_A G) G.2.2.2.2.2.2.2.1 G.2.2.2.2.2.2.2.2.1 G.2.2.2.2.2.2.2.2.2 U
def ab_F (G : ab_G) (d : Nat) (M : ab_M) (p : Program) (R : Room) (s : State) (m : MethodId) (args : Array Value) (meth : Method) (c : Code) : Prop :=
  p.tables.exec = Jvm.exec ∧ c.code = M.2.1 ∧ c.maxLocals = M.2.2.1 ∧ s.vm.findClass M.1.cls = some m.cls ∧ meth.name = M.1.name ∧ meth.sig.returnType = M.2.2.2.1 ∧ meth.locks = false ∧ (∀ w ∈ ab_tbl, w.before args s = true) ∧ ab_K G s ∧ G.2.1 ≤ s.heap.size ∧ d + 1 ≤ R.frames ∧ 60 * (d + 1) ≤ R.locals
def ab_ri : Option Value → Instr
  | some (.int _) => .ireturn
  | some (.long _) => .lreturn
  | _ => .return_
def ab_rk (ret : Option FieldType) (r : Option Value) : Prop := match r with
  | some (.int v) => ∃ ty, ret = some ty ∧ narrow ty (.int v) = .int v
  | some (.long _) => ret = some .long
  | none => ret = none
  | _ => False
def ab_l0 (n : Nat) (L : List (Option Value)) (ls : Array Slot) : Prop := ls.size = n ∧ lv_wf ls ∧ ∀ (i : Nat) (v : Value), L[i]? = some (some v) → ls[i]? = some (.val v)
def ab_lm (G : ab_G) (L : List (Option Value)) : List (Option Value) := L.map (Option.map (ab_v G))
def ab_l (G : ab_G) (n : Nat) (L : List (Option Value)) (ls : Array Slot) : Prop := ab_l0 n (ab_lm G L) ls
def ab_C (G : ab_G) (d kc ks : Nat) (M : ab_M) (pc : Nat) (L : List (Option Value)) (st : List Value) (h : ab_H) (Q : Option Value → ab_H → Prop) : Prop :=
  ab_okT M → ∀ (p : Program) (e : Env) (R : Room) (s : State) (m : MethodId) (args : Array Value) (below : List Frame) (meth : Method) (c : Code) (Z : State → Prop), ab_F G d M p R s m args meth c →
   (∀ (r : Option Value) (h' : ab_H) (H' : Heap) (locs' : List Loc) (cells' slots' pc' : Nat) (ls' : Array Slot), Q r h' → ab_w G h' H' → va_S (ab_A G) s.heap H' locs' → cells' ≤ R.cells → slots' ≤ R.slots → decode M.2.1 pc' = .ok (ab_ri r, 1) → ab_rk M.2.2.2.1 r → W p G.1 e R s m args below meth c H' locs' cells' slots' Z (F0 m pc' ls' r.toList)) →
   ∀ (H : Heap) (locs : List Loc) (cells slots : Nat) (ls : Array Slot), ab_w G h H → va_S (ab_A G) s.heap H locs → cells + kc ≤ R.cells → slots + ks ≤ R.slots → ab_l G M.2.2.1 L ls → W p G.1 e R s m args below meth c H locs cells slots Z (F0 m pc ls (st.map (ab_v G)))
/-! the world -/
theorem ab_at_kept {D : va_G} {cl : List vw_C} {q : Nat × va_E} {H H1 : Heap} (h : va_at D cl q H) (e : H1[q.1]? = H[q.1]?) : va_at D cl q H1 := by
  obtain ⟨a, x⟩ := q
  cases x with
  | inl w => exact e.trans h
  | inr o =>
    obtain ⟨r, h1, h2⟩ := h
    exact ⟨r, h1, h2.kept e⟩
theorem ab_one {D : va_G} {cl : List vw_C} {q : Nat × va_E} {H : Heap} (h : va_at D cl q H) : va_P D cl [q] H := by
  intro k x hx
  cases k with
  | zero => cases hx; exact h
  | succ k => cases hx
theorem ab_wr {G : ab_G} {h : ab_H} {H H1 : Heap} {a : Nat} {e1 : ab_E} (hw : ab_w G h H) (h1 : va_at G.2.2.1 vwCl (G.2.1 + a, ab_le G e1) H1) (z : H1.size = H.size) (o : ∀ q : Nat, q ≠ G.2.1 + a → H1[q]? = H[q]?) : ab_w G (ab_u h a e1) H1 := by
  refine ⟨z.trans hw.1, fun q e2 hq => ?_⟩
  by_cases hqa : q = a
  · subst hqa
    have : e1 = e2 := by simpa [ab_u] using hq
    subst this
    exact h1
  · have hq' : h.1 q = some e2 := by simpa [ab_u, hqa] using hq
    exact ab_at_kept (hw.2 q e2 hq') (o _ (by show G.2.1 + q ≠ G.2.1 + a; omega))
theorem ab_wn {G : ab_G} {h : ab_H} {H H1 : Heap} {e1 : ab_E} (hw : ab_w G h H) (h1 : va_at G.2.2.1 vwCl (H.size, ab_le G e1) H1) (z : H1.size = H.size + 1) (o : ∀ q : Nat, q < H.size → H1[q]? = H[q]?) : ab_w G (ab_n h e1) H1 := by
  refine ⟨by rw [z, hw.1]; exact Nat.add_assoc _ _ _, fun q e2 hq => ?_⟩
  by_cases hqa : q = h.2
  · subst hqa
    have : e1 = e2 := by simpa [ab_n] using hq
    subst this
    rw [← hw.1]
    exact h1
  · have hq' : h.1 q = some e2 := by simpa [ab_n, hqa] using hq
    have h2 := hw.2 q e2 hq'
    exact ab_at_kept h2 (o _ h2.lt)
theorem ab_hA {G : ab_G} {a : Nat} : ab_A G (G.2.1 + a) := Nat.le_add_right _ _
theorem ab_ss_i (c : ClassId) (z : Nat) (f : Nat → Int32) (k : Nat) (w : Int32) : (vp_cell c (z, .inl f)).setSlot k (.int w) = vp_cell c (z, .inl (upd f k w)) := by
  rw [vp_cell_i, vp_cell_i, arrV_store]
  congr 1
  funext q
  by_cases hq : q = k <;> simp [updV, upd, hq]
theorem ab_ss_l (c : ClassId) (z : Nat) (f : Nat → Int64) (k : Nat) (w : Int64) : (vp_cell c (z, .inr (.inl f))).setSlot k (.long w) = vp_cell c (z, .inr (.inl (vp_updL f k w))) := by
  rw [vp_cell_l, vp_cell_l, arrV_store]
  congr 1
  funext q
  by_cases hq : q = k <;> simp [updV, vp_updL, hq]
theorem ab_ss_q (G : ab_G) (c : ClassId) (z : Nat) (f : Nat → Option Nat) (k w : Nat) : (vp_cell c (z, .inr (.inr (.inr (.inr fun j => (f j).map (G.2.1 + ·)))))).setSlot k (.ref (G.2.1 + w)) = vp_cell c (z, .inr (.inr (.inr (.inr fun j => ((va_up f k (some w)) j).map (G.2.1 + ·))))) := by
  rw [vp_cell_q, vp_cell_q, arrV_store]
  congr 1
  funext q
  by_cases hq : q = k <;> simp [updV, va_up, va_rf, hq]
/-! locals -/
def ab_ll (L : List (Option Value)) : List (Nat × Value) := (List.range L.length).filterMap fun i => match L[i]? with
  | some (some v) => some (i, v)
  | _ => none
theorem ab_ll_mem {L : List (Option Value)} {i : Nat} {v : Value} : (i, v) ∈ ab_ll L ↔ L[i]? = some (some v) := by
  unfold ab_ll
  rw [List.mem_filterMap]
  constructor
  · rintro ⟨j, -, hj⟩
    split at hj
    · next w hw => cases hj; exact hw
    · cases hj
  · intro hi
    exact ⟨i, List.mem_range.mpr (List.getElem?_eq_some_iff.mp hi).1, by rw [hi]⟩
theorem ab_l_has {n : Nat} {L : List (Option Value)} {ls : Array Slot} (h : ab_l0 n L ls) : lv_has ls n (ab_ll L) := ⟨h.1, h.2.1, fun q hq => h.2.2 q.1 q.2 (ab_ll_mem.mp hq)⟩
theorem ab_l_of {n : Nat} {L : List (Option Value)} {ls : Array Slot} {l : List (Nat × Value)} (h : lv_has ls n l) (hL : ∀ (i : Nat) (v : Value), L[i]? = some (some v) → (i, v) ∈ l) : ab_l0 n L ls := ⟨h.1, h.2.1, fun i v hi => h.2.2 (i, v) (hL i v hi)⟩
/-- a value of one word is stored: what a long had there is gone -/
def ab_kill : Option Value → Option Value
  | some v => if v.category = 2 then none else some v
  | none => none
def ab_s1 : List (Option Value) → Nat → Value → List (Option Value)
  | [], _, _ => []
  | _ :: l, 0, v => some v :: l
  | o :: l, n + 1, v => (if n = 0 then ab_kill o else o) :: ab_s1 l n v
def ab_s2 : List (Option Value) → Nat → Value → List (Option Value)
  | [], _, _ => []
  | _ :: l, 0, v => some v :: (match l with
    | [] => []
    | _ :: l' => none :: l')
  | o :: l, n + 1, v => (if n = 0 then ab_kill o else o) :: ab_s2 l n v
theorem ab_kill_some {o : Option Value} {w : Value} (h : ab_kill o = some w) : o = some w ∧ ¬ w.category = 2 := by
  cases o with
  | none => cases h
  | some v =>
    unfold ab_kill at h
    by_cases hc : v.category = 2
    · simp [hc] at h
    · simp [hc] at h
      subst h
      exact ⟨rfl, hc⟩
theorem ab_s1_get : ∀ (L : List (Option Value)) (i : Nat) (v : Value) (j : Nat) (w : Value), (ab_s1 L i v)[j]? = some (some w) → (j = i ∧ w = v) ∨ (j ≠ i ∧ L[j]? = some (some w) ∧ ¬ (j + 1 = i ∧ w.category = 2))
  | [], _, _, _, _, h => by simp [ab_s1] at h
  | o :: l, 0, v, 0, w, h => by simp [ab_s1] at h; exact Or.inl ⟨rfl, h.symm⟩
  | o :: l, 0, v, j + 1, w, h => by
    simp [ab_s1] at h
    exact Or.inr ⟨by omega, by simpa using h, by omega⟩
  | o :: l, n + 1, v, 0, w, h => by
    refine Or.inr ⟨by omega, ?_⟩
    simp only [ab_s1, List.getElem?_cons_zero, Option.some.injEq] at h
    by_cases hn : n = 0
    · rw [if_pos hn] at h
      obtain ⟨h1, h2⟩ := ab_kill_some h
      exact ⟨by simp [h1], fun q => h2 q.2⟩
    · rw [if_neg hn] at h
      exact ⟨by simp [h], fun q => by omega⟩
  | o :: l, n + 1, v, j + 1, w, h => by
    simp only [ab_s1, List.getElem?_cons_succ] at h
    rcases ab_s1_get l n v j w h with ⟨h1, h2⟩ | ⟨h1, h2, h3⟩
    · exact Or.inl ⟨by omega, h2⟩
    · exact Or.inr ⟨by omega, by simpa using h2, fun q => h3 ⟨by omega, q.2⟩⟩
theorem ab_s2_get : ∀ (L : List (Option Value)) (i : Nat) (v : Value) (j : Nat) (w : Value), (ab_s2 L i v)[j]? = some (some w) → (j = i ∧ w = v) ∨ (j ≠ i ∧ j ≠ i + 1 ∧ L[j]? = some (some w) ∧ ¬ (j + 1 = i ∧ w.category = 2))
  | [], _, _, _, _, h => by simp [ab_s2] at h
  | o :: l, 0, v, 0, w, h => by simp [ab_s2] at h; exact Or.inl ⟨rfl, h.symm⟩
  | o :: [], 0, v, j + 1, w, h => by simp [ab_s2] at h
  | o :: o2 :: l, 0, v, 1, w, h => by simp [ab_s2] at h
  | o :: o2 :: l, 0, v, j + 2, w, h => by
    simp [ab_s2] at h
    exact Or.inr ⟨by omega, by omega, by simpa using h, by omega⟩
  | o :: l, n + 1, v, 0, w, h => by
    refine Or.inr ⟨by omega, by omega, ?_⟩
    simp only [ab_s2, List.getElem?_cons_zero, Option.some.injEq] at h
    by_cases hn : n = 0
    · rw [if_pos hn] at h
      obtain ⟨h1, h2⟩ := ab_kill_some h
      exact ⟨by simp [h1], fun q => h2 q.2⟩
    · rw [if_neg hn] at h
      exact ⟨by simp [h], fun q => by omega⟩
  | o :: l, n + 1, v, j + 1, w, h => by
    simp only [ab_s2, List.getElem?_cons_succ] at h
    rcases ab_s2_get l n v j w h with ⟨h1, h2⟩ | ⟨h1, h2, h3, h4⟩
    · exact Or.inl ⟨by omega, h2⟩
    · exact Or.inr ⟨by omega, by omega, by simpa using h3, fun q => h4 ⟨by omega, q.2⟩⟩
theorem ab_l_s1 {n i : Nat} {L : List (Option Value)} {v : Value} {ls : Array Slot} (h : lv_has ls n ((i, v) :: (ab_ll L).filter (fun q => !(q.1 == i) && !(q.1 + 1 == i && q.2.category == 2)))) : ab_l0 n (ab_s1 L i v) ls := by
  refine ab_l_of h fun j w hj => ?_
  rcases ab_s1_get L i v j w hj with ⟨h1, h2⟩ | ⟨h1, h2, h3⟩
  · subst h1; subst h2; exact List.mem_cons_self
  · refine List.mem_cons_of_mem _ (List.mem_filter.mpr ⟨ab_ll_mem.mpr h2, ?_⟩)
    simp only [Bool.and_eq_true, Bool.not_eq_true', beq_eq_false_iff_ne, Bool.and_eq_false_iff]
    refine ⟨h1, ?_⟩
    by_cases hq : j + 1 = i
    · exact Or.inr fun q => h3 ⟨hq, q⟩
    · exact Or.inl hq
theorem ab_l_s2 {n i : Nat} {L : List (Option Value)} {v : Value} {ls : Array Slot} (h : lv_has ls n ((i, v) :: (ab_ll L).filter (fun q => !(q.1 == i) && (!(q.1 == i + 1) && !(q.1 + 1 == i && q.2.category == 2))))) : ab_l0 n (ab_s2 L i v) ls := by
  refine ab_l_of h fun j w hj => ?_
  rcases ab_s2_get L i v j w hj with ⟨h1, h2⟩ | ⟨h1, h2, h3, h4⟩
  · subst h1; subst h2; exact List.mem_cons_self
  · refine List.mem_cons_of_mem _ (List.mem_filter.mpr ⟨ab_ll_mem.mpr h3, ?_⟩)
    simp only [Bool.and_eq_true, Bool.not_eq_true', beq_eq_false_iff_ne, Bool.and_eq_false_iff]
    refine ⟨h1, h2, ?_⟩
    by_cases hq : j + 1 = i
    · exact Or.inr fun q => h4 ⟨hq, q⟩
    · exact Or.inl hq
/-- fewer locals are known -/
def ab_wk : List (Option Value) → List (Option Value) → Prop
  | [], _ => True
  | none :: l, [] => ab_wk l []
  | none :: l, _ :: l' => ab_wk l l'
  | some _ :: _, [] => False
  | some v :: l, o :: l' => o = some v ∧ ab_wk l l'
theorem ab_wk_get : ∀ (L L' : List (Option Value)), ab_wk L L' → ∀ (i : Nat) (v : Value), L[i]? = some (some v) → L'[i]? = some (some v)
  | [], _, _, i, v, h => by simp at h
  | none :: l, [], hw, 0, v, h => by simp at h
  | none :: l, [], hw, i + 1, v, h => by
    have := ab_wk_get l [] hw i v (by simpa using h)
    simp at this
  | none :: l, _ :: l', hw, 0, v, h => by simp at h
  | none :: l, _ :: l', hw, i + 1, v, h => by simpa using ab_wk_get l l' hw i v (by simpa using h)
  | some _ :: _, [], hw, _, _, _ => hw.elim
  | some x :: l, o :: l', hw, 0, v, h => by
    simp at h
    subst h
    simp [hw.1]
  | some x :: l, o :: l', hw, i + 1, v, h => by simpa using ab_wk_get l l' hw.2 i v (by simpa using h)
theorem ab_kill_map (G : ab_G) (o : Option Value) : ab_kill (o.map (ab_v G)) = (ab_kill o).map (ab_v G) := by
  cases o with
  | none => rfl
  | some v =>
    show (if (ab_v G v).category = 2 then none else some (ab_v G v)) = Option.map (ab_v G) (if v.category = 2 then none else some v)
    rw [ab_v_cat]
    by_cases h : v.category = 2 <;> simp [h]
theorem ab_s1_map (G : ab_G) : ∀ (L : List (Option Value)) (i : Nat) (v : Value), ab_s1 (ab_lm G L) i (ab_v G v) = ab_lm G (ab_s1 L i v)
  | [], _, _ => rfl
  | _ :: _, 0, _ => rfl
  | o :: l, n + 1, v => by
    show (if n = 0 then ab_kill (o.map (ab_v G)) else o.map (ab_v G)) :: ab_s1 (ab_lm G l) n (ab_v G v) = ((if n = 0 then ab_kill o else o) :: ab_s1 l n v).map (Option.map (ab_v G))
    rw [ab_s1_map G l n v, ab_kill_map, List.map_cons]
    by_cases h : n = 0 <;> simp [h, ab_lm]
theorem ab_s2_map (G : ab_G) : ∀ (L : List (Option Value)) (i : Nat) (v : Value), ab_s2 (ab_lm G L) i (ab_v G v) = ab_lm G (ab_s2 L i v)
  | [], _, _ => rfl
  | [_], 0, _ => rfl
  | _ :: _ :: _, 0, _ => rfl
  | o :: l, n + 1, v => by
    show (if n = 0 then ab_kill (o.map (ab_v G)) else o.map (ab_v G)) :: ab_s2 (ab_lm G l) n (ab_v G v) = ((if n = 0 then ab_kill o else o) :: ab_s2 l n v).map (Option.map (ab_v G))
    rw [ab_s2_map G l n v, ab_kill_map, List.map_cons]
    by_cases h : n = 0 <;> simp [h, ab_lm]
theorem ab_lm_get {G : ab_G} {L : List (Option Value)} {i : Nat} {v : Value} (h : L[i]? = some (some v)) : (ab_lm G L)[i]? = some (some (ab_v G v)) := by
  simp [ab_lm, h]
theorem ab_lm_put1 {G : ab_G} {n i : Nat} {L L1 : List (Option Value)} {v : Value} {ls : Array Slot} (hL : ab_s1 L i v = L1) (h : lv_has ls n ((i, ab_v G v) :: (ab_ll (ab_lm G L)).filter (fun q => !(q.1 == i) && !(q.1 + 1 == i && q.2.category == 2)))) : ab_l G n L1 ls := by
  have h1 := ab_l_s1 h
  rw [ab_s1_map, hL] at h1
  exact h1
theorem ab_lm_put2 {G : ab_G} {n i : Nat} {L L1 : List (Option Value)} {v : Value} {ls : Array Slot} (hL : ab_s2 L i v = L1) (h : lv_has ls n ((i, ab_v G v) :: (ab_ll (ab_lm G L)).filter (fun q => !(q.1 == i) && (!(q.1 == i + 1) && !(q.1 + 1 == i && q.2.category == 2))))) : ab_l G n L1 ls := by
  have h1 := ab_l_s2 h
  rw [ab_s2_map, hL] at h1
  exact h1
theorem ab_lm_wk {G : ab_G} {n : Nat} {L L1 : List (Option Value)} {ls : Array Slot} (hw : ab_wk L1 L) (h : ab_l G n L ls) : ab_l G n L1 ls := by
  refine ⟨h.1, h.2.1, fun i v hi => ?_⟩
  have hm : ∃ v0, L1[i]? = some (some v0) ∧ ab_v G v0 = v := by
    unfold ab_lm at hi
    rw [List.getElem?_map] at hi
    cases h0 : L1[i]? with
    | none => rw [h0] at hi; cases hi
    | some o =>
      rw [h0] at hi
      cases o with
      | none => cases hi
      | some v0 => exact ⟨v0, rfl, Option.some.inj (Option.some.inj hi)⟩
  obtain ⟨v0, h0, rfl⟩ := hm
  exact h.2.2 i _ (ab_lm_get (ab_wk_get _ _ hw i v0 h0))
theorem ab_sum (G : ab_G) (st : List Value) : ((st.map (ab_v G)).map fun v => v.category).sum = (st.map fun v => v.category).sum := by
  rw [List.map_map]
  congr 1
  exact List.map_congr_left fun v _ => ab_v_cat G v
