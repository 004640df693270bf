/-! A small world over the machine: an abstract heap (address to cell), abstract frames, and 'ab_C': the machine, standing at a pc of a method in any frame, comes to its return with Q -/
/-- a cell: an array (its kind: 0 int, 1 long, 2 byte, 3 boolean, 4 Yard; length and contents), or an object (class number, fields) -/
abbrev ab_E : Type := (Nat × vp_A) ⊕ (Nat × List Value)
abbrev ab_H : Type := Nat → Option ab_E
def ab_u (h : ab_H) (a : Nat) (e : ab_E) : ab_H := fun q => if q = a then some e else h q
theorem ab_u_same (h : ab_H) (a : Nat) (e : ab_E) : ab_u h a e a = some e := by simp [ab_u]
theorem ab_u_ne (h : ab_H) {a q : Nat} (e : ab_E) (n : q ≠ a) : ab_u h a e q = h q := by simp [ab_u, n]
/-- an instruction in a table: itself, the next pc, two numbers (a jump's target; class and field; the kind of a link), a constant, a method's name -/
abbrev ab_O : Type := Instr × Nat × Nat × Nat × Value × MethodName
/-- a method: name, code, locals, what it returns, class number, parameters, table (rows of sixteen pcs) -/
abbrev ab_M : Type := MethodName × ByteArray × Nat × Option FieldType × Nat × Nat × List (List (Option ab_O))
def ab_op (M : ab_M) (pc : Nat) : Option ab_O := match M.2.2.2.2.2.2[pc / 16]? with
  | some r => (match r[pc % 16]? with
    | some o => o
    | none => none)
  | none => none
def ab_tbl : List Cond := lw_tbl.filter goodWord
def ab_isNest : Cond → Bool
  | .methodLinkNest _ _ _ _ => true
  | _ => false
def ab_nest : List Cond := lw_tbl.filter ab_isNest
def ab_len : Instr → Nat
  | .iload _ | .istore _ | .aload _ | .astore _ | .lload _ | .lstore _ | .bipush _ | .ldc _ | .newarray _ => 2
  | .sipush _ | .iinc _ _ | .goto _ | .ifCond _ _ | .if_icmp _ _ | .ifnonnull _ | .ifnull _ | .getfield _ | .putfield _ | .invokevirtual _ | .invokespecial _ | .invokestatic _ | .new _ | .anewarray _ | .ldc_w _ | .ldc2_w _ => 3
  | _ => 1
def ab_ty (c k : Nat) : FieldType := match vwCl[c]? with
  | some r => (parseFieldDescriptor (r.2.1 k).2.2.1).getD .int
  | none => .int
/-- the words that an instruction needs -/
def ab_need (own : String) (o : ab_O) : List Cond := match o.1 with
  | .getfield i | .putfield i => (match vwCl[o.2.2.1]? with
    | some r => [.fieldLink own i (r.2.1 o.2.2.2.1).1 (r.2.1 o.2.2.2.1).2.1 (r.2.1 o.2.2.2.1).2.2.1]
    | none => [.tt])
  | .new i => (match vwCl[o.2.2.1]? with
    | some r => [.classLink own i r.1, .instantiable r.1 r.2.2, .initialized r.1]
    | none => [])
  | .anewarray i => [.classLink own i "ConfettiRound$Yard"]
  | .newarray t => [.arrayClass (Op.newarray.typeOf t)]
  | .ldc i | .ldc_w i => (match o.2.2.2.2.1 with
    | .int v => [.constant own i v]
    | _ => [])
  | .ldc2_w i => (match o.2.2.2.2.1 with
    | .long v => [.constantLong own i v]
    | _ => [])
  | .invokevirtual i => [.methodLink own i o.2.2.2.2.2, .instanceMethod o.2.2.2.2.2, .selects o.2.2.2.2.2.cls o.2.2.2.2.2 o.2.2.2.2.2]
  | .invokespecial i => if o.2.2.1 = 1 then [.instanceMethod o.2.2.2.2.2] else [.methodLink own i o.2.2.2.2.2, .instanceMethod o.2.2.2.2.2]
  | .invokestatic i => if o.2.2.1 = 1 then [.static o.2.2.2.2.2] else [.methodLink own i o.2.2.2.2.2, .static o.2.2.2.2.2]
  | _ => []
/-- a nest mate's link -/
def ab_needN (own : String) (o : ab_O) : List Cond := match o.1 with
  | .invokespecial i | .invokestatic i => if o.2.2.1 = 1 then [.methodLinkNest own i o.2.2.2.2.2 "ConfettiRound"] else []
  | _ => []
def ab_jmp (pc : Nat) (o : ab_O) : Prop := match o.1 with
  | .goto off | .ifCond _ off | .if_icmp _ off | .ifnonnull off | .ifnull off => (pc : Int) + off = (o.2.2.1 : Int)
  | _ => True
def ab_fld (o : ab_O) : Prop := match o.1 with
  | .getfield _ | .putfield _ => ∃ r, vwCl[o.2.2.1]? = some r ∧ o.2.2.2.1 < r.2.2
  | _ => True
def ab_step (pc : Nat) (o : ab_O) : Prop := match o.1 with
  | .tableswitch _ _ _ _ | .lookupswitch _ _ => True
  | i => pc + ab_len i = o.2.1
def ab_okO (M : ab_M) (pc : Nat) (o : ab_O) : Prop :=
  decode M.2.1 pc = .ok (o.1, o.2.1 - pc) ∧ ab_step pc o ∧ ab_jmp pc o ∧ ab_fld o ∧ (∀ w ∈ ab_need M.1.cls o, w ∈ ab_tbl) ∧ (∀ w ∈ ab_needN M.1.cls o, w ∈ ab_nest)
/-- what the tables say of a method -/
def ab_okY (M : ab_M) : Prop := plainName M.1.cls = true ∧ Cond.code M.1 M.2.1 M.2.2.1 M.2.2.2.1 ∈ ab_tbl ∧ Cond.initialized M.1.cls ∈ ab_tbl ∧
  (M.1.cls ≠ "java/lang/invoke/MethodHandle" ∧ M.1.cls ≠ "java/lang/invoke/VarHandle" ∧ (parseMethodDescriptor M.1.desc).map (fun d => d.parameters.length) = some M.2.2.2.2.2.1) ∧ M.2.2.1 ≤ 30 ∧ (M.2.2.2.2.1 = 99 ∨ (vwCl[M.2.2.2.2.1]?).map (fun r => r.1) = some M.1.cls)
def ab_okT (M : ab_M) : Prop := ∀ pc o, ab_op M pc = some o → ab_okO M pc o
/-- the launch; the first address that is ours; classes' numbers and slots; array classes; the script -/
abbrev ab_G : Type := Launch × Nat × va_G × (Nat → ClassId) × Nat × Nat × (Nat → Int32)
abbrev ab_A (G : ab_G) : Nat → Prop := fun q => G.2.1 ≤ q
def ab_le (dA : Nat → ClassId) : ab_E → va_E
  | .inl a => .inl (dA a.1, a.2)
  | .inr o => .inr o
def ab_tys (dA : Nat → ClassId) : List (ClassId × FieldType) := [(dA 0, .int), (dA 1, .long), (dA 2, .byte), (dA 3, .boolean), (dA 4, .object "ConfettiRound$Yard")]
/-- the heap holds the abstract one -/
def ab_w (G : ab_G) (h : ab_H) (H : Heap) : Prop := ∃ ws : va_W, va_P G.2.2.1 vwCl ws H ∧ va_D (ab_A G) ws ∧ ∀ a e, h a = some e → ∃ k : Nat, ws[k]? = some (a, ab_le G.2.2.2.1 e)
/-- what holds of the machine's tables, and of what lies outside -/
def ab_K (G : ab_G) (U : State) : Prop := va_K G.2.2.1 vwCl (ab_tys G.2.2.2.1) U ∧ (∀ w ∈ ab_nest, va_Nw w U) ∧ va_AO "ConfettiRound$Yard" U
def ab_F (G : ab_G) (d : Nat) (M : ab_M) (p : Program) (R : Room) (s : State) (m : MethodId) (args : Array Value) (meth : Method) (c : Code) : Prop :=
  p.tables.exec = Jvm.exec ∧ c.code = M.2.1 ∧ c.maxLocals = M.2.2.1 ∧ s.vm.findClass M.1.cls = some m.cls ∧ meth.name = M.1.name ∧ meth.sig.returnType = M.2.2.2.1 ∧ meth.locks = false ∧ (∀ w ∈ ab_tbl, w.before args s = true) ∧ ab_K G s ∧ G.2.1 ≤ s.heap.size ∧ d + 1 ≤ R.frames ∧ 60 * (d + 1) ≤ R.locals
def ab_ri : Option Value → Instr
  | some (.int _) => .ireturn
  | some (.long _) => .lreturn
  | _ => .return_
def ab_rk (ret : Option FieldType) (r : Option Value) : Prop := match r with
  | some (.int v) => ∃ ty, ret = some ty ∧ narrow ty (.int v) = .int v
  | some (.long _) => ret = some .long
  | none => ret = none
  | _ => False
def ab_l (n : Nat) (L : List (Option Value)) (ls : Array Slot) : Prop := ls.size = n ∧ lv_wf ls ∧ ∀ (i : Nat) (v : Value), L[i]? = some (some v) → ls[i]? = some (.val v)
def ab_C (G : ab_G) (d kc ks : Nat) (M : ab_M) (pc : Nat) (L : List (Option Value)) (st : List Value) (h : ab_H) (Q : Option Value → ab_H → Prop) : Prop :=
  ab_okT M → ∀ (p : Program) (e : Env) (R : Room) (s : State) (m : MethodId) (args : Array Value) (below : List Frame) (meth : Method) (c : Code) (Z : State → Prop), ab_F G d M p R s m args meth c →
   (∀ (r : Option Value) (h' : ab_H) (H' : Heap) (locs' : List Loc) (cells' slots' pc' : Nat) (ls' : Array Slot), Q r h' → ab_w G h' H' → va_S (ab_A G) s.heap H' locs' → cells' ≤ R.cells → slots' ≤ R.slots → decode M.2.1 pc' = .ok (ab_ri r, 1) → ab_rk M.2.2.2.1 r → W p G.1 e R s m args below meth c H' locs' cells' slots' Z (F0 m pc' ls' r.toList)) →
   ∀ (H : Heap) (locs : List Loc) (cells slots : Nat) (ls : Array Slot), ab_w G h H → va_S (ab_A G) s.heap H locs → cells + kc ≤ R.cells → slots + ks ≤ R.slots → ab_l M.2.2.1 L ls → W p G.1 e R s m args below meth c H locs cells slots Z (F0 m pc ls st)
/-! the world -/
theorem ab_w_at {G : ab_G} {h : ab_H} {H : Heap} {a : Nat} {e : ab_E} (hw : ab_w G h H) (ha : h a = some e) : ∃ (ws : va_W) (k : Nat), va_P G.2.2.1 vwCl ws H ∧ va_D (ab_A G) ws ∧ (∀ a e, h a = some e → ∃ k : Nat, ws[k]? = some (a, ab_le G.2.2.2.1 e)) ∧ ws[k]? = some (a, ab_le G.2.2.2.1 e) := by
  obtain ⟨ws, h1, h2, h3⟩ := hw
  obtain ⟨k, hk⟩ := h3 a e ha
  exact ⟨ws, k, h1, h2, h3, hk⟩
theorem ab_w_set {G : ab_G} {h : ab_H} {H1 : Heap} {a k : Nat} {e e1 : ab_E} {ws : va_W} (hD : va_D (ab_A G) ws) (hh : ∀ a e, h a = some e → ∃ k : Nat, ws[k]? = some (a, ab_le G.2.2.2.1 e)) (hk : ws[k]? = some (a, ab_le G.2.2.2.1 e))
    (hP1 : va_P G.2.2.1 vwCl (ws.set k (a, ab_le G.2.2.2.1 e1)) H1) (hD1 : va_D (ab_A G) (ws.set k (a, ab_le G.2.2.2.1 e1))) : ab_w G (ab_u h a e1) H1 := by
  have hkl : k < ws.length := (List.getElem?_eq_some_iff.mp hk).1
  refine ⟨_, hP1, hD1, fun q e2 hq => ?_⟩
  unfold ab_u at hq
  by_cases hqa : q = a
  · rw [if_pos hqa] at hq
    cases hq
    subst hqa
    exact ⟨k, by rw [List.getElem?_set_self hkl]⟩
  · rw [if_neg hqa] at hq
    obtain ⟨j, hj⟩ := hh q e2 hq
    refine ⟨j, ?_⟩
    have hne : k ≠ j := by
      intro e
      subst e
      rw [hk] at hj
      exact hqa (congrArg Prod.fst (Option.some.inj hj)).symm
    rw [List.getElem?_set_ne hne]
    exact hj
theorem ab_w_new {G : ab_G} {h : ab_H} {H1 : Heap} {q : Nat} {e1 : ab_E} {ws : va_W} (hh : ∀ a e, h a = some e → ∃ k : Nat, ws[k]? = some (a, ab_le G.2.2.2.1 e))
    (hP1 : va_P G.2.2.1 vwCl (ws ++ [(q, ab_le G.2.2.2.1 e1)]) H1) (hD1 : va_D (ab_A G) (ws ++ [(q, ab_le G.2.2.2.1 e1)])) : h q = none ∧ ab_w G (ab_u h q e1) H1 := by
  have hn : h q = none := by
    cases hq : h q with
    | none => rfl
    | some e2 =>
      obtain ⟨j, hj⟩ := hh q e2 hq
      have hjl : j < ws.length := (List.getElem?_eq_some_iff.mp hj).1
      have h1 := hD1.1 j ws.length (q, ab_le G.2.2.2.1 e2) (q, ab_le G.2.2.2.1 e1) (by rw [List.getElem?_append_left hjl]; exact hj) (by simp) rfl
      omega
  refine ⟨hn, _, hP1, hD1, fun a e2 ha => ?_⟩
  unfold ab_u at ha
  by_cases hqa : a = q
  · rw [if_pos hqa] at ha
    cases ha
    subst hqa
    exact ⟨ws.length, by simp⟩
  · rw [if_neg hqa] at ha
    obtain ⟨j, hj⟩ := hh a e2 ha
    have hjl : j < ws.length := (List.getElem?_eq_some_iff.mp hj).1
    exact ⟨j, by rw [List.getElem?_append_left hjl]; exact hj⟩
theorem ab_w_mono {G : ab_G} {h h' : ab_H} {H : Heap} (hw : ab_w G h H) (hs : ∀ a e, h' a = some e → h a = some e) : ab_w G h' H := by
  obtain ⟨ws, h1, h2, h3⟩ := hw
  exact ⟨ws, h1, h2, fun a e ha => h3 a e (hs a e ha)⟩
/-! locals -/
def ab_ll (L : List (Option Value)) : List (Nat × Value) := (List.range L.length).filterMap fun i => match L[i]? with
  | some (some v) => some (i, v)
  | _ => none
theorem ab_ll_mem {L : List (Option Value)} {i : Nat} {v : Value} : (i, v) ∈ ab_ll L ↔ L[i]? = some (some v) := by
  unfold ab_ll
  rw [List.mem_filterMap]
  constructor
  · rintro ⟨j, -, hj⟩
    split at hj
    · next w hw => cases hj; exact hw
    · cases hj
  · intro hi
    exact ⟨i, List.mem_range.mpr (List.getElem?_eq_some_iff.mp hi).1, by rw [hi]⟩
theorem ab_l_has {n : Nat} {L : List (Option Value)} {ls : Array Slot} (h : ab_l n L ls) : lv_has ls n (ab_ll L) := ⟨h.1, h.2.1, fun q hq => h.2.2 q.1 q.2 (ab_ll_mem.mp hq)⟩
theorem ab_l_of {n : Nat} {L : List (Option Value)} {ls : Array Slot} {l : List (Nat × Value)} (h : lv_has ls n l) (hL : ∀ (i : Nat) (v : Value), L[i]? = some (some v) → (i, v) ∈ l) : ab_l n L ls := ⟨h.1, h.2.1, fun i v hi => h.2.2 (i, v) (hL i v hi)⟩
/-- a value of one word is stored: what a long had there is gone -/
def ab_kill : Option Value → Option Value
  | some v => if v.category = 2 then none else some v
  | none => none
def ab_s1 : List (Option Value) → Nat → Value → List (Option Value)
  | [], _, _ => []
  | _ :: l, 0, v => some v :: l
  | o :: l, n + 1, v => (if n = 0 then ab_kill o else o) :: ab_s1 l n v
def ab_s2 : List (Option Value) → Nat → Value → List (Option Value)
  | [], _, _ => []
  | _ :: l, 0, v => some v :: (match l with
    | [] => []
    | _ :: l' => none :: l')
  | o :: l, n + 1, v => (if n = 0 then ab_kill o else o) :: ab_s2 l n v
theorem ab_kill_some {o : Option Value} {w : Value} (h : ab_kill o = some w) : o = some w ∧ ¬ w.category = 2 := by
  cases o with
  | none => cases h
  | some v =>
    unfold ab_kill at h
    by_cases hc : v.category = 2
    · simp [hc] at h
    · simp [hc] at h
      subst h
      exact ⟨rfl, hc⟩
theorem ab_s1_get : ∀ (L : List (Option Value)) (i : Nat) (v : Value) (j : Nat) (w : Value), (ab_s1 L i v)[j]? = some (some w) → (j = i ∧ w = v) ∨ (j ≠ i ∧ L[j]? = some (some w) ∧ ¬ (j + 1 = i ∧ w.category = 2))
  | [], _, _, _, _, h => by simp [ab_s1] at h
  | o :: l, 0, v, 0, w, h => by simp [ab_s1] at h; exact Or.inl ⟨rfl, h.symm⟩
  | o :: l, 0, v, j + 1, w, h => by
    simp [ab_s1] at h
    exact Or.inr ⟨by omega, by simpa using h, by omega⟩
  | o :: l, n + 1, v, 0, w, h => by
    refine Or.inr ⟨by omega, ?_⟩
    simp only [ab_s1, List.getElem?_cons_zero, Option.some.injEq] at h
    by_cases hn : n = 0
    · rw [if_pos hn] at h
      obtain ⟨h1, h2⟩ := ab_kill_some h
      exact ⟨by simp [h1], fun q => h2 q.2⟩
    · rw [if_neg hn] at h
      exact ⟨by simp [h], fun q => by omega⟩
  | o :: l, n + 1, v, j + 1, w, h => by
    simp only [ab_s1, List.getElem?_cons_succ] at h
    rcases ab_s1_get l n v j w h with ⟨h1, h2⟩ | ⟨h1, h2, h3⟩
    · exact Or.inl ⟨by omega, h2⟩
    · exact Or.inr ⟨by omega, by simpa using h2, fun q => h3 ⟨by omega, q.2⟩⟩
theorem ab_s2_get : ∀ (L : List (Option Value)) (i : Nat) (v : Value) (j : Nat) (w : Value), (ab_s2 L i v)[j]? = some (some w) → (j = i ∧ w = v) ∨ (j ≠ i ∧ j ≠ i + 1 ∧ L[j]? = some (some w) ∧ ¬ (j + 1 = i ∧ w.category = 2))
  | [], _, _, _, _, h => by simp [ab_s2] at h
  | o :: l, 0, v, 0, w, h => by simp [ab_s2] at h; exact Or.inl ⟨rfl, h.symm⟩
  | o :: [], 0, v, j + 1, w, h => by simp [ab_s2] at h
  | o :: o2 :: l, 0, v, 1, w, h => by simp [ab_s2] at h
  | o :: o2 :: l, 0, v, j + 2, w, h => by
    simp [ab_s2] at h
    exact Or.inr ⟨by omega, by omega, by simpa using h, by omega⟩
  | o :: l, n + 1, v, 0, w, h => by
    refine Or.inr ⟨by omega, by omega, ?_⟩
    simp only [ab_s2, List.getElem?_cons_zero, Option.some.injEq] at h
    by_cases hn : n = 0
    · rw [if_pos hn] at h
      obtain ⟨h1, h2⟩ := ab_kill_some h
      exact ⟨by simp [h1], fun q => h2 q.2⟩
    · rw [if_neg hn] at h
      exact ⟨by simp [h], fun q => by omega⟩
  | o :: l, n + 1, v, j + 1, w, h => by
    simp only [ab_s2, List.getElem?_cons_succ] at h
    rcases ab_s2_get l n v j w h with ⟨h1, h2⟩ | ⟨h1, h2, h3, h4⟩
    · exact Or.inl ⟨by omega, h2⟩
    · exact Or.inr ⟨by omega, by omega, by simpa using h3, fun q => h4 ⟨by omega, q.2⟩⟩
theorem ab_l_s1 {n i : Nat} {L : List (Option Value)} {v : Value} {ls : Array Slot} (h : lv_has ls n ((i, v) :: (ab_ll L).filter (fun q => !(q.1 == i) && !(q.1 + 1 == i && q.2.category == 2)))) : ab_l n (ab_s1 L i v) ls := by
  refine ab_l_of h fun j w hj => ?_
  rcases ab_s1_get L i v j w hj with ⟨h1, h2⟩ | ⟨h1, h2, h3⟩
  · subst h1; subst h2; exact List.mem_cons_self
  · refine List.mem_cons_of_mem _ (List.mem_filter.mpr ⟨ab_ll_mem.mpr h2, ?_⟩)
    simp only [Bool.and_eq_true, Bool.not_eq_true', beq_eq_false_iff_ne, Bool.and_eq_false_iff]
    refine ⟨h1, ?_⟩
    by_cases hq : j + 1 = i
    · exact Or.inr fun q => h3 ⟨hq, q⟩
    · exact Or.inl hq
theorem ab_l_s2 {n i : Nat} {L : List (Option Value)} {v : Value} {ls : Array Slot} (h : lv_has ls n ((i, v) :: (ab_ll L).filter (fun q => !(q.1 == i) && (!(q.1 == i + 1) && !(q.1 + 1 == i && q.2.category == 2))))) : ab_l n (ab_s2 L i v) ls := by
  refine ab_l_of h fun j w hj => ?_
  rcases ab_s2_get L i v j w hj with ⟨h1, h2⟩ | ⟨h1, h2, h3, h4⟩
  · subst h1; subst h2; exact List.mem_cons_self
  · refine List.mem_cons_of_mem _ (List.mem_filter.mpr ⟨ab_ll_mem.mpr h3, ?_⟩)
    simp only [Bool.and_eq_true, Bool.not_eq_true', beq_eq_false_iff_ne, Bool.and_eq_false_iff]
    refine ⟨h1, h2, ?_⟩
    by_cases hq : j + 1 = i
    · exact Or.inr fun q => h4 ⟨hq, q⟩
    · exact Or.inl hq
/-- fewer locals are known -/
def ab_wk : List (Option Value) → List (Option Value) → Prop
  | [], _ => True
  | none :: l, [] => ab_wk l []
  | none :: l, _ :: l' => ab_wk l l'
  | some _ :: _, [] => False
  | some v :: l, o :: l' => o = some v ∧ ab_wk l l'
theorem ab_wk_get : ∀ (L L' : List (Option Value)), ab_wk L L' → ∀ (i : Nat) (v : Value), L[i]? = some (some v) → L'[i]? = some (some v)
  | [], _, _, i, v, h => by simp at h
  | none :: l, [], hw, 0, v, h => by simp at h
  | none :: l, [], hw, i + 1, v, h => by
    have := ab_wk_get l [] hw i v (by simpa using h)
    simp at this
  | none :: l, _ :: l', hw, 0, v, h => by simp at h
  | none :: l, _ :: l', hw, i + 1, v, h => by simpa using ab_wk_get l l' hw i v (by simpa using h)
  | some _ :: _, [], hw, _, _, _ => hw.elim
  | some x :: l, o :: l', hw, 0, v, h => by
    simp at h
    subst h
    simp [hw.1]
  | some x :: l, o :: l', hw, i + 1, v, h => by simpa using ab_wk_get l l' hw.2 i v (by simpa using h)
