abbrev ab_nn : MethodName := ⟨"", "", ""⟩
abbrev nn : Option ab_O := none
abbrev oo (i : Instr) (n : Nat) : Option ab_O := some (i, n, 0, 0, .null, ab_nn)
abbrev oj (i : Instr) (n t : Nat) : Option ab_O := some (i, n, t, 0, .null, ab_nn)
abbrev of (i : Instr) (n c k : Nat) : Option ab_O := some (i, n, c, k, .null, ab_nn)
abbrev oc (i : Instr) (n : Nat) (v : Value) : Option ab_O := some (i, n, 0, 0, v, ab_nn)
abbrev om (i : Instr) (n x : Nat) (m : MethodName) : Option ab_O := some (i, n, x, 0, .null, m)
def ab_stepB (pc : Nat) (o : ab_O) : Bool := match o.1 with
  | .tableswitch _ _ _ _ | .lookupswitch _ _ => true
  | i => pc + ab_len i == o.2.1
def ab_jmpB (pc : Nat) (o : ab_O) : Bool := match o.1 with
  | .goto off | .ifCond _ off | .if_icmp _ off | .ifnonnull off | .ifnull off => (pc : Int) + off == (o.2.2.1 : Int)
  | _ => true
def ab_fldB (o : ab_O) : Bool := match o.1 with
  | .getfield _ | .putfield _ => (match vwCl[o.2.2.1]? with
    | some r => decide (o.2.2.2.1 < r.2.2)
    | none => false)
  | _ => true
def ab_chkO (M : ab_M) (pc : Nat) (o : ab_O) (pl : List Nat) : Bool :=
  decide (decode M.2.1 pc = .ok (o.1, o.2.1 - pc)) && (ab_stepB pc o && (ab_jmpB pc o && (ab_fldB o && (decide (pl.map (fun i => lw_tbl[i]?) = (ab_need M.1.cls o ++ ab_needN M.1.cls o).map some) && ((ab_need M.1.cls o).all goodWord && (ab_needN M.1.cls o).all ab_isNest)))))
theorem ab_chkO_ok {M : ab_M} {pc : Nat} {o : ab_O} {pl : List Nat} (h : ab_chkO M pc o pl = true) : ab_okO M pc o := by
  unfold ab_chkO at h
  simp only [Bool.and_eq_true, decide_eq_true_eq] at h
  obtain ⟨h1, h2, h3, h4, h5, h6, h7⟩ := h
  have hm : ∀ w ∈ ab_need M.1.cls o ++ ab_needN M.1.cls o, w ∈ lw_tbl := by
    intro w hw
    have : some w ∈ (ab_need M.1.cls o ++ ab_needN M.1.cls o).map some := List.mem_map.mpr ⟨w, hw, rfl⟩
    rw [← h5] at this
    obtain ⟨i, -, hi⟩ := List.mem_map.mp this
    exact List.mem_of_getElem? hi
  refine ⟨h1, ?_, ?_, ?_, fun w hw => List.mem_filter.mpr ⟨hm w (List.mem_append_left _ hw), List.all_eq_true.mp h6 w hw⟩, fun w hw => List.mem_filter.mpr ⟨hm w (List.mem_append_right _ hw), List.all_eq_true.mp h7 w hw⟩⟩
  · unfold ab_stepB at h2
    unfold ab_step
    split at h2
    · next e => rw [e]; trivial
    · next e => rw [e]; trivial
    · next i e1 e2 =>
      split
      · next e => exact absurd e (by intro q; exact e1 _ _ _ _ q)
      · next e => exact absurd e (by intro q; exact e2 _ _ q)
      · simpa using h2
  · unfold ab_jmpB at h3
    unfold ab_jmp
    split at h3 <;> first | (next e => rw [e]; simpa using h3) | (split <;> first | trivial | (exfalso; simp_all))
  · unfold ab_fldB at h4
    unfold ab_fld
    split at h4
    · next e =>
      rw [e]
      split at h4
      · next r hr => exact ⟨r, hr, by simpa using h4⟩
      · cases h4
    · next e =>
      rw [e]
      split at h4
      · next r hr => exact ⟨r, hr, by simpa using h4⟩
      · cases h4
    · next e1 e2 =>
      split
      · next q => exact absurd q (e1 _)
      · next q => exact absurd q (e2 _)
      · trivial
def ab_pl (P : List (List (List Nat))) (pc : Nat) : List Nat := match P[pc / 16]? with
  | some r => (match r[pc % 16]? with
    | some l => l
    | none => [])
  | none => []
def ab_chk1 (M : ab_M) (P : List (List (List Nat))) (pc : Nat) : Bool := match ab_op M pc with
  | none => true
  | some o => ab_chkO M pc o (ab_pl P pc)
def ab_chkR (M : ab_M) (P : List (List (List Nat))) (lo len : Nat) : Bool := (List.range' lo len).all (ab_chk1 M P)
theorem ab_chkR_of {M : ab_M} {P : List (List (List Nat))} {lo len : Nat} (h : ab_chkR M P lo len = true) : ∀ pc, lo ≤ pc → pc < lo + len → ab_chk1 M P pc = true := fun pc h1 h2 => List.all_eq_true.mp h pc (List.mem_range'_1.mpr ⟨h1, h2⟩)
theorem ab_okT_of {M : ab_M} {P : List (List (List Nat))} (n : Nat) (hn : 16 * M.2.2.2.2.2.2.length ≤ n) (h : ∀ pc, pc < n → ab_chk1 M P pc = true) : ab_okT M := by
  intro pc o ho
  have hlt : pc < 16 * M.2.2.2.2.2.2.length := by
    unfold ab_op at ho
    split at ho
    · next r hr =>
      have := (List.getElem?_eq_some_iff.mp hr).1
      omega
    · cases ho
  have h1 := h pc (by omega)
  unfold ab_chk1 at h1
  rw [ho] at h1
  exact ab_chkO_ok h1
def ab_okYB (M : ab_M) (i j : Nat) : Bool := decide (plainName M.1.cls = true) && (decide (lw_tbl[i]? = some (Cond.code M.1 M.2.1 M.2.2.1 M.2.2.2.1)) && (decide (lw_tbl[j]? = some (Cond.initialized M.1.cls)) && (decide (M.1.cls ≠ "java/lang/invoke/MethodHandle" ∧ M.1.cls ≠ "java/lang/invoke/VarHandle" ∧ (parseMethodDescriptor M.1.desc).map (fun d => d.parameters.length) = some M.2.2.2.2.2.1) && (decide (M.2.2.1 ≤ 30) && decide (M.2.2.2.2.1 = 99 ∨ (vwCl[M.2.2.2.2.1]?).map (fun r => r.1) = some M.1.cls)))))
theorem ab_okY_of {M : ab_M} (i j : Nat) (h : ab_okYB M i j = true) : ab_okY M := by
  unfold ab_okYB at h
  simp only [Bool.and_eq_true, decide_eq_true_eq] at h
  obtain ⟨h1, h2, h3, h4, h5, h6⟩ := h
  exact ⟨h1, List.mem_filter.mpr ⟨List.mem_of_getElem? h2, rfl⟩, List.mem_filter.mpr ⟨List.mem_of_getElem? h3, rfl⟩, h4, h5, h6⟩
