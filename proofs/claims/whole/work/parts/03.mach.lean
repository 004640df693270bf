/-! A small world over the machine: an abstract heap (address to cell), abstract frames, and 'ab_C': the machine, standing at a pc of a method in any frame, comes to its return with Q -/
/-- a cell: an array (its kind: 0 int, 1 long, 2 byte, 3 boolean, 4 Yard; length and contents), or an object (class number, fields) -/
abbrev ab_E : Type := (Nat × vp_A) ⊕ (Nat × List Value)
/-- what lies where, by addresses counted from the first that is ours; and how many cells there are -/
abbrev ab_H : Type := (Nat → Option ab_E) × Nat
def ab_u (h : ab_H) (a : Nat) (e : ab_E) : ab_H := (fun q => if q = a then some e else h.1 q, h.2)
def ab_n (h : ab_H) (e : ab_E) : ab_H := (fun q => if q = h.2 then some e else h.1 q, h.2 + 1)
theorem ab_u_same (h : ab_H) (a : Nat) (e : ab_E) : (ab_u h a e).1 a = some e := by simp [ab_u]
theorem ab_u_ne (h : ab_H) {a q : Nat} (e : ab_E) (n : q ≠ a) : (ab_u h a e).1 q = h.1 q := by simp [ab_u, n]
theorem ab_n_same (h : ab_H) (e : ab_E) : (ab_n h e).1 h.2 = some e := by simp [ab_n]
theorem ab_n_ne (h : ab_H) {q : Nat} (e : ab_E) (n : q ≠ h.2) : (ab_n h e).1 q = h.1 q := by simp [ab_n, n]
/-- an instruction in a table: itself, the next pc, two numbers (a jump's target; class and field; the kind of a link), a constant, a method's name -/
abbrev ab_O : Type := Instr × Nat × Nat × Nat × Value × MethodName
/-- a method: name, code, locals, what it returns, class number, parameters, table (rows of sixteen pcs) -/
abbrev ab_M : Type := MethodName × ByteArray × Nat × Option FieldType × Nat × Nat × List (List (Option ab_O))
def ab_op (M : ab_M) (pc : Nat) : Option ab_O := match M.2.2.2.2.2.2[pc / 16]? with
  | some r => (match r[pc % 16]? with
    | some o => o
    | none => none)
  | none => none
def ab_tbl : List Cond := lw_tbl.filter goodWord
def ab_isNest : Cond → Bool
  | .methodLinkNest _ _ _ _ => true
  | _ => false
def ab_nest : List Cond := lw_tbl.filter ab_isNest
def ab_len : Instr → Nat
  | .iload _ | .istore _ | .aload _ | .astore _ | .lload _ | .lstore _ | .bipush _ | .ldc _ | .newarray _ => 2
  | .sipush _ | .iinc _ _ | .goto _ | .ifCond _ _ | .if_icmp _ _ | .ifnonnull _ | .ifnull _ | .getfield _ | .putfield _ | .invokevirtual _ | .invokespecial _ | .invokestatic _ | .new _ | .anewarray _ | .ldc_w _ | .ldc2_w _ => 3
  | _ => 1
def ab_ty (c k : Nat) : FieldType := match vwCl[c]? with
  | some r => (parseFieldDescriptor (r.2.1 k).2.2.1).getD .int
  | none => .int
/-- the words that an instruction needs -/
def ab_need (own : String) (o : ab_O) : List Cond := match o.1 with
  | .getfield i | .putfield i => (match vwCl[o.2.2.1]? with
    | some r => [.fieldLink own i (r.2.1 o.2.2.2.1).1 (r.2.1 o.2.2.2.1).2.1 (r.2.1 o.2.2.2.1).2.2.1]
    | none => [.tt])
  | .new i => (match vwCl[o.2.2.1]? with
    | some r => [.classLink own i r.1, .instantiable r.1 r.2.2, .initialized r.1]
    | none => [])
  | .anewarray i => [.classLink own i "ConfettiRound$Yard"]
  | .newarray t => [.arrayClass (Op.newarray.typeOf t)]
  | .ldc i | .ldc_w i => (match o.2.2.2.2.1 with
    | .int v => [.constant own i v]
    | _ => [])
  | .ldc2_w i => (match o.2.2.2.2.1 with
    | .long v => [.constantLong own i v]
    | _ => [])
  | .invokevirtual i => [.methodLink own i o.2.2.2.2.2, .instanceMethod o.2.2.2.2.2, .selects o.2.2.2.2.2.cls o.2.2.2.2.2 o.2.2.2.2.2]
  | .invokespecial i => if o.2.2.1 = 1 then [.instanceMethod o.2.2.2.2.2] else [.methodLink own i o.2.2.2.2.2, .instanceMethod o.2.2.2.2.2]
  | .invokestatic i => if o.2.2.1 = 1 then [.static o.2.2.2.2.2] else [.methodLink own i o.2.2.2.2.2, .static o.2.2.2.2.2]
  | _ => []
/-- a nest mate's link -/
def ab_needN (own : String) (o : ab_O) : List Cond := match o.1 with
  | .invokespecial i | .invokestatic i => if o.2.2.1 = 1 then [.methodLinkNest own i o.2.2.2.2.2 "ConfettiRound"] else []
  | _ => []
def ab_jmp (pc : Nat) (o : ab_O) : Prop := match o.1 with
  | .goto off | .ifCond _ off | .if_icmp _ off | .ifnonnull off | .ifnull off => (pc : Int) + off = (o.2.2.1 : Int)
  | _ => True
def ab_fld (o : ab_O) : Prop := match o.1 with
  | .getfield _ | .putfield _ => ∃ r, vwCl[o.2.2.1]? = some r ∧ o.2.2.2.1 < r.2.2
  | _ => True
def ab_step (pc : Nat) (o : ab_O) : Prop := match o.1 with
  | .tableswitch _ _ _ _ | .lookupswitch _ _ => True
  | i => pc + ab_len i = o.2.1
def ab_okO (M : ab_M) (pc : Nat) (o : ab_O) : Prop :=
  decode M.2.1 pc = .ok (o.1, o.2.1 - pc) ∧ ab_step pc o ∧ ab_jmp pc o ∧ ab_fld o ∧ (∀ w ∈ ab_need M.1.cls o, w ∈ ab_tbl) ∧ (∀ w ∈ ab_needN M.1.cls o, w ∈ ab_nest)
/-- what the tables say of a method -/
def ab_okY (M : ab_M) : Prop := plainName M.1.cls = true ∧ Cond.code M.1 M.2.1 M.2.2.1 M.2.2.2.1 ∈ ab_tbl ∧ Cond.initialized M.1.cls ∈ ab_tbl ∧
  (M.1.cls ≠ "java/lang/invoke/MethodHandle" ∧ M.1.cls ≠ "java/lang/invoke/VarHandle" ∧ (parseMethodDescriptor M.1.desc).map (fun d => d.parameters.length) = some M.2.2.2.2.2.1) ∧ M.2.2.1 ≤ 30 ∧ (M.2.2.2.2.1 = 99 ∨ (vwCl[M.2.2.2.2.1]?).map (fun r => r.1) = some M.1.cls)
def ab_okT (M : ab_M) : Prop := ∀ pc o, ab_op M pc = some o → ab_okO M pc o
