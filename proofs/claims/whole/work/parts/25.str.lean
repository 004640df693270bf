/-! the String constant of Tokens: what lies outside, and that calls keep it -/
def st_tx : String := "letter word picker blows takes pays wind rain seed if then else sign across down hour lain hat has here which "
def st_by : List Int32 := [108, 101, 116, 116, 101, 114, 32, 119, 111, 114, 100, 32, 112, 105, 99, 107, 101, 114, 32, 98, 108, 111, 119, 115, 32, 116, 97, 107, 101, 115, 32, 112, 97, 121, 115, 32, 119, 105, 110, 100, 32, 114, 97, 105, 110, 32, 115, 101, 101, 100, 32, 105, 102, 32, 116, 104, 101, 110, 32, 101, 108, 115, 101, 32, 115, 105, 103, 110, 32, 97, 99, 114, 111, 115, 115, 32, 100, 111, 119, 110, 32, 104, 111, 117, 114, 32, 108, 97, 105, 110, 32, 104, 97, 116, 32, 104, 97, 115, 32, 104, 101, 114, 101, 32, 119, 104, 105, 99, 104, 32]
def ab_str (A : Nat → Prop) (sa sb : Nat) (U : State) : Prop := vk_S 1 [110] [st_by] (fun _ => sa) (fun _ => sb) A U U.heap ∧ vk_R "ConfettiRound$Tokens" 25 st_tx sa U ∧ va_Z "java/lang/String" "COMPACT_STRINGS" "Z" (.int 1) A U U.heap
theorem ab_str_same {A : Nat → Prop} {sa sb : Nat} {u U : State} (hv : U.vm = u.vm) (hh : U.heap = u.heap) (h : ab_str A sa sb u) : ab_str A sa sb U := by
  have ha : u.vm.Alike U.vm := by rw [hv]; exact Vm.Alike.refl u.vm
  refine ⟨?_, h.2.1.same hv, ?_⟩
  · rw [hh]; exact vk_S.moved ha h.1
  · rw [hh]; exact va_Z.moved ha h.2.2
theorem ab_str_call {A : Nat → Prop} {sa sb : Nat} {s U : State} (hW : s.WarmedH U.vm) (hk : ∀ q : Nat, q < s.heap.size → ¬ A q → U.heap[q]? = s.heap[q]?) (h : ab_str A sa sb s) : ab_str A sa sb U :=
  ⟨vk_S.moved hW.alike (h.1.kept hk), h.2.1.warm hW, va_Z.moved hW.alike (h.2.2.kept hk)⟩
