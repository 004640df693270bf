/-! Places grow from token to token -/
section plc
variable {B : Nat → Nat} {a b c e i j k m n p : Nat}
theorem tkN_1 (h : p < n) : 1 ≤ tkN B n p := by
  unfold tkN
  rw [if_neg (by omega)]
  by_cases e1 : isLt (B p) = true
  · rw [if_pos e1, show n - p = (n - (p + 1)) + 1 from by omega, rn_pos e1]; omega
  · rw [if_neg e1]
    by_cases e2 : isDg (B p) = true
    · rw [if_pos e2, show n - p = (n - (p + 1)) + 1 from by omega, rn_pos e2]; omega
    · rw [if_neg e2]; omega
theorem tP_s (h : tK B n j ≠ 0) : tP B n j < tP B n (j + 1) := by
  have h1 : tP B n j < n := by
    rcases Nat.lt_or_ge (tP B n j) n with e | e
    · exact e
    · exact absurd (tkK_0 e) h
  have h2 := tkN_1 (B := B) h1
  have h3 : qP B n (j + 1) = tP B n j + tkN B n (tP B n j) := rfl
  have h4 : qP B n (j + 1) ≤ tP B n (j + 1) := (tp0_le qP_le).1
  omega
theorem tP_lt (h : kkT (tK B n) k) (hj : j < k) : tP B n j < tP B n k := by
  have : ∀ d, j + 1 + d ≤ k → tP B n j < tP B n (j + 1 + d) := by
    intro d
    induction d with
    | zero => intro h1; exact tP_s (by have := h.2 j (by omega); omega)
    | succ d ih =>
      intro h1
      have := ih (by omega)
      have h2 := tP_s (B := B) (n := n) (j := j + 1 + d) (by have := h.2 (j + 1 + d) (by omega); omega)
      rw [show j + 1 + (d + 1) = j + 1 + d + 1 from by omega]; omega
  have := this (k - (j + 1)) (by omega)
  rwa [show j + 1 + (k - (j + 1)) = k from by omega] at this
end plc
