/-! Numbers: everything as nI of a natural number -/
theorem ln_ {n : Nat} : (OfNat.ofNat n : Int32) = nI (OfNat.ofNat n) := rfl
theorem vpn {n N : Nat} (h : n < 2 ^ 31) : vp_in (nI n) N ↔ n < N := by
  unfold vp_in
  rw [nI_clamp h]
  have := nI_pos h
  constructor
  · intro g; exact Nat.lt_of_not_le (fun e => g (.inr e))
  · intro g e; rcases e with e | e
    · exact this e
    · omega
theorem ni_T {n : Nat} (h : n < 2 ^ 31) : (nI n).toInt = n := nI_toInt h
theorem ni_N {n : Nat} (h : n < 2 ^ 31) : (-nI n).toInt = -(n : Int) := sb_negT h
theorem ng_lt {a b : Nat} (ha : a < 2 ^ 31) (hb : b < 2 ^ 31) : -nI a < nI b ↔ 0 < a + b := by
  rw [Int32.lt_iff_toInt_lt, ni_N ha, ni_T hb]; omega
theorem ng_le {a b : Nat} (ha : a < 2 ^ 31) (hb : b < 2 ^ 31) : -nI a ≤ nI b ↔ True := by
  rw [Int32.le_iff_toInt_le, ni_N ha, ni_T hb]; simp
theorem gn_lt {a b : Nat} (ha : a < 2 ^ 31) (hb : b < 2 ^ 31) : nI a < -nI b ↔ False := by
  rw [Int32.lt_iff_toInt_lt, ni_N hb, ni_T ha]; simp
theorem gn_le {a b : Nat} (ha : a < 2 ^ 31) (hb : b < 2 ^ 31) : nI a ≤ -nI b ↔ (a = 0 ∧ b = 0) := by
  rw [Int32.le_iff_toInt_le, ni_N hb, ni_T ha]; omega
theorem gn_eq {a b : Nat} (ha : a < 2 ^ 31) (hb : b < 2 ^ 31) : nI a = -nI b ↔ (a = 0 ∧ b = 0) := by
  rw [← Int32.toInt_inj, ni_N hb, ni_T ha]; omega
theorem ng_eq {a b : Nat} (ha : a < 2 ^ 31) (hb : b < 2 ^ 31) : -nI a = nI b ↔ (a = 0 ∧ b = 0) := by
  rw [← Int32.toInt_inj, ni_N ha, ni_T hb]; omega
theorem nn_eq {a b : Nat} (ha : a < 2 ^ 31) (hb : b < 2 ^ 31) : -nI a = -nI b ↔ a = b := by
  rw [← Int32.toInt_inj, ni_N ha, ni_N hb]; omega
theorem wi_c {s : fl_I} {q' i q : Nat} {v : Int32} (h : q ≠ q') : wi s q' i v q = s q := by unfold wi; exact su_ne _ _ h
theorem wi_u {s : fl_I} {q i : Nat} {v : Int32} : wi s q i v q = upd (s q) i v := by unfold wi; exact su_same _ _ _
theorem su_c {s : fl_I} {q' q : Nat} {f : Nat → Int32} (h : q ≠ q') : su s q' f q = s q := su_ne _ _ h
theorem upd_s {f : Nat → Int32} {i : Nat} {v : Int32} : upd f i v i = v := if_pos rfl
theorem upd_n {f : Nat → Int32} {i j : Nat} {v : Int32} (h : j ≠ i) : upd f i v j = f j := if_neg h
/-- how many of the first n -/
def ct (p : Nat → Bool) : Nat → Nat
  | 0 => 0
  | n + 1 => ct p n + (if p n then 1 else 0)
theorem ct_le (p : Nat → Bool) (n : Nat) : ct p n ≤ n := by
  induction n with
  | zero => exact Nat.le_refl _
  | succ n ih => unfold ct; split <;> omega
theorem ct_congr {p r : Nat → Bool} {n : Nat} (h : ∀ i, i < n → p i = r i) : ct p n = ct r n := by
  induction n with
  | zero => rfl
  | succ n ih => unfold ct; rw [ih (fun i hi => h i (by omega)), h n (by omega)]
theorem ct_s {p : Nat → Bool} {n : Nat} : ct p (n + 1) = ct p n + (if p n then 1 else 0) := rfl
theorem ct_t {p : Nat → Bool} {n : Nat} (h : p n = true) : ct p (n + 1) = ct p n + 1 := by rw [ct_s, if_pos h]
theorem ct_f {p : Nat → Bool} {n : Nat} (h : p n = false) : ct p (n + 1) = ct p n := by rw [ct_s, h]; rfl
/-- one place more -/
theorem ct_up {p r : Nat → Bool} {n k : Nat} (hk : k < n) (h : ∀ i, i < n → i ≠ k → p i = r i) (h0 : p k = false) (h1 : r k = true) : ct r n = ct p n + 1 := by
  induction n with
  | zero => omega
  | succ n ih =>
    by_cases e : k = n
    · subst e
      rw [ct_t h1, ct_f h0, ct_congr (fun i hi => h i (by omega) (by omega))]
    · have := ih (by omega) (fun i hi hn => h i (by omega) hn)
      have e2 := h n (by omega) (by omega)
      unfold ct; rw [this, e2]; omega
theorem ct_pos {p : Nat → Bool} {n k : Nat} (hk : k < n) (h : p k = true) : 0 < ct p n := by
  induction n with
  | zero => omega
  | succ n ih =>
    unfold ct
    by_cases e : k = n
    · subst e; simp [h]
    · have := ih (by omega); omega
