/-! Bits of small sets; tours -/
def bt (S k : Nat) : Nat := S / 2 ^ k % 2
theorem bt_lt (S k : Nat) : bt S k < 2 := Nat.mod_lt _ (by omega)
theorem sh_a : ∀ k : Fin 31, ((nI k.1 &&& nI 31).toBitVec.smod 32).toNat = k.1 := by decide +kernel
theorem bitN {S k : Nat} (hS : S < 2 ^ 31) (hk : k < 31) : (nI S >>> (nI k &&& nI 31)) &&& nI 1 = nI (bt S k) := by
  rw [pk_shrN hS _ k (sh_a ⟨k, hk⟩)]
  exact pk_andN (by have := Nat.div_le_self S (2 ^ k); omega) 1 (by decide)
theorem oneN : ∀ k : Fin 31, nI 1 <<< (nI k.1 &&& nI 31) = nI (2 ^ k.1) := by decide +kernel
theorem one_n {k : Nat} (hk : k < 31) : nI 1 <<< (nI k &&& nI 31) = nI (2 ^ k) := oneN ⟨k, hk⟩
theorem clr_d : ∀ k : Fin 10, ∀ S : Fin 1024, bt S.1 k.1 = 1 → nI S.1 &&& (nI (2 ^ k.1) ^^^ -nI 1) = nI (S.1 - 2 ^ k.1) := by decide +kernel
theorem clr_n {S k : Nat} (hS : S < 1024) (hk : k < 10) (h : bt S k = 1) : nI S &&& (nI (2 ^ k) ^^^ -nI 1) = nI (S - 2 ^ k) := clr_d ⟨k, hk⟩ ⟨S, hS⟩ h
theorem cpl_d : ∀ m : Fin 11, ∀ S : Fin 1024, S.1 < 2 ^ m.1 → nI (2 ^ m.1 - 1) &&& (nI S.1 ^^^ -nI 1) = nI (2 ^ m.1 - 1 - S.1) := by decide +kernel
theorem p10 {m : Nat} (h : m ≤ 10) : 2 ^ m ≤ 1024 := Nat.pow_le_pow_right (by omega) h
theorem cpl_n {m S : Nat} (hm : m ≤ 10) (hS : S < 2 ^ m) : nI (2 ^ m - 1) &&& (nI S ^^^ -nI 1) = nI (2 ^ m - 1 - S) := cpl_d ⟨m, by omega⟩ ⟨S, by have := p10 hm; show S < 1024; omega⟩ hS
theorem bt_le {S k : Nat} (h : bt S k = 1) : 2 ^ k ≤ S := by
  unfold bt at h
  rcases Nat.lt_or_ge S (2 ^ k) with h2 | h2
  · rw [Nat.div_eq_of_lt h2] at h; omega
  · exact h2
theorem bt_ex {S m : Nat} (h0 : S ≠ 0) (hS : S < 2 ^ m) : ∃ k, k < m ∧ bt S k = 1 := by
  induction m with
  | zero => simp at hS; omega
  | succ m ih =>
    by_cases h : S < 2 ^ m
    · obtain ⟨k, hk, hb⟩ := ih h
      exact ⟨k, by omega, hb⟩
    · refine ⟨m, by omega, ?_⟩
      unfold bt
      have h1 : S / 2 ^ m = 1 := by
        have hp := Nat.two_pow_pos m
        rw [Nat.pow_succ] at hS
        exact Nat.div_eq_of_lt_le (by omega) (by omega)
      rw [h1]
/-- the least of g over a set -/
def mnK (i0 : Nat) (g : Nat → Nat) (S : Nat) : Nat → Nat
  | 0 => i0
  | n + 1 => if bt S n = 1 ∧ g n < mnK i0 g S n then g n else mnK i0 g S n
theorem mnK_congr {i0 S n : Nat} {g g' : Nat → Nat} (h : ∀ k, k < n → bt S k = 1 → g k = g' k) : mnK i0 g S n = mnK i0 g' S n := by
  induction n with
  | zero => rfl
  | succ n ih =>
    have e := ih (fun k hk => h k (by omega))
    show (if bt S n = 1 ∧ g n < mnK i0 g S n then g n else mnK i0 g S n) = (if bt S n = 1 ∧ g' n < mnK i0 g' S n then g' n else mnK i0 g' S n)
    rw [e]
    by_cases hb : bt S n = 1
    · rw [h n (by omega) hb]
    · rw [if_neg (fun e => hb e.1), if_neg (fun e => hb e.1)]
theorem mnK_i {i0 i1 S n : Nat} {g : Nat → Nat} (hg : ∀ k, k < n → bt S k = 1 → g k < i0 ∧ g k < i1) : (mnK i0 g S n = i0 ∧ mnK i1 g S n = i1 ∧ ∀ k, k < n → bt S k ≠ 1) ∨ (mnK i0 g S n = mnK i1 g S n ∧ mnK i0 g S n < i0 ∧ mnK i1 g S n < i1 ∧ ∃ k, k < n ∧ bt S k = 1) := by
  induction n with
  | zero => exact .inl ⟨rfl, rfl, fun k hk => absurd hk (Nat.not_lt_zero k)⟩
  | succ n ih =>
    show ((if bt S n = 1 ∧ g n < mnK i0 g S n then g n else mnK i0 g S n) = i0 ∧ (if bt S n = 1 ∧ g n < mnK i1 g S n then g n else mnK i1 g S n) = i1 ∧ _) ∨ ((if bt S n = 1 ∧ g n < mnK i0 g S n then g n else mnK i0 g S n) = (if bt S n = 1 ∧ g n < mnK i1 g S n then g n else mnK i1 g S n) ∧ (if bt S n = 1 ∧ g n < mnK i0 g S n then g n else mnK i0 g S n) < i0 ∧ (if bt S n = 1 ∧ g n < mnK i1 g S n then g n else mnK i1 g S n) < i1 ∧ _)
    rcases ih (fun k hk => hg k (by omega)) with ⟨a1, a2, a3⟩ | ⟨a1, a2, a3, k, hk, hb⟩
    · by_cases hb : bt S n = 1
      · have := hg n (by omega) hb
        right
        rw [if_pos ⟨hb, by omega⟩, if_pos ⟨hb, by omega⟩]
        exact ⟨rfl, this.1, this.2, n, by omega, hb⟩
      · left
        rw [if_neg (fun e => hb e.1), if_neg (fun e => hb e.1)]
        refine ⟨a1, a2, fun k hk => ?_⟩
        by_cases e : k = n
        · subst e; exact hb
        · exact a3 k (by omega)
    · right
      by_cases hb2 : bt S n = 1 ∧ g n < mnK i0 g S n
      · rw [if_pos hb2, if_pos (by rw [← a1]; exact hb2)]
        exact ⟨rfl, by omega, by omega, k, by omega, hb⟩
      · rw [if_neg hb2, if_neg (by rw [← a1]; exact hb2)]
        exact ⟨a1, a2, a3, k, by omega, hb⟩
def tr (cs : Nat → Nat) (m : Nat) : Nat → Nat → Nat → Nat
  | 0, _, _ => 0
  | f + 1, a, S => if S = 0 then 0 else mnK 9999 (fun k => dst a (cs k) + tr cs m f (cs k) (S - 2 ^ k)) S m
theorem tr_fuel {cs : Nat → Nat} {m : Nat} : ∀ f f' a S, S ≤ f → S ≤ f' → tr cs m f a S = tr cs m f' a S := by
  intro f
  induction f with
  | zero =>
    intro f' a S h _
    have : S = 0 := by omega
    subst this
    cases f' with
    | zero => rfl
    | succ f' => rfl
  | succ f ih =>
    intro f' a S h h'
    by_cases h0 : S = 0
    · subst h0
      cases f' with
      | zero => rfl
      | succ f' => rfl
    · cases f' with
      | zero => omega
      | succ f' =>
        show (if S = 0 then 0 else mnK 9999 _ S m) = (if S = 0 then 0 else mnK 9999 _ S m)
        rw [if_neg h0, if_neg h0]
        refine mnK_congr (fun k _ hb => ?_)
        have := Nat.two_pow_pos k
        rw [ih f' (cs k) (S - 2 ^ k) (by omega) (by omega)]
def tq (cs : Nat → Nat) (m a S : Nat) : Nat := tr cs m S a S
theorem tq_0 {cs : Nat → Nat} {m a : Nat} : tq cs m a 0 = 0 := rfl
theorem tq_s {cs : Nat → Nat} {m a S : Nat} (h : S ≠ 0) : tq cs m a S = mnK 9999 (fun k => dst a (cs k) + tq cs m (cs k) (S - 2 ^ k)) S m := by
  unfold tq
  obtain ⟨f, rfl⟩ : ∃ f, S = f + 1 := ⟨S - 1, by omega⟩
  show (if f + 1 = 0 then 0 else mnK 9999 _ (f + 1) m) = _
  rw [if_neg h]
  refine mnK_congr (fun k _ _ => ?_)
  have := Nat.two_pow_pos k
  rw [tr_fuel f (f + 1 - 2 ^ k) (cs k) (f + 1 - 2 ^ k) (by omega) (by omega)]
/-- how long a tour can be: 20 steps a cell -/
def pc (S : Nat) : Nat → Nat
  | 0 => 0
  | n + 1 => pc S n + bt S n
theorem pc_le (S n : Nat) : pc S n ≤ n := by
  induction n with
  | zero => exact Nat.le_refl _
  | succ n ih => have := bt_lt S n; show pc S n + bt S n ≤ n + 1; omega
theorem bt_sub {S k j : Nat} (hb : bt S k = 1) (hj : j ≠ k) : bt (S - 2 ^ k) j = bt S j := by
  have e : S - 2 ^ k = S ^^^ (2 ^ k) ∨ True := .inr trivial
  unfold bt at *
  rcases Nat.lt_or_ge j k with h | h
  · -- below k
    obtain ⟨d, rfl⟩ : ∃ d, k = j + 1 + d := ⟨k - j - 1, by omega⟩
    have h1 : S = 2 ^ j * (S / 2 ^ j) + S % 2 ^ j := (Nat.div_add_mod S (2 ^ j)).symm
    have hle : 2 ^ (j + 1 + d) ≤ S := bt_le (S := S) (k := j + 1 + d) hb
    have e2 : 2 ^ (j + 1 + d) = 2 ^ j * (2 * 2 ^ d) := by rw [Nat.pow_add, Nat.pow_add, Nat.pow_one, Nat.mul_assoc]
    have h2 : (S - 2 ^ (j + 1 + d)) / 2 ^ j = S / 2 ^ j - 2 * 2 ^ d := by
      rw [e2, Nat.sub_mul_div_of_le _ _ _ (by rw [← e2]; exact hle)]
    rw [h2]
    have h3 : 2 * 2 ^ d ≤ S / 2 ^ j := by rw [Nat.le_div_iff_mul_le (Nat.two_pow_pos j), Nat.mul_comm, ← e2]; exact hle
    omega
  · -- above k
    obtain ⟨d, rfl⟩ : ∃ d, j = k + 1 + d := ⟨j - k - 1, by omega⟩
    have e2 : 2 ^ (k + 1 + d) = 2 ^ k * 2 * 2 ^ d := by rw [Nat.pow_add, Nat.pow_add, Nat.pow_one]
    rw [e2, ← Nat.div_div_eq_div_mul, ← Nat.div_div_eq_div_mul, ← Nat.div_div_eq_div_mul, ← Nat.div_div_eq_div_mul]
    have hle : 2 ^ k ≤ S := bt_le (S := S) (k := k) hb
    have h2 : (S - 2 ^ k) / 2 ^ k = S / 2 ^ k - 1 := by
      have := Nat.sub_mul_div_of_le S (2 ^ k) 1 (by rw [Nat.mul_one]; exact hle)
      rw [Nat.mul_one] at this; exact this
    rw [h2]
    have h3 : (S / 2 ^ k - 1) / 2 = S / 2 ^ k / 2 := by
      generalize S / 2 ^ k = x at hb
      omega
    rw [h3]
theorem bt_sub_s {S k : Nat} (hb : bt S k = 1) : bt (S - 2 ^ k) k = 0 := by
  have hle := bt_le hb
  unfold bt at *
  have h2 : (S - 2 ^ k) / 2 ^ k = S / 2 ^ k - 1 := by
    have := Nat.sub_mul_div_of_le S (2 ^ k) 1 (by rw [Nat.mul_one]; exact hle)
    rw [Nat.mul_one] at this; exact this
  rw [h2]; omega
theorem pc_sub {S k n : Nat} (hb : bt S k = 1) (hk : k < n) : pc (S - 2 ^ k) n + 1 = pc S n := by
  induction n with
  | zero => omega
  | succ n ih =>
    show pc (S - 2 ^ k) n + bt (S - 2 ^ k) n + 1 = pc S n + bt S n
    by_cases e : n = k
    · subst e
      rw [bt_sub_s hb, hb]
      have : ∀ i, i ≤ n → pc (S - 2 ^ n) i = pc S i := by
        intro i
        induction i with
        | zero => intro _; rfl
        | succ i ih2 => intro hi; show pc _ i + bt _ i = pc _ i + bt _ i; rw [ih2 (by omega), bt_sub hb (by omega)]
      rw [this n (Nat.le_refl n)]
    · rw [bt_sub hb e]
      have := ih (by omega)
      omega
theorem tq_le {cs : Nat → Nat} {m : Nat} (hcs : ∀ k, k < m → cs k < 80) (hm : m ≤ 10) : ∀ n S a, S ≤ n → S < 2 ^ m → a < 80 → tq cs m a S ≤ 17 * pc S m := by
  intro n
  induction n with
  | zero =>
    intro S a h _ _
    have : S = 0 := by omega
    subst this; rw [tq_0]; omega
  | succ n ih =>
    intro S a h hS ha
    by_cases h0 : S = 0
    · subst h0; rw [tq_0]; omega
    · rw [tq_s h0]
      have hg : ∀ k, k < m → bt S k = 1 → dst a (cs k) + tq cs m (cs k) (S - 2 ^ k) + 1 ≤ 17 * pc S m := by
        intro k hk hb
        have hp := Nat.two_pow_pos k
        have h1 := ih (S - 2 ^ k) (cs k) (by omega) (by omega) (hcs k hk)
        have h2 := dst_lt ha (hcs k hk)
        have h3 := pc_sub hb hk
        omega
      have h17 : pc S m ≤ 10 := Nat.le_trans (pc_le S m) hm
      have key : ∀ j, j ≤ m → mnK 9999 (fun k => dst a (cs k) + tq cs m (cs k) (S - 2 ^ k)) S j ≤ 17 * pc S m ∨ ∀ k, k < j → bt S k ≠ 1 := by
        intro j
        induction j with
        | zero => intro _; exact .inr (fun k hk => absurd hk (Nat.not_lt_zero k))
        | succ j ih2 =>
          intro hj
          show (if bt S j = 1 ∧ _ < mnK _ _ S j then _ else mnK _ _ S j) ≤ _ ∨ _
          by_cases hb : bt S j = 1
          · left
            have := hg j (by omega) hb
            split
            · show dst a (cs j) + tq cs m (cs j) (S - 2 ^ j) ≤ _
              omega
            · rename_i hh
              have : ¬ (dst a (cs j) + tq cs m (cs j) (S - 2 ^ j)) < mnK 9999 (fun k => dst a (cs k) + tq cs m (cs k) (S - 2 ^ k)) S j := fun e => hh ⟨hb, e⟩
              omega
          · rw [if_neg (fun e => hb e.1)]
            rcases ih2 (by omega) with h1 | h1
            · exact .inl h1
            · right
              intro k hk
              by_cases e : k = j
              · subst e; exact hb
              · exact h1 k (by omega)
      rcases key m (Nat.le_refl m) with h1 | h1
      · exact h1
      · obtain ⟨k, hk, hb⟩ := bt_ex h0 hS
        exact absurd hb (h1 k hk)
theorem tq_b {cs : Nat → Nat} {m a S : Nat} (hcs : ∀ k, k < m → cs k < 80) (hm : m ≤ 10) (hS : S < 2 ^ m) (ha : a < 80) : tq cs m a S ≤ 170 := by
  have h1 := tq_le hcs hm S S a (Nat.le_refl S) hS ha
  have h2 := pc_le S m
  omega
/-- chosen cells, in their order -/
def sel (q : Nat → Bool) : Nat → Nat → Nat
  | 0 => fun _ => 0
  | n + 1 => if q n then un (sel q n) (ct q n) n else sel q n
theorem sel_lt {q : Nat → Bool} {n k : Nat} (h : k < ct q n) : sel q n k < n := by
  induction n with
  | zero => exact absurd h (Nat.not_lt_zero k)
  | succ n ih =>
    show (if q n = true then un (sel q n) (ct q n) n else sel q n) k < n + 1
    by_cases e : q n = true
    · rw [if_pos e]
      by_cases e2 : k = ct q n
      · subst e2; rw [un_s]; omega
      · rw [un_n e2]
        rw [ct_t e] at h
        have := ih (by omega); omega
    · rw [if_neg e]
      rw [ct_f (by simpa using e)] at h
      have := ih h; omega
