/-! What has been told so far, in the class and in the reference -/
abbrev Lt : Type := Nat × (Nat → List Nat) × (Nat → Nat) × (Nat → Nat)
abbrev Wt : Type := Nat × (Nat → List Nat)
abbrev Kt : Type := Nat × (Nat → List Nat) × (Nat → Nat) × (Nat → Nat) × (Nat → Nat)
abbrev Nt : Type := Int32 × Int32 × Nat × Nat
abbrev Qt : Type := (Nat → Pg) × (Nat → List Nat)
def off (ln : Nat → List Nat) : Nat → Nat
  | 0 => 0
  | n + 1 => off ln n + (ln n).length
def gL (t : Nat) (L : Lt) (s : fl_I) (l : fl_L) : Prop := s t 0 = nI L.1 ∧ s t 3 = nI (off L.2.1 L.1) ∧ (∀ i, i < L.1 → l (t + 1) i = lN (p5 (L.2.1 i))) ∧ ∀ j, j < L.1 → ∀ i, i < (L.2.1 j).length → s (t + 4) (off L.2.1 j + i) = nI (sgn (L.2.1 j) i) ∧ s (t + 5) (off L.2.1 j + i) = nI j ∧ s (t + 6) (off L.2.1 j + i) = nI (10 * L.2.2.2 j + (L.2.2.1 j + i) % 10)
def gW (t : Nat) (W : Wt) (s : fl_I) (l : fl_L) : Prop := s t 1 = nI W.1 ∧ ∀ i, i < W.1 → l (t + 2) i = lN (p5 (W.2 i))
def gK (t : Nat) (K : Kt) (s : fl_I) (l : fl_L) : Prop := s t 2 = nI K.1 ∧ (∀ i, i < K.1 → l (t + 3) i = lN (p5 (K.2.1 i))) ∧ ∀ b, b < K.1 → s (t + 7) b = nI (10 * K.2.2.2.1 b + K.2.2.1 b) ∧ s (t + 8) b = nI (K.2.2.2.2 b)
def gN (t : Nat) (N : Nt) (s : fl_I) : Prop := s t 15 = N.1 ∧ s t 16 = N.2.1 ∧ s t 17 = nI N.2.2.1 ∧ s t 18 = nI N.2.2.2
def gQ (t m : Nat) (Q : Qt) (s : fl_I) : Prop := ∀ k, k < 3 → ∃ p q, s (t + 10) k = nI p ∧ cPr (s (t + 9)) p (Q.1 k) (Q.2 k) q ∧ q ≤ m
def hL (sd : Nat) (L : Lt) (s : fl_I) (l : fl_L) : Prop := s 68 sd = nI L.1 ∧ ∀ i, i < L.1 → l 69 (4 * sd + i) = lN (p27 (L.2.1 i).reverse) ∧ s 70 (4 * sd + i) = nI (L.2.2.1 i) ∧ s 71 (4 * sd + i) = nI (L.2.2.2 i)
def hW (sd : Nat) (W : Wt) (s : fl_I) (l : fl_L) : Prop := s 72 sd = nI W.1 ∧ ∀ i, i < W.1 → l 73 (8 * sd + i) = lN (p27 (W.2 i).reverse)
def hK (sd : Nat) (K : Kt) (s : fl_I) (l : fl_L) : Prop := s 74 sd = nI K.1 ∧ ∀ b, b < K.1 → l 75 (4 * sd + b) = lN (p27 (K.2.1 b).reverse) ∧ s 76 (4 * sd + b) = nI (K.2.2.1 b) ∧ s 77 (4 * sd + b) = nI (K.2.2.2.1 b) ∧ s 78 (4 * sd + b) = nI (K.2.2.2.2 b)
def hN (sd : Nat) (N : Nt) (s : fl_I) : Prop := s 79 (2 * sd) = N.1 ∧ s 79 (2 * sd + 1) = N.2.1 ∧ s 80 sd = nI N.2.2.1 ∧ s 81 sd = nI N.2.2.2
def tL (lf : Nat) (L : Lt) : Prop := L.1 ≤ 4 ∧ (∀ i, i < L.1 → okW (L.2.1 i) ∧ L.2.2.1 i ≤ 9999 ∧ L.2.2.2 i ≤ 9999) ∧ (lf = 0 → ∀ i, i < L.1 → L.2.2.1 i ≤ 9 ∧ L.2.2.2 i ≤ 7)
def tWd (W : Wt) : Prop := W.1 ≤ 8 ∧ ∀ i, i < W.1 → okW (W.2 i)
def tKp (lf : Nat) (K : Kt) : Prop := K.1 ≤ 4 ∧ (∀ b, b < K.1 → okW (K.2.1 b) ∧ K.2.2.1 b ≤ 9999 ∧ K.2.2.2.1 b ≤ 9999 ∧ K.2.2.2.2 b ≤ 9999) ∧ (lf = 0 → ∀ b, b < K.1 → K.2.2.1 b ≤ 9 ∧ K.2.2.2.1 b ≤ 7 ∧ 1 ≤ K.2.2.2.2 b ∧ K.2.2.2.2 b ≤ 32)
def tNn (lf : Nat) (N : Nt) : Prop := N.2.2.1 ≤ 9999 ∧ N.2.2.2 ≤ 9999 ∧ (lf = 0 → N.2.2.1 ≤ 100)
def tQ (Q : Qt) : Prop := ∀ k, k < 3 → gdP (Q.1 k) (Q.2 k) ∧ (Q.1 k).length ≤ 4
def CJ (B : Nat → Nat) (n t k m lf lj : Nat) (L : Lt) (W : Wt) (K : Kt) (N : Nt) (Q : Qt) (s : fl_I) (l : fl_L) : Prop := cJ B n t k m lf lj s l ∧ m ≤ k + 4 ∧ gL t L s l ∧ gW t W s l ∧ gK t K s l ∧ gN t N s ∧ gQ t m Q s
def RJ (B : Nat → Nat) (n sd k M br lf lj : Nat) (L : Lt) (W : Wt) (K : Kt) (N : Nt) (Q : Qt) (s : fl_I) (l : fl_L) : Prop := rJt B n sd k M br lf lj s l ∧ hL sd L s l ∧ hW sd W s l ∧ hK sd K s l ∧ hN sd N s ∧ rLw sd M br Q.1 Q.2 s ∧ 420 * sd ≤ M ∧ M ≤ 420 * sd + k ∧ 130 * sd ≤ br ∧ 4 * (br - 130 * sd) ≤ k
def TJ (lf : Nat) (L : Lt) (W : Wt) (K : Kt) (N : Nt) (Q : Qt) : Prop := tL lf L ∧ tWd W ∧ tKp lf K ∧ tNn lf N ∧ tQ Q
/-- how many places each side has -/
def sw (q : Nat) : Nat := if q = 68 ∨ q = 72 ∨ q = 74 ∨ q = 80 ∨ q = 81 then 1 else if q = 70 ∨ q = 71 ∨ q = 76 ∨ q = 77 ∨ q = 78 then 4 else if q = 79 then 2 else if q = 82 ∨ q = 83 then 3 else if 84 ≤ q ∧ q ≤ 88 then 130 else if q = 89 ∨ q = 90 then 420 else 0
def slw (q : Nat) : Nat := if q = 69 ∨ q = 75 then 4 else if q = 73 then 8 else 0
/-- the other side is as it was -/
def rGF (sd : Nat) (s : fl_I) (l : fl_L) (s' : fl_I) (l' : fl_L) : Prop := (∀ q j, q ≠ 60 → q ≠ 91 → (j < sw q * sd ∨ sw q * sd + sw q ≤ j) → s' q j = s q j) ∧ (∀ j, j ≠ 11 → j ≠ 12 → j ≠ 13 → j ≠ 14 → j ≠ 15 → j ≠ 16 → j ≠ 36 → j ≠ 42 → j ≠ 46 → s' 60 j = s 60 j) ∧ ∀ q j, (j < slw q * sd ∨ slw q * sd + slw q ≤ j) → l' q j = l q j
/-- one thing told, to both -/
def Out (B : Nat → Nat) (n t sd k : Nat) (sR : fl_I) (lR : fl_L) (rC : Int32 × fl_I × fl_L) (pC : Prop) (rR : fl_I × fl_L) (pR : Prop) : Prop := pC ∧ pR ∧ ∃ v sC' lC' sR' lR', rC = (v, sC', lC') ∧ rR = (sR', lR') ∧ rGF sd sR lR sR' lR' ∧ ((∃ a m lf lj M br L W K N Q, v = nI 1 ∧ k < a ∧ CJ B n t a m lf lj L W K N Q sC' lC' ∧ RJ B n sd a M br lf lj L W K N Q sR' lR' ∧ TJ lf L W K N Q) ∨ ∃ e a, v = nI 0 ∧ sC' 3 3 = nI e ∧ sC' 3 0 = nI (tP B n a) ∧ rBd B n e a sR')
section txt
variable {B : Nat → Nat} {a b c e i j k m n p q t z f lf lj lf' lj' sd M M' br br' m' : Nat} {s s1 s2 : fl_I} {l l1 l2 : fl_L} {x : Int32} {v : Int64} {L : Lt} {W : Wt} {K : Kt} {N : Nt} {Q : Qt}
theorem rGF_rfl : rGF sd s l s l := ⟨fun _ _ _ _ _ => rfl, fun _ _ _ _ _ _ _ _ _ _ => rfl, fun _ _ _ => rfl⟩
theorem rGF_tr (h : rGF sd s l s1 l1) (g : rGF sd s1 l1 s2 l2) : rGF sd s l s2 l2 := ⟨fun q j a b c => (g.1 q j a b c).trans (h.1 q j a b c), fun j a b c d e f g' h' i => (g.2.1 j a b c d e f g' h' i).trans (h.2.1 j a b c d e f g' h' i), fun q j a => (g.2.2 q j a).trans (h.2.2 q j a)⟩
theorem rGF_N (h : rN s s1) : rGF sd s l s1 l := ⟨fun q j a _ _ => by rw [h.1 q a], fun j a _ b c d e _ _ _ => h.2 j a b c d e, fun _ _ _ => rfl⟩
theorem rGF_w (hq : q ≠ 60) (h1 : sw q * sd ≤ j) (h2 : j < sw q * sd + sw q) : rGF sd s l (wi s q j x) l := by
  refine ⟨fun r i a b c => ?_, fun j _ _ _ _ _ _ _ _ _ => by rw [wi_c (by omega)], fun _ _ _ => rfl⟩
  refine wi_g (fun e => ?_)
  obtain ⟨rfl, rfl⟩ := e
  omega
theorem rGF_wl (h1 : slw q * sd ≤ j) (h2 : j < slw q * sd + slw q) : rGF sd s l s (wl l q j v) := by
  refine ⟨fun _ _ _ _ _ => rfl, fun j _ _ _ _ _ _ _ _ _ => rfl, fun r i c => wl_g (fun e => ?_)⟩
  obtain ⟨rfl, rfl⟩ := e
  omega
theorem sw_a (h : q < 68 ∨ 90 < q) : sw q = 0 := by unfold sw; rw [if_neg (by omega), if_neg (by omega), if_neg (by omega), if_neg (by omega), if_neg (by omega), if_neg (by omega)]
theorem rGF_l (h : rFl sd br M s s1) (hb : 130 * sd ≤ br) (hM : 420 * sd ≤ M) : rGF sd s l s1 l := by
  obtain ⟨h1, h2, h3, h4, h5⟩ := h
  refine ⟨fun q j a b c => ?_, fun j a b c d _ _ e f g => h5 j a b c d e f g, fun _ _ _ => rfl⟩
  by_cases e1 : q < 82 ∨ 90 < q
  · rw [h1 q a b e1]
  · by_cases e2 : q = 82 ∨ q = 83
    · have : sw q = 3 := by rcases e2 with rfl | rfl <;> rfl
      rw [this] at c
      exact h2 q j e2 (by omega)
    · by_cases e3 : q ≤ 88
      · have : sw q = 130 := by unfold sw; rw [if_neg (by omega), if_neg (by omega), if_neg (by omega), if_neg (by omega), if_pos (by omega)]
        rw [this] at c
        exact h3 q j (by omega) e3 (by omega)
      · have : sw q = 420 := by unfold sw; rw [if_neg (by omega), if_neg (by omega), if_neg (by omega), if_neg (by omega), if_neg (by omega), if_pos (by omega)]
        rw [this] at c
        exact h4 q j (by omega) (by omega) (by omega)
theorem gL_k (h0 : s1 t 0 = s t 0) (h3 : s1 t 3 = s t 3) (h4 : s1 (t + 4) = s (t + 4)) (h5 : s1 (t + 5) = s (t + 5)) (h6 : s1 (t + 6) = s (t + 6)) (hl : l1 (t + 1) = l (t + 1)) (h : gL t L s l) : gL t L s1 l1 := by unfold gL at *; rw [h0, h3, h4, h5, h6, hl]; exact h
theorem gW_k (h1 : s1 t 1 = s t 1) (hl : l1 (t + 2) = l (t + 2)) (h : gW t W s l) : gW t W s1 l1 := by unfold gW at *; rw [h1, hl]; exact h
theorem gK_k (h1 : s1 t 2 = s t 2) (h7 : s1 (t + 7) = s (t + 7)) (h8 : s1 (t + 8) = s (t + 8)) (hl : l1 (t + 3) = l (t + 3)) (h : gK t K s l) : gK t K s1 l1 := by unfold gK at *; rw [h1, h7, h8, hl]; exact h
theorem gN_k (h5 : s1 t 15 = s t 15) (h6 : s1 t 16 = s t 16) (h7 : s1 t 17 = s t 17) (h8 : s1 t 18 = s t 18) (h : gN t N s) : gN t N s1 := by unfold gN at *; rw [h5, h6, h7, h8]; exact h
theorem gQ_k (h9 : ∀ j, j < m → s1 (t + 9) j = s (t + 9) j) (h10 : s1 (t + 10) = s (t + 10)) (hm : m ≤ m') (h : gQ t m Q s) : gQ t m' Q s1 := by
  intro k hk
  obtain ⟨p, q, h1, h2, h3⟩ := h k hk
  exact ⟨p, q, by rw [h10]; exact h1, cPr_k h2 (fun j _ b => h9 j (by omega)), by omega⟩
theorem hL_k (h8 : s1 68 = s 68) (h0 : s1 70 = s 70) (h1 : s1 71 = s 71) (hl : l1 69 = l 69) (h : hL sd L s l) : hL sd L s1 l1 := by unfold hL at *; rw [h8, h0, h1, hl]; exact h
theorem hW_k (h8 : s1 72 = s 72) (hl : l1 73 = l 73) (h : hW sd W s l) : hW sd W s1 l1 := by unfold hW at *; rw [h8, hl]; exact h
theorem hK_k (h4 : s1 74 = s 74) (h6 : s1 76 = s 76) (h7 : s1 77 = s 77) (h8 : s1 78 = s 78) (hl : l1 75 = l 75) (h : hK sd K s l) : hK sd K s1 l1 := by unfold hK at *; rw [h4, h6, h7, h8, hl]; exact h
theorem hN_k (h9 : s1 79 = s 79) (h0 : s1 80 = s 80) (h1 : s1 81 = s 81) (h : hN sd N s) : hN sd N s1 := by unfold hN at *; rw [h9, h0, h1]; exact h
theorem rLw_k (h : ∀ q, 82 ≤ q → q ≤ 90 → s1 q = s q) (g : rLw sd M br Q.1 Q.2 s) : rLw sd M br Q.1 Q.2 s1 := rLw_keep g (Nat.le_refl M) (Nat.le_refl br) (fun q j a b _ _ => by rw [h q (by omega) (by omega)]) (fun q j a b _ _ => by rw [h q (by omega) (by omega)]) (fun q j a b _ _ => by rw [h q (by omega) (by omega)])
theorem tL_l (h : tL lf L) (g : lf' = 0 → lf = 0) : tL lf' L := ⟨h.1, h.2.1, fun e => h.2.2 (g e)⟩
theorem tK_l (h : tKp lf K) (g : lf' = 0 → lf = 0) : tKp lf' K := ⟨h.1, h.2.1, fun e => h.2.2 (g e)⟩
theorem tN_l (h : tNn lf N) (g : lf' = 0 → lf = 0) : tNn lf' N := ⟨h.1, h.2.1, fun e => h.2.2 (g e)⟩
theorem stq_z {T : Nat → Nat} : stq T c (0, a) = tkE T c a := if_pos rfl
theorem outB {n t sd k : Nat} {sR : fl_I} {lR : fl_L} {rC : Int32 × fl_I × fl_L} {pC : Prop} {rR : fl_I × fl_L} {pR : Prop} {sC' : fl_I} {lC' : fl_L} {sR' : fl_I} {lR' : fl_L} (h1 : pC) (h2 : pR) (h3 : rC = (nI 0, sC', lC')) (h4 : rR = (sR', lR')) (h5 : rGF sd sR lR sR' lR') (h6 : sC' 3 3 = nI e) (h7 : sC' 3 0 = nI (tP B n a)) (h8 : rBd B n e a sR') : Out B n t sd k sR lR rC pC rR pR := ⟨h1, h2, _, _, _, _, _, h3, h4, h5, .inr ⟨e, a, rfl, h6, h7, h8⟩⟩
theorem outG {n t sd k : Nat} {sR : fl_I} {lR : fl_L} {rC : Int32 × fl_I × fl_L} {pC : Prop} {rR : fl_I × fl_L} {pR : Prop} {sC' : fl_I} {lC' : fl_L} {sR' : fl_I} {lR' : fl_L} (h1 : pC) (h2 : pR) (h3 : rC = (nI 1, sC', lC')) (h4 : rR = (sR', lR')) (h5 : rGF sd sR lR sR' lR') (hk : k < a) (h6 : CJ B n t a m lf lj L W K N Q sC' lC') (h7 : RJ B n sd a M br lf lj L W K N Q sR' lR') (h8 : TJ lf L W K N Q) : Out B n t sd k sR lR rC pC rR pR := ⟨h1, h2, _, _, _, _, _, h3, h4, h5, .inl ⟨a, m, lf, lj, M, br, L, W, K, N, Q, rfl, hk, h6, h7, h8⟩⟩
end txt
