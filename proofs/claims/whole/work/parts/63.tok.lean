/-! What a text is cut into -/
def rnF (f : Nat → Bool) (B : Nat → Nat) : Nat → Nat → Nat
  | 0, _ => 0
  | m + 1, p => if f (B p) = true then rnF f B m (p + 1) + 1 else 0
def isBl (c : Nat) : Bool := decide (c = 9 ∨ c = 10 ∨ c = 13 ∨ c = 32)
def isLt (c : Nat) : Bool := decide (97 ≤ c ∧ c ≤ 122)
def isDg (c : Nat) : Bool := decide (48 ≤ c ∧ c ≤ 57)
def isSg (c : Nat) : Bool := decide (c = 40 ∨ c = 41 ∨ c = 42 ∨ c = 43 ∨ c = 45 ∨ c = 47 ∨ c = 59 ∨ c = 60 ∨ c = 61)
def wL (B : Nat → Nat) (p : Nat) : Nat → List Nat
  | 0 => []
  | k + 1 => wL B p k ++ [B (p + k) - 96]
def dV (B : Nat → Nat) (p : Nat) : Nat → Nat
  | 0 => 0
  | k + 1 => 10 * dV B p k + (B (p + k) - 48)
def kwL (w : List Nat) : Nat → Nat
  | 0 => 2
  | k + 1 => if kw k = w then 256 + k else kwL w k
def tp0 (B : Nat → Nat) (n p : Nat) : Nat := p + rnF isBl B (n - p) p
def tkK (B : Nat → Nat) (n p : Nat) : Nat :=
  if n ≤ p then 0 else if isLt (B p) = true then (if rnF isLt B (n - p) p ≤ 8 then kwL (wL B p (rnF isLt B (n - p) p)) 21 else 1)
  else if isDg (B p) = true then (if rnF isDg B (n - p) p ≤ 4 then 3 else 1) else if isSg (B p) = true then B p else 1
def tkN (B : Nat → Nat) (n p : Nat) : Nat :=
  if n ≤ p then 0 else if isLt (B p) = true then rnF isLt B (n - p) p else if isDg (B p) = true then rnF isDg B (n - p) p else 1
def qP (B : Nat → Nat) (n : Nat) : Nat → Nat
  | 0 => 0
  | k + 1 => tp0 B n (qP B n k) + tkN B n (tp0 B n (qP B n k))
def tP (B : Nat → Nat) (n k : Nat) : Nat := tp0 B n (qP B n k)
def tK (B : Nat → Nat) (n k : Nat) : Nat := tkK B n (tP B n k)
def tW (B : Nat → Nat) (n k : Nat) : List Nat := wL B (tP B n k) (tkN B n (tP B n k))
def tV (B : Nat → Nat) (n k : Nat) : Nat := dV B (tP B n k) (tkN B n (tP B n k))
theorem sh_l : ∀ k : Fin 8, (((nI (5 * k.1)).toInt64 &&& 63).toBitVec.smod 64).toNat = 5 * k.1 := by decide +kernel
theorem kw_inj : ∀ i j : Fin 21, kw i.1 = kw j.1 → i = j := by decide +kernel
theorem kw_ok : ∀ i : Fin 21, (1 ≤ (kw i.1).length ∧ (kw i.1).length ≤ 8) ∧ (kw i.1).all (fun x => decide (1 ≤ x ∧ x ≤ 26)) = true := by decide +kernel
section tok
variable {B : Nat → Nat} {f : Nat → Bool} {a c i j k m n p q : Nat} {w : List Nat} {s s1 : fl_I} {l : fl_L} {fu : Nat} {x y z : Int32}
theorem rn_le : rnF f B m p ≤ m := by
  induction m generalizing p with
  | zero => exact Nat.le_refl _
  | succ m ih => unfold rnF; split
                 · have := @ih (p + 1); omega
                 · omega
theorem rn_in (h : i < rnF f B m p) : f (B (p + i)) = true := by
  induction m generalizing p i with
  | zero => exact absurd h (Nat.not_lt_zero i)
  | succ m ih =>
    unfold rnF at h
    by_cases e : f (B p) = true
    · rw [if_pos e] at h
      cases i with
      | zero => exact e
      | succ i => have := ih (p := p + 1) (i := i) (by omega); rwa [show p + 1 + i = p + (i + 1) from by omega] at this
    · rw [if_neg e] at h; omega
theorem rn_out (h : rnF f B m p < m) : f (B (p + rnF f B m p)) = false := by
  induction m generalizing p with
  | zero => omega
  | succ m ih =>
    unfold rnF at h ⊢
    by_cases e : f (B p) = true
    · rw [if_pos e] at h ⊢
      have := @ih (p + 1) (by omega); rwa [show p + 1 + rnF f B m (p + 1) = p + (rnF f B m (p + 1) + 1) from by omega] at this
    · rw [if_neg e]; simpa using e
theorem rn_pos (h : f (B p) = true) : rnF f B (m + 1) p = rnF f B m (p + 1) + 1 := by show (if f (B p) = true then _ else _) = _; rw [if_pos h]
theorem wL_len : (wL B p k).length = k := by
  induction k with
  | zero => rfl
  | succ k ih => show (wL B p k ++ [_]).length = k + 1; rw [List.length_append, ih]; rfl
theorem wL_in (h : ∀ i, i < k → isLt (B (p + i)) = true) : ∀ x ∈ wL B p k, 1 ≤ x ∧ x ≤ 26 := by
  induction k with
  | zero => intro x hx; exact absurd hx (List.not_mem_nil)
  | succ k ih =>
    intro x hx
    rcases List.mem_append.mp (show x ∈ wL B p k ++ [B (p + k) - 96] from hx) with h1 | h1
    · exact ih (fun i hi => h i (by omega)) x h1
    · have e := List.mem_singleton.mp h1
      have := h k (by omega)
      unfold isLt at this
      have := of_decide_eq_true this
      omega
theorem p5_app : p5 (w ++ [c]) = p5 w + c * 2 ^ (5 * w.length) := by
  induction w with
  | nil => show c + 32 * 0 = 0 + c * 1; omega
  | cons x w ih =>
    show x + 32 * p5 (w ++ [c]) = x + 32 * p5 w + c * 2 ^ (5 * (w.length + 1))
    rw [ih, Nat.mul_add 5, Nat.pow_add]
    show x + 32 * (p5 w + c * 2 ^ (5 * w.length)) = x + 32 * p5 w + c * (2 ^ (5 * w.length) * 32)
    rw [← Nat.mul_assoc, Nat.mul_comm (c * _) 32, Nat.mul_add]; omega
theorem p27_app : p27 (w ++ [c]).reverse = c + 27 * p27 w.reverse := by rw [List.reverse_append]; rfl
theorem shlN (ha : a < 2 ^ (5 * k)) (hk : k < 8) (hc : c < 32) : lN a ||| l_shl (lN c) (nI (5 * k)) = lN (a + c * 2 ^ (5 * k)) := by
  have h40 : 2 ^ (5 * k) ≤ 2 ^ 35 := Nat.pow_le_pow_right (by omega) (by omega)
  have hm : c * 2 ^ (5 * k) ≤ 31 * 2 ^ 35 := Nat.mul_le_mul (by omega) h40
  rw [← Int64.toBitVec_inj]
  show (lN a).toBitVec ||| ((lN c).toBitVec <<< (((nI (5 * k)).toInt64 &&& 63).toBitVec.smod 64)) = (lN (a + c * 2 ^ (5 * k))).toBitVec
  refine BitVec.eq_of_toNat_eq ?_
  rw [BitVec.toNat_or, BitVec.shiftLeft_eq', BitVec.toNat_shiftLeft, sh_l ⟨k, hk⟩]
  show (BitVec.ofNat 64 a).toNat ||| ((BitVec.ofNat 64 c).toNat <<< (5 * k) % 2 ^ 64) = (BitVec.ofNat 64 (a + c * 2 ^ (5 * k))).toNat
  rw [BitVec.toNat_ofNat, BitVec.toNat_ofNat, BitVec.toNat_ofNat, Nat.mod_eq_of_lt (show a < 2 ^ 64 by omega), Nat.mod_eq_of_lt (show c < 2 ^ 64 by omega), Nat.shiftLeft_eq, Nat.mod_eq_of_lt (show c * 2 ^ (5 * k) < 2 ^ 64 by omega), Nat.mod_eq_of_lt (show a + c * 2 ^ (5 * k) < 2 ^ 64 by omega), Nat.or_comm, Nat.mul_comm c, ← Nat.two_pow_add_eq_or_of_lt ha, Nat.add_comm]
theorem nI_64 (h : c < 2 ^ 31) : (nI c).toInt64 = lN c := by
  rw [← Int64.toInt_inj, Int32.toInt_toInt64, ni_T h]
  show _ = (Int64.ofNat c).toInt
  have hs : (Int64.size : Int) = 18446744073709551616 := rfl
  rw [Int64.toInt_ofNat', Int.bmod_eq_of_le (by omega) (by omega)]
theorem kwL_no (h : ∀ i, i < k → kw i ≠ w) : kwL w k = 2 := by
  induction k with
  | zero => rfl
  | succ k ih => show (if kw k = w then _ else _) = _; rw [if_neg (h k (by omega))]; exact ih (fun i hi => h i (by omega))
theorem kwL_yes (hk : k ≤ 21) (hi : i < k) (h : kw i = w) : kwL w k = 256 + i := by
  induction k with
  | zero => omega
  | succ k ih =>
    show (if kw k = w then _ else _) = _
    by_cases e : kw k = w
    · rw [if_pos e]
      have := kw_inj ⟨k, by omega⟩ ⟨i, by omega⟩ (by rw [e, h])
      have := congrArg Fin.val this
      dsimp only at this
      omega
    · rw [if_neg e]
      refine ih (by omega) ?_
      have : i ≠ k := fun e2 => e (e2 ▸ h)
      omega
theorem p5_inj (h : ∀ x ∈ w, 1 ≤ x ∧ x ≤ 26) {v : List Nat} (hv : ∀ x ∈ v, 1 ≤ x ∧ x ≤ 26) (e : p5 w = p5 v) : w = v := by
  induction w generalizing v with
  | nil =>
    cases v with
    | nil => rfl
    | cons y v => have := hv y (List.mem_cons_self ..); have e : 0 = y + 32 * p5 v := e; omega
  | cons x w ih =>
    have hx := h x (List.mem_cons_self ..)
    cases v with
    | nil => have e : x + 32 * p5 w = 0 := e; omega
    | cons y v =>
      have hy := hv y (List.mem_cons_self ..)
      have e : x + 32 * p5 w = y + 32 * p5 v := e
      have e1 : x = y := by omega
      rw [e1, ih (fun z hz => h z (List.mem_cons_of_mem x hz)) (fun z hz => hv z (List.mem_cons_of_mem y hz)) (by omega)]
theorem p27_inj (h : ∀ x ∈ w, 1 ≤ x ∧ x ≤ 26) {v : List Nat} (hv : ∀ x ∈ v, 1 ≤ x ∧ x ≤ 26) (e : p27 w = p27 v) : w = v := by
  induction w generalizing v with
  | nil =>
    cases v with
    | nil => rfl
    | cons y v => have := hv y (List.mem_cons_self ..); have e : 0 = y + 27 * p27 v := e; omega
  | cons x w ih =>
    have hx := h x (List.mem_cons_self ..)
    cases v with
    | nil => have e : x + 27 * p27 w = 0 := e; omega
    | cons y v =>
      have hy := hv y (List.mem_cons_self ..)
      have e : x + 27 * p27 w = y + 27 * p27 v := e
      have e1 : x = y := by omega
      rw [e1, ih (fun z hz => h z (List.mem_cons_of_mem x hz)) (fun z hz => hv z (List.mem_cons_of_mem y hz)) (by omega)]
theorem kw_in (hk : k < 21) : ∀ x ∈ kw k, 1 ≤ x ∧ x ≤ 26 := fun x hx => of_decide_eq_true (List.all_eq_true.mp (kw_ok ⟨k, hk⟩).2 x hx)
theorem kw_len (hk : k < 21) : (kw k).length ≤ 8 := (kw_ok ⟨k, hk⟩).1.2
theorem in26 (h : ∀ x ∈ w, 1 ≤ x ∧ x ≤ 26) : ∀ x ∈ w, x ≤ 26 := fun x hx => (h x hx).2
theorem p5_63 (h : ∀ x ∈ w, 1 ≤ x ∧ x ≤ 26) (hl : w.length ≤ 8) : p5 w < 2 ^ 63 := by
  have h1 := p5_lt (in26 h)
  have : 2 ^ (5 * w.length) ≤ 2 ^ 40 := Nat.pow_le_pow_right (by omega) (by omega)
  omega
theorem p27_63 (h : ∀ x ∈ w, 1 ≤ x ∧ x ≤ 26) (hl : w.length ≤ 8) : p27 w.reverse < 2 ^ 63 := by
  have := p27_40 (M := w.reverse) (fun x hx => (h x (List.mem_reverse.mp hx)).2) (by rw [List.length_reverse]; exact hl)
  omega
/-! bytes, as both ask for them -/
theorem cBl_d : ∀ c : Fin 256, f_X6_isBlank 0 (nI c.1) = if isBl c.1 = true then nI 1 else nI 0 := by decide +kernel
theorem cLt_d : ∀ c : Fin 256, f_X6_isLetter 0 (nI c.1) = if isLt c.1 = true then nI 1 else nI 0 := by decide +kernel
theorem cDg_d : ∀ c : Fin 256, f_X6_isDigit 0 (nI c.1) = if isDg c.1 = true then nI 1 else nI 0 := by decide +kernel
theorem cSg_d : ∀ c : Fin 256, f_X6_isSign 0 (nI c.1) = if isSg c.1 = true then nI 1 else nI 0 := by decide +kernel
theorem cBl (h : c < 256) : f_X6_isBlank fu (nI c) = if isBl c = true then nI 1 else nI 0 := cBl_d ⟨c, h⟩
theorem cLt (h : c < 256) : f_X6_isLetter fu (nI c) = if isLt c = true then nI 1 else nI 0 := cLt_d ⟨c, h⟩
theorem cDg (h : c < 256) : f_X6_isDigit fu (nI c) = if isDg c = true then nI 1 else nI 0 := cDg_d ⟨c, h⟩
theorem cSg (h : c < 256) : f_X6_isSign fu (nI c) = if isSg c = true then nI 1 else nI 0 := cSg_d ⟨c, h⟩
theorem rLt (h : c < 256) : f_X12_isLetter fu (nI c) = if isLt c = true then nI 1 else nI 0 := cLt_d ⟨c, h⟩
theorem rDg (h : c < 256) : f_X12_isDigit fu (nI c) = if isDg c = true then nI 1 else nI 0 := cDg_d ⟨c, h⟩
theorem pcBl : p_X6_isBlank fu x = True := by unfold p_X6_isBlank; simp only [implies_true, and_self]
theorem pcLt : p_X6_isLetter fu x = True := by unfold p_X6_isLetter; simp only [implies_true, and_self]
theorem pcDg : p_X6_isDigit fu x = True := by unfold p_X6_isDigit; simp only [implies_true, and_self]
theorem pcSg : p_X6_isSign fu x = True := by unfold p_X6_isSign; simp only [implies_true, and_self]
theorem prLt : p_X12_isLetter fu x = True := by unfold p_X12_isLetter; simp only [implies_true, and_self]
theorem prDg : p_X12_isDigit fu x = True := by unfold p_X12_isDigit; simp only [implies_true, and_self]
/-- the class's tape -/
def CB (B : Nat → Nat) (n : Nat) (s : fl_I) : Prop := n ≤ 2000 ∧ s 1 1 = nI n ∧ ∀ i, i < n → s 2 i &&& nI 255 = nI (B i) ∧ B i < 256
def RB (B : Nat → Nat) (n : Nat) (s : fl_I) : Prop := n ≤ 2000 ∧ s 60 4 = nI n ∧ ∀ i, i < n → s 62 i &&& nI 255 = nI (B i) ∧ B i < 256
theorem CB_of (hn : n ≤ 2000) (h : s 1 1 = nI n) : CB (fun i => (s 2 i).toBitVec.toNat % 256) n s := ⟨hn, h, fun i _ => ⟨pk_and (s 2 i) 8 (by decide), Nat.mod_lt _ (by omega)⟩⟩
theorem CB_keep (h1 : s1 1 = s 1) (h2 : s1 2 = s 2) (r : CB B n s) : CB B n s1 := ⟨r.1, by rw [h1]; exact r.2.1, by rw [h2]; exact r.2.2⟩
theorem c_byte (r : CB B n s) (h : p < n) : f_X4_byteAt fu (nI p) s l = nI (B p) ∧ p_X4_byteAt fu (nI p) s l := by
  obtain ⟨r1, r2, r3⟩ := r
  obtain ⟨b1, b2⟩ := r3 p h
  unfold f_X4_byteAt p_X4_byteAt
  simp (disch := omega) only [ln_, leT, leF, ltT, ltF, eqT, eqF, vpT, nlT, nleT, lnF, lenF, eqnF, neqF, nnF, nI_add, pk_mul, pk_div, pk_sub, ni_m, nI_clamp, md10, dm10, gI_l, gI_n, ar_t, ar_f, it_t, it_f, true_and, and_true, not_true_eq_false, not_false_eq_true, implies_true, and_self, eq_self, r2, b1]
theorem r_byte (r : RB B n s) (h : p < n) : f_X12_byteAt fu (nI p) s l = nI (B p) ∧ p_X12_byteAt fu (nI p) s l := by
  obtain ⟨r1, r2, r3⟩ := r
  obtain ⟨b1, b2⟩ := r3 p h
  unfold f_X12_byteAt p_X12_byteAt
  simp (disch := omega) only [ln_, leT, leF, ltT, ltF, eqT, eqF, vpT, nlT, nleT, lnF, lenF, eqnF, neqF, nnF, nI_add, pk_mul, pk_div, pk_sub, ni_m, nI_clamp, md10, dm10, gI_l, gI_n, ar_t, ar_f, it_t, it_f, true_and, and_true, not_true_eq_false, not_false_eq_true, implies_true, and_self, eq_self, r2, b1]
theorem r_byteE (r : RB B n s) (h : n ≤ p) (hp : p < 2 ^ 31) : f_X12_byteAt fu (nI p) s l = nI 0 ∧ p_X12_byteAt fu (nI p) s l := by
  obtain ⟨r1, r2, r3⟩ := r
  unfold f_X12_byteAt p_X12_byteAt
  simp (disch := omega) only [ln_, leT, leF, ltT, ltF, eqT, eqF, vpT, nlT, nleT, lnF, lenF, eqnF, neqF, nnF, nI_add, pk_mul, pk_div, pk_sub, ni_m, nI_clamp, md10, dm10, gI_l, gI_n, ar_t, ar_f, it_t, it_f, true_and, and_true, not_true_eq_false, not_false_eq_true, implies_true, and_self, eq_self, r2]
/-- only the place has changed -/
def c4S (s s1 : fl_I) : Prop := (∀ q, q ≠ 4 → s1 q = s q) ∧ ∀ j, j ≠ 4 → s1 4 j = s 4 j
theorem c4_rfl : c4S s s := ⟨fun _ _ => rfl, fun _ _ => rfl⟩
theorem c4_w (h : c4S s s1) : c4S s (wi s1 4 4 x) := ⟨fun q hq => by rw [wi_c hq]; exact h.1 q hq, fun j hj => by rw [wi_u, upd_n hj]; exact h.2 j hj⟩
theorem wl_o {v : Int64} (h : q ≠ j) : wl l j i v q = l q := by unfold wl sl; exact if_neg h
theorem wl_e {v : Int64} : wl l j i v j i = v := by unfold wl sl; rw [if_pos rfl]; exact if_pos rfl
theorem wl_x {v : Int64} (h : k ≠ i) : wl l j i v j k = l j k := by unfold wl sl; rw [if_pos rfl]; exact if_neg h
/-! the class -/
theorem c_skip {K : Int32 → Int32 → fl_I → fl_L → fl_I × fl_L} {PK : Int32 → Int32 → fl_I → fl_L → Prop} (hfu : 20000 ≤ fu) (cb : CB B n s) (hp : p ≤ n) (h44 : s 4 4 = nI p) : ∃ s', f_X6_split_20 fu K fu x s l = f_X6_split_58 fu K x s' l ∧ (p_X6_split_58 fu PK x s' l → p_X6_split_20 fu PK fu x s l) ∧ s' 4 4 = nI (tp0 B n p) ∧ c4S s s' := by
  have hr : rnF isBl B (n - p) p ≤ n - p := rn_le
  have n2 := cb.1
  unfold tp0
  generalize hR : rnF isBl B (n - p) p = r at hr ⊢
  refine loop_i (fun f i s0 => ∃ s', f_X6_split_20 fu K f x s0 l = f_X6_split_58 fu K x s' l ∧ (p_X6_split_58 fu PK x s' l → p_X6_split_20 fu PK f x s0 l) ∧ s' 4 4 = nI (p + r) ∧ c4S s s') (fun i s0 => s0 4 4 = nI (p + i) ∧ c4S s s0) r ?_ ?_ fu 0 s (Nat.zero_le _) (by omega) ⟨h44, c4_rfl⟩
  · intro f s0 ⟨h1, h2⟩
    have cb0 := CB_keep (h2.1 1 (by omega)) (h2.1 2 (by omega)) cb
    have h11 := cb0.2.1
    refine ⟨s0, ?_, ?_, h1, h2⟩
    · unfold f_X6_split_20
      by_cases e : n ≤ p + r
      · simp (disch := omega) only [ln_, leT, leF, ltT, ltF, eqT, eqF, vpT, nlT, nleT, lnF, lenF, eqnF, neqF, nnF, nI_add, pk_mul, pk_div, pk_sub, ni_m, nI_clamp, md10, dm10, gI_l, gI_n, ar_t, ar_f, it_t, it_f, true_and, and_true, not_true_eq_false, not_false_eq_true, implies_true, and_self, eq_self, h1, h11]
      · obtain ⟨b1, b2⟩ := c_byte (fu := fu) (l := l) cb0 (p := p + r) (by omega)
        have ho := rn_out (f := isBl) (B := B) (m := n - p) (p := p) (by rw [hR]; omega)
        rw [hR] at ho
        have b3 := cBl (fu := fu) (cb.2.2 (p + r) (by omega)).2
        rw [ho] at b3
        simp (disch := omega) only [ln_, leT, leF, ltT, ltF, eqT, eqF, vpT, nlT, nleT, lnF, lenF, eqnF, neqF, nnF, nI_add, pk_mul, pk_div, pk_sub, ni_m, nI_clamp, md10, dm10, gI_l, gI_n, ar_t, ar_f, it_t, it_f, true_and, and_true, not_true_eq_false, not_false_eq_true, implies_true, and_self, eq_self, h1, h11, b1, b3, Bool.false_eq_true]
    · intro hp58
      unfold p_X6_split_20
      by_cases e : n ≤ p + r
      · simp (disch := omega) only [ln_, leT, leF, ltT, ltF, eqT, eqF, vpT, nlT, nleT, lnF, lenF, eqnF, neqF, nnF, nI_add, pk_mul, pk_div, pk_sub, ni_m, nI_clamp, md10, dm10, gI_l, gI_n, ar_t, ar_f, it_t, it_f, true_and, and_true, not_true_eq_false, not_false_eq_true, implies_true, and_self, eq_self, h1, h11]; exact hp58
      · obtain ⟨b1, b2⟩ := c_byte (fu := fu) (l := l) cb0 (p := p + r) (by omega)
        have ho := rn_out (f := isBl) (B := B) (m := n - p) (p := p) (by rw [hR]; omega)
        rw [hR] at ho
        have b3 := cBl (fu := fu) (cb.2.2 (p + r) (by omega)).2
        rw [ho] at b3
        simp (disch := omega) only [ln_, leT, leF, ltT, ltF, eqT, eqF, vpT, nlT, nleT, lnF, lenF, eqnF, neqF, nnF, nI_add, pk_mul, pk_div, pk_sub, ni_m, nI_clamp, md10, dm10, gI_l, gI_n, ar_t, ar_f, it_t, it_f, true_and, and_true, not_true_eq_false, not_false_eq_true, implies_true, and_self, eq_self, h1, h11, b1, b2, b3, pcBl, Bool.false_eq_true]; exact hp58
  · intro f i s0 hi ⟨h1, h2⟩ ih
    have cb0 := CB_keep (h2.1 1 (by omega)) (h2.1 2 (by omega)) cb
    have h11 := cb0.2.1
    obtain ⟨b1, b2⟩ := c_byte (fu := fu) (l := l) cb0 (p := p + i) (by omega)
    have ho := rn_in (f := isBl) (B := B) (m := n - p) (p := p) (i := i) (by rw [hR]; omega)
    have b3 := cBl (fu := fu) (cb.2.2 (p + i) (by omega)).2
    rw [ho] at b3
    unfold f_X6_split_20 p_X6_split_20
    simp (disch := omega) only [ln_, leT, leF, ltT, ltF, eqT, eqF, vpT, nlT, nleT, lnF, lenF, eqnF, neqF, nnF, nI_add, pk_mul, pk_div, pk_sub, ni_m, nI_clamp, md10, dm10, gI_l, gI_n, ar_t, ar_f, it_t, it_f, true_and, and_true, not_true_eq_false, not_false_eq_true, implies_true, and_self, eq_self, h1, h11, b1, b2, b3, pcBl]
    exact ih _ ⟨by rw [wi_u, upd_s]; congr 1, c4_w h2⟩
end tok
