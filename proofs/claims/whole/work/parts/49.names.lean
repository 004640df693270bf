/-! Names: packed by five bits in the class, in base 27 in the reference -/
section nam
variable {fu i v : Nat} {L M : List Nat}
def sgn (L : List Nat) (i : Nat) : Nat := L.getD i 0
theorem sgn_0 {x : Nat} {L : List Nat} : sgn (x :: L) 0 = x := rfl
theorem sgn_s {x i : Nat} {L : List Nat} : sgn (x :: L) (i + 1) = sgn L i := by unfold sgn; simp
theorem sgn_n {i : Nat} : sgn [] i = 0 := by unfold sgn; simp
theorem p5_lt (h : ∀ x ∈ L, x ≤ 26) : p5 L < 2 ^ (5 * L.length) := by
  induction L with
  | nil => show 0 < 2 ^ 0; omega
  | cons x L ih =>
    have h1 := ih (fun y hy => h y (List.mem_cons_of_mem x hy))
    have h2 := h x (List.mem_cons_self ..)
    show x + 32 * p5 L < 2 ^ (5 * (L.length + 1))
    rw [Nat.mul_add, Nat.pow_add]
    show x + 32 * p5 L < 2 ^ (5 * L.length) * 32
    omega
theorem p5_at (h : ∀ x ∈ L, x ≤ 26) : p5 L / 2 ^ (5 * i) % 32 = sgn L i := by
  induction L generalizing i with
  | nil => rw [sgn_n]; show 0 / _ % 32 = 0; rw [Nat.zero_div]
  | cons x L ih =>
    have h2 := h x (List.mem_cons_self ..)
    cases i with
    | zero => show (x + 32 * p5 L) / 2 ^ 0 % 32 = x; rw [Nat.pow_zero, Nat.div_one]; omega
    | succ i =>
      rw [sgn_s, ← ih (fun y hy => h y (List.mem_cons_of_mem x hy))]
      show (x + 32 * p5 L) / 2 ^ (5 * (i + 1)) % 32 = _
      rw [Nat.mul_add, Nat.add_comm (5 * i), Nat.pow_add, ← Nat.div_div_eq_div_mul]
      congr 2
      show (x + 32 * p5 L) / 32 = p5 L
      omega
theorem and31 (n : Nat) : nI n &&& nI 31 = nI (n % 32) := by
  rw [pk_and (nI n) 5 (by decide)]
  congr 1
  show (BitVec.ofNat 32 n).toNat % 2 ^ 5 = _
  rw [BitVec.toNat_ofNat]
  omega
theorem lu_c : ∀ k : Fin 64, ((nI k.1).toInt64.toUInt64 &&& Int64.toUInt64 63) = UInt64.ofNat k.1 := by decide +kernel
theorem lu_n {a k : Nat} (h : a < 2 ^ 62) (hk : k < 64) : l_ushr (lN a) (nI k) = lN (a / 2 ^ k) := by
  show ((lN a).toUInt64 >>> ((nI k).toInt64.toUInt64 &&& Int64.toUInt64 63)).toInt64 = _
  rw [lu_c ⟨k, hk⟩]
  have hd : a / 2 ^ k ≤ a := Nat.div_le_self _ _
  have e : (lN a).toUInt64 >>> (UInt64.ofNat k) = UInt64.ofNat (a / 2 ^ k) := UInt64.toNat_inj.mp (by
    rw [UInt64.toNat_shiftRight, UInt64.toNat_ofNat', UInt64.toNat_ofNat', Nat.mod_eq_of_lt (show k < 2 ^ 64 by omega), Nat.mod_eq_of_lt hk, Nat.shiftRight_eq_div_pow]
    show (UInt64.ofNat a).toNat / 2 ^ k = _
    rw [UInt64.toNat_ofNat', Nat.mod_eq_of_lt (by omega), Nat.mod_eq_of_lt (by omega)])
  rw [e]
  rfl
theorem signAt_n (h : ∀ x ∈ L, x ≤ 26) (hl : L.length ≤ 8) (hi : i < 8) : f_X11_signAt fu (lN (p5 L)) (nI i) = nI (sgn L i) := by
  unfold f_X11_signAt
  have hp := p5_lt h
  have hp2 : 2 ^ (5 * L.length) ≤ 2 ^ 40 := Nat.pow_le_pow_right (by omega) (by omega)
  have e : l_ushr (lN (p5 L)) (nI (5 * i)) = lN (p5 L / 2 ^ (5 * i)) := lu_n (by omega) (by omega)
  simp (disch := omega) only [ln_, leT, leF, ltT, ltF, eqT, eqF, vpT, nlT, nleT, lnF, lenF, eqnF, neqF, nnF, nI_add, pk_mul, pk_div, pk_sub, ni_m, nI_clamp, md10, dm10, gI_l, gI_n, ar_t, ar_f, it_t, it_f, true_and, and_true, not_true_eq_false, not_false_eq_true, implies_true, and_self, eq_self, e, lN_i, and31, p5_at h]
theorem p_signAtT {x : Int64} {y : Int32} : p_X11_signAt fu x y = True := eq_true ⟨fun _ => trivial, fun _ => ⟨fun _ => trivial, fun _ => trivial⟩⟩
theorem sgn_get {L : List Nat} {i : Nat} (hi : i < L.length) : sgn L i = L[i] := by
  show (L[i]?).getD 0 = _
  rw [List.getElem?_eq_getElem hi]; rfl
theorem sgn_in (hi : i < L.length) : sgn L i ∈ L := by
  rw [sgn_get hi]
  exact List.getElem_mem hi
theorem sgn_out (hi : L.length ≤ i) : sgn L i = 0 := by
  show (L[i]?).getD 0 = _
  rw [List.getElem?_eq_none hi]; rfl
theorem c_len (hfu : 20000 ≤ fu) (h : okW L) : p_X11_nameLength fu (lN (p5 L)) ∧ f_X11_nameLength fu (lN (p5 L)) = nI L.length := by
  obtain ⟨h1, h2, h3⟩ := h
  have hs := fun i (hi : i < 8) => signAt_n (fu := fu) (fun x hx => (h3 x hx).2) h2 hi
  refine loop_i (fun n i (_ : Unit) => p_X11_nameLength_2 fu n (lN (p5 L)) (nI i) ∧ f_X11_nameLength_2 fu n (lN (p5 L)) (nI i) = nI L.length) (fun _ _ => True) L.length ?_ ?_ fu 0 () (Nat.zero_le _) (by omega) trivial
  · intro n _ _
    unfold p_X11_nameLength_2 f_X11_nameLength_2
    by_cases e : L.length < 8
    · have hz := hs L.length e
      rw [sgn_out (Nat.le_refl _)] at hz
      simp (disch := omega) only [ln_, leT, leF, ltT, ltF, eqT, eqF, vpT, nlT, nleT, lnF, lenF, eqnF, neqF, nnF, nI_add, pk_mul, pk_div, pk_sub, ni_m, nI_clamp, md10, dm10, gI_l, gI_n, ar_t, ar_f, it_t, it_f, true_and, and_true, not_true_eq_false, not_false_eq_true, implies_true, and_self, eq_self, hz, p_signAtT]
    · simp (disch := omega) only [ln_, leT, leF, ltT, ltF, eqT, eqF, vpT, nlT, nleT, lnF, lenF, eqnF, neqF, nnF, nI_add, pk_mul, pk_div, pk_sub, ni_m, nI_clamp, md10, dm10, gI_l, gI_n, ar_t, ar_f, it_t, it_f, true_and, and_true, not_true_eq_false, not_false_eq_true, implies_true, and_self, eq_self]
  · intro n i _ hi _ ih
    have hz := hs i (by omega)
    have hm := h3 _ (sgn_in hi)
    unfold p_X11_nameLength_2 f_X11_nameLength_2
    simp (disch := omega) only [ln_, leT, leF, ltT, ltF, eqT, eqF, vpT, nlT, nleT, lnF, lenF, eqnF, neqF, nnF, nI_add, pk_mul, pk_div, pk_sub, ni_m, nI_clamp, md10, dm10, gI_l, gI_n, ar_t, ar_f, it_t, it_f, true_and, and_true, not_true_eq_false, not_false_eq_true, implies_true, and_self, eq_self, hz, p_signAtT]
    exact ih () trivial
theorem c_has (hfu : 20000 ≤ fu) (h : okW L) (hv1 : 1 ≤ v) (hv : v ≤ 26) : p_X7_hasSign fu (lN (p5 L)) (nI v) ∧ f_X7_hasSign fu (lN (p5 L)) (nI v) = if v ∈ L then nI 1 else nI 0 := by
  obtain ⟨h1, h2, h3⟩ := h
  have hs := fun i (hi : i < 8) => signAt_n (fu := fu) (fun x hx => (h3 x hx).2) h2 hi
  refine loop_i (fun n i (_ : Unit) => p_X7_hasSign_2 fu n (lN (p5 L)) (nI v) (nI i) ∧ f_X7_hasSign_2 fu n (lN (p5 L)) (nI v) (nI i) = if v ∈ L then nI 1 else nI 0) (fun i _ => ∀ j, j < i → sgn L j ≠ v) 8 ?_ ?_ fu 0 () (Nat.zero_le _) (by omega) (fun j hj => absurd hj (Nat.not_lt_zero j))
  · intro n _ hI
    have hno : v ∉ L := by
      intro hm
      obtain ⟨j, hj, e⟩ := List.getElem_of_mem hm
      refine hI j (by omega) ?_
      rw [sgn_get hj]; exact e
    unfold p_X7_hasSign_2 f_X7_hasSign_2
    simp (disch := omega) only [ln_, leT, leF, ltT, ltF, eqT, eqF, vpT, nlT, nleT, lnF, lenF, eqnF, neqF, nnF, nI_add, pk_mul, pk_div, pk_sub, ni_m, nI_clamp, md10, dm10, gI_l, gI_n, ar_t, ar_f, it_t, it_f, true_and, and_true, not_true_eq_false, not_false_eq_true, implies_true, and_self, eq_self, if_neg hno]
  · intro n i _ hi hI ih
    have hz := hs i hi
    have hb : sgn L i ≤ 26 := by
      rcases Nat.lt_or_ge i L.length with h | h
      · exact (h3 _ (sgn_in h)).2
      · rw [sgn_out h]; omega
    unfold p_X7_hasSign_2 f_X7_hasSign_2
    by_cases e : sgn L i = v
    · have hm : v ∈ L := by
        rcases Nat.lt_or_ge i L.length with h | h
        · rw [← e]; exact sgn_in h
        · rw [sgn_out h] at e; omega
      simp (disch := omega) only [ln_, leT, leF, ltT, ltF, eqT, eqF, vpT, nlT, nleT, lnF, lenF, eqnF, neqF, nnF, nI_add, pk_mul, pk_div, pk_sub, ni_m, nI_clamp, md10, dm10, gI_l, gI_n, ar_t, ar_f, it_t, it_f, true_and, and_true, not_true_eq_false, not_false_eq_true, implies_true, and_self, eq_self, hz, p_signAtT, if_pos hm]
    · simp (disch := omega) only [ln_, leT, leF, ltT, ltF, eqT, eqF, vpT, nlT, nleT, lnF, lenF, eqnF, neqF, nnF, nI_add, pk_mul, pk_div, pk_sub, ni_m, nI_clamp, md10, dm10, gI_l, gI_n, ar_t, ar_f, it_t, it_f, true_and, and_true, not_true_eq_false, not_false_eq_true, implies_true, and_self, eq_self, hz, p_signAtT]
      exact ih () (fun j hj => by
        by_cases e2 : j = i
        · subst e2; exact e
        · exact hI j (by omega))
theorem p27_lt (h : ∀ x ∈ M, x ≤ 26) : p27 M < 27 ^ M.length := by
  induction M with
  | nil => show 0 < 27 ^ 0; omega
  | cons x M ih =>
    have h1 := ih (fun y hy => h y (List.mem_cons_of_mem x hy))
    have h2 := h x (List.mem_cons_self ..)
    show x + 27 * p27 M < 27 ^ (M.length + 1)
    rw [Nat.pow_succ]
    omega
theorem p27_40 (h : ∀ x ∈ M, x ≤ 26) (hl : M.length ≤ 8) : p27 M < 2 ^ 40 := by
  have h1 := p27_lt h
  have h2 : 27 ^ M.length ≤ 27 ^ 8 := Nat.pow_le_pow_right (by omega) hl
  have h3 : (27 : Nat) ^ 8 < 2 ^ 40 := by decide
  omega
theorem p27_c {x : Nat} (hx : x ≤ 26) : p27 (x :: M) / 27 = p27 M ∧ p27 (x :: M) % 27 = x := by
  show (x + 27 * p27 M) / 27 = _ ∧ (x + 27 * p27 M) % 27 = x
  omega
theorem lcmp0 {n : Nat} (h : n < 2 ^ 63) : (lg_cmp (lN n) (0 : Int64) ≤ nI 0) = (n = 0) := by
  have e : (lg_cmp (lN n) (0 : Int64) ≤ nI 0) = (lN n ≤ lN 0) := propext (lg_cmp_le (lN n) 0)
  rw [e]
  exact propext ⟨fun h2 => by have := (pk_lLE h (by omega)).mp h2; omega, fun h2 => by rw [h2]; exact (pk_lLE (by omega) (by omega)).mpr (Nat.le_refl _)⟩
theorem lcmpE {a b : Nat} (ha : a < 2 ^ 63) (hb : b < 2 ^ 63) : (lg_cmp (lN a) (lN b) = nI 0) = (a = b) := by
  have e : (lg_cmp (lN a) (lN b) = nI 0) = (lN a = lN b) := propext (lg_cmp_eq (lN a) (lN b))
  rw [e]
  exact propext (pk_lEQ ha hb)
theorem ldiv27 {n : Nat} (h : n < 2 ^ 63) : lN n / (27 : Int64) = lN (n / 27) := pk_lDiv (b := 27) h (by omega) (by omega)
theorem lrem27 {n : Nat} (h : n < 2 ^ 63) : lN n - lN (n / 27) * (27 : Int64) = lN (n % 27) := by
  rw [← ldiv27 h]; exact pk_lRem (b := 27) h (by omega) (by omega)
theorem r_len4 : ∀ (M : List Nat) (n c : Nat), (∀ x ∈ M, 1 ≤ x ∧ x ≤ 26) → M.length ≤ 8 → M.length < n → p_X12_lengthOf_4 fu n (nI c) (lN (p27 M)) ∧ f_X12_lengthOf_4 fu n (nI c) (lN (p27 M)) = nI (c + M.length) := by
  intro M
  induction M with
  | nil =>
    intro n c _ _ hn
    obtain ⟨n, rfl⟩ : ∃ m, n = m + 1 := ⟨n - 1, by have : ([] : List Nat).length = 0 := rfl; omega⟩
    have h0 : (lg_cmp (lN (p27 [])) (0 : Int64) ≤ nI 0) = True := by rw [lcmp0 (by show 0 < _; omega)]; exact eq_true rfl
    unfold p_X12_lengthOf_4 f_X12_lengthOf_4
    simp only [show (0 : Int32) = nI 0 from rfl, h0, ar_t, ar_f, it_t, it_f, true_and, and_true, not_true_eq_false, not_false_eq_true, implies_true, and_self, eq_self]
    rfl
  | cons x M ih =>
    intro n c h hl hn
    have hln : (x :: M).length = M.length + 1 := rfl
    obtain ⟨n, rfl⟩ : ∃ m, n = m + 1 := ⟨n - 1, by omega⟩
    have h40 := p27_40 (M := x :: M) (fun y hy => (h y hy).2) hl
    have hx := h x (List.mem_cons_self ..)
    have hc := p27_c (M := M) hx.2
    have h0 : (lg_cmp (lN (p27 (x :: M))) (0 : Int64) ≤ nI 0) = False := by rw [lcmp0 (by omega)]; exact eq_false (by have := hc.2; omega)
    have hd := ldiv27 (n := p27 (x :: M)) (by omega)
    rw [hc.1] at hd
    unfold p_X12_lengthOf_4 f_X12_lengthOf_4
    simp only [show (0 : Int32) = nI 0 from rfl, h0, hd, nI_1, ar_t, ar_f, it_t, it_f, true_and, and_true, not_true_eq_false, not_false_eq_true, implies_true, and_self, eq_self]
    have := ih n (c + 1) (fun y hy => h y (List.mem_cons_of_mem x hy)) (by omega) (by omega)
    rw [hln, show c + (M.length + 1) = c + 1 + M.length from by omega]
    exact this
theorem r_len (hfu : 20000 ≤ fu) (h : ∀ x ∈ M, 1 ≤ x ∧ x ≤ 26) (hl : M.length ≤ 8) : p_X12_lengthOf fu (lN (p27 M)) ∧ f_X12_lengthOf fu (lN (p27 M)) = nI M.length := by
  have := r_len4 (fu := fu) M fu 0 h hl (by omega)
  rw [Nat.zero_add] at this
  exact this
theorem r_times5 (hv : v ≤ 26) : ∀ (M : List Nat) (n c : Nat), (∀ x ∈ M, 1 ≤ x ∧ x ≤ 26) → M.length ≤ 8 → M.length < n → p_X12_timesIn_5 fu n (nI v) (nI c) (lN (p27 M)) ∧ f_X12_timesIn_5 fu n (nI v) (nI c) (lN (p27 M)) = nI (c + M.count v) := by
  intro M
  induction M with
  | nil =>
    intro n c _ _ hn
    obtain ⟨n, rfl⟩ : ∃ m, n = m + 1 := ⟨n - 1, by have : ([] : List Nat).length = 0 := rfl; omega⟩
    have h0 : (lg_cmp (lN (p27 [])) (0 : Int64) ≤ nI 0) = True := by rw [lcmp0 (by show 0 < _; omega)]; exact eq_true rfl
    unfold p_X12_timesIn_5 f_X12_timesIn_5
    simp only [show (0 : Int32) = nI 0 from rfl, h0, ar_t, ar_f, it_t, it_f, true_and, and_true, not_true_eq_false, not_false_eq_true, implies_true, and_self, eq_self]
    rfl
  | cons x M ih =>
    intro n c h hl hn
    have hln : (x :: M).length = M.length + 1 := rfl
    obtain ⟨n, rfl⟩ : ∃ m, n = m + 1 := ⟨n - 1, by omega⟩
    have h40 := p27_40 (M := x :: M) (fun y hy => (h y hy).2) hl
    have hx := h x (List.mem_cons_self ..)
    have hc := p27_c (M := M) hx.2
    have h0 : (lg_cmp (lN (p27 (x :: M))) (0 : Int64) ≤ nI 0) = False := by rw [lcmp0 (by omega)]; exact eq_false (by have := hc.2; omega)
    have hd := ldiv27 (n := p27 (x :: M)) (by omega)
    have hr := lrem27 (n := p27 (x :: M)) (by omega)
    rw [hc.2] at hr
    rw [hc.1] at hd hr
    have hvl : (nI v).toInt64 = lN v := nI_l (by omega)
    have hce := lcmpE (a := x) (b := v) (by omega) (by omega)
    have hi := fun c => ih n c (fun y hy => h y (List.mem_cons_of_mem x hy)) (by omega) (by omega)
    unfold p_X12_timesIn_5 f_X12_timesIn_5
    by_cases e : x = v
    · have hct : c + (x :: M).count v = c + 1 + M.count v := by rw [List.count_cons, if_pos (by simp [e])]; omega
      have hce2 : (lg_cmp (lN x) (lN v) = nI 0) = True := by rw [hce]; exact eq_true e
      simp only [show (0 : Int32) = nI 0 from rfl, h0, hd, hr, hvl, hce2, nI_1, ar_t, ar_f, it_t, it_f, true_and, and_true, not_true_eq_false, not_false_eq_true, implies_true, and_self, eq_self]
      rw [hct]; exact hi (c + 1)
    · have hct : (x :: M).count v = M.count v := by rw [List.count_cons, if_neg (by simp [e])]; omega
      have hce2 : (lg_cmp (lN x) (lN v) = nI 0) = False := by rw [hce]; exact eq_false e
      simp only [show (0 : Int32) = nI 0 from rfl, h0, hd, hr, hvl, hce2, nI_1, ar_t, ar_f, it_t, it_f, true_and, and_true, not_true_eq_false, not_false_eq_true, implies_true, and_self, eq_self]
      rw [hct]; exact hi c
theorem r_times (hfu : 20000 ≤ fu) (h : okW L) (hv : v ≤ 26) : p_X12_timesIn fu (lN (p27 L.reverse)) (nI v) ∧ f_X12_timesIn fu (lN (p27 L.reverse)) (nI v) = nI (L.count v) := by
  have := r_times5 (fu := fu) hv L.reverse fu 0 (fun x hx => h.2.2 x (List.mem_reverse.mp hx)) (by rw [List.length_reverse]; exact h.2.1) (by rw [List.length_reverse]; have := h.2.1; omega)
  rw [Nat.zero_add, List.count_reverse] at this
  exact this
theorem r_lenW (hfu : 20000 ≤ fu) (h : okW L) : p_X12_lengthOf fu (lN (p27 L.reverse)) ∧ f_X12_lengthOf fu (lN (p27 L.reverse)) = nI L.length := by
  have := r_len (fu := fu) (M := L.reverse) hfu (fun x hx => h.2.2 x (List.mem_reverse.mp hx)) (by rw [List.length_reverse]; exact h.2.1)
  rw [List.length_reverse] at this
  exact this
theorem r_sign10 (hi : i < 8) : ∀ (d n : Nat) (M : List Nat), (∀ x ∈ M, 1 ≤ x ∧ x ≤ 26) → M.length ≤ 8 → d < M.length → d < n → p_X12_signAt_10 fu n (nI i) (lN (p27 M)) (nI (i + d)) ∧ f_X12_signAt_10 fu n (nI i) (lN (p27 M)) (nI (i + d)) = nI (sgn M d) := by
  intro d
  induction d with
  | zero =>
    intro n M h hl hd hn
    obtain ⟨n, rfl⟩ : ∃ m, n = m + 1 := ⟨n - 1, by omega⟩
    cases M with
    | nil => exact absurd hd (Nat.not_lt_zero _)
    | cons x M =>
      have h40 := p27_40 (M := x :: M) (fun y hy => (h y hy).2) hl
      have hx := h x (List.mem_cons_self ..)
      have hc := p27_c (M := M) hx.2
      have hdv := ldiv27 (n := p27 (x :: M)) (by omega)
      have hr := lrem27 (n := p27 (x :: M)) (by omega)
      rw [hc.2] at hr
      rw [hc.1] at hdv hr
      unfold p_X12_signAt_10 f_X12_signAt_10
      rw [Nat.add_zero]
      have hle : (nI i ≤ nI i) = True := eq_true (nI_le (Nat.le_refl i) (by omega))
      simp only [hle, hdv, hr, lN_i, ar_t, ar_f, it_t, it_f, true_and, and_true, not_true_eq_false, not_false_eq_true, implies_true, and_self, eq_self]
      rfl
  | succ d ih =>
    intro n M h hl hd hn
    obtain ⟨n, rfl⟩ : ∃ m, n = m + 1 := ⟨n - 1, by omega⟩
    cases M with
    | nil => exact absurd hd (Nat.not_lt_zero _)
    | cons x M =>
      have hln : (x :: M).length = M.length + 1 := rfl
      have h40 := p27_40 (M := x :: M) (fun y hy => (h y hy).2) hl
      have hx := h x (List.mem_cons_self ..)
      have hc := p27_c (M := M) hx.2
      have hdv := ldiv27 (n := p27 (x :: M)) (by omega)
      rw [hc.1] at hdv
      unfold p_X12_signAt_10 f_X12_signAt_10
      have hle : (nI (i + (d + 1)) ≤ nI i) = False := eq_false (nI_ge (by omega) (by omega))
      have hm : nI (i + (d + 1)) + (-1 : Int32) = nI (i + d) := ni_m (a := i + (d + 1)) (b := 1) (by omega)
      simp only [hle, hdv, hm, ar_t, ar_f, it_t, it_f, true_and, and_true, not_true_eq_false, not_false_eq_true, implies_true, and_self, eq_self]
      rw [sgn_s]
      exact ih n M (fun y hy => h y (List.mem_cons_of_mem x hy)) (by omega) (by omega) (by omega)
theorem r_signAt (hfu : 20000 ≤ fu) (h : okW L) (hi : i < L.length) : p_X12_signAt fu (lN (p27 L.reverse)) (nI i) ∧ f_X12_signAt fu (lN (p27 L.reverse)) (nI i) = nI (sgn L i) := by
  have hl := r_lenW (fu := fu) hfu h
  have h8 := h.2.1
  have := r_sign10 (fu := fu) (i := i) (by omega) (L.length - 1 - i) fu L.reverse (fun x hx => h.2.2 x (List.mem_reverse.mp hx)) (by rw [List.length_reverse]; exact h8) (by rw [List.length_reverse]; omega) (by omega)
  rw [show i + (L.length - 1 - i) = L.length - 1 from by omega] at this
  have hs : sgn L.reverse (L.length - 1 - i) = sgn L i := by
    rw [sgn_get (by rw [List.length_reverse]; omega), sgn_get hi, List.getElem_reverse]
    congr 1; omega
  rw [hs] at this
  unfold p_X12_signAt f_X12_signAt
  rw [hl.2, show nI L.length - 1 = nI (L.length - 1) from pk_sub (b := 1) (by omega)]
  exact ⟨⟨hl.1, this.1⟩, this.2⟩
end nam
