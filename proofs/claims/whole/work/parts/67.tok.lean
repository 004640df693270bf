/-! The reference cuts all -/
section rtk2
variable {B : Nat → Nat} {f : Nat → Bool} {a c i j k m n p q : Nat} {w : List Nat} {s s1 : fl_I} {l l1 : fl_L} {fu : Nat} {x y z : Int32} {v : Int64}
def rFr (s : fl_I) (l : fl_L) (s1 : fl_I) (l1 : fl_L) : Prop := (∀ q, q ≠ 60 → q ≠ 63 → q ≠ 64 → q ≠ 65 → s1 q = s q) ∧ (∀ j, j ≠ 10 → s1 60 j = s 60 j) ∧ ∀ q, q ≠ 66 → l1 q = l q
theorem tp0_bl (h : p < n) (hb : isBl (B p) = true) : tp0 B n (p + 1) = tp0 B n p := by
  unfold tp0
  rw [show n - p = (n - (p + 1)) + 1 from by omega, rn_pos hb]
  omega
theorem tp0_nb (h : p < n) (hb : isBl (B p) = false) : tp0 B n p = p := by
  unfold tp0
  rw [show n - p = (n - (p + 1)) + 1 from by omega]
  show p + (if isBl (B p) = true then _ else 0) = p
  rw [hb]; rfl
theorem rFr_t (h : rFr s l s1 l1) : rFr s l (tkS s1 k x y z) (wl l1 66 k v) := by
  unfold tkS
  refine ⟨fun q a b c d => ?_, fun j hj => ?_, fun q hq => ?_⟩
  · rw [wi_c a, wi_c d, wi_c c, wi_c b]; exact h.1 q a b c d
  · simp (disch := omega) only [wi_c, wi_u, upd_s, upd_n, su_r, su_c]; exact h.2.1 j hj
  · rw [wl_o hq]; exact h.2.2 q hq
theorem RF_old (hj : j ≠ k) (r : RF B n j s l) : RF B n j (tkS s k x y z) (wl l 66 k v) := by
  unfold RF tkS at *
  simp (disch := omega) only [wi_c, wi_u, upd_s, upd_n, su_r, su_c, wl_x hj]
  exact r
theorem RF_new (hx : x = nI (rk (tK B n k))) (hy : y = nI (tP B n k)) (hv : tK B n k = 2 ∨ 256 ≤ tK B n k → v = lN (p27 (tW B n k).reverse)) (hz : tK B n k = 3 → z = nI (tV B n k)) : RF B n k (tkS s k x y z) (wl l 66 k v) := by
  unfold RF tkS
  simp (disch := omega) only [wi_c, wi_u, upd_s, upd_n, su_r, su_c, wl_e]
  exact ⟨hx, hy, hv, hz⟩
theorem tk_bl (hL : isBl c = true) : isLt c = false ∧ isDg c = false := by
  have h := of_decide_eq_true hL
  exact ⟨decide_eq_false (by omega), decide_eq_false (by omega)⟩
theorem r_cut (hfu : 20000 ≤ fu) (rb : RB B n s) (hq : ∀ k, k < 21 → l 67 k = lN (p27 (kw k).reverse)) : ∃ s' l', f_X12_cut fu s l = (s', l') ∧ p_X12_cut fu s l ∧ (∀ k, k ≤ 400 → (∀ j, j < k → tK B n j ≠ 0) → RF B n k s' l') ∧ rFr s l s' l' := by
  have n2 := rb.1
  have hb := fun i hi => (rb.2.2 i hi).2
  have key : ∀ f p k s0 l0, n - p < f → p ≤ n → s0 60 10 = nI k → k ≤ 401 → tp0 B n p = tP B n k → (∀ j, j < k → tK B n j ≠ 0) → (∀ j, j < k → RF B n j s0 l0) → rFr s l s0 l0 →
      ∃ s' l', f_X12_cut_7 fu f (nI p) s0 l0 = (s', l') ∧ p_X12_cut_7 fu f (nI p) s0 l0 ∧ (∀ k, k ≤ 400 → (∀ j, j < k → tK B n j ≠ 0) → RF B n k s' l') ∧ rFr s l s' l' := by
    intro f
    induction f with
    | zero => intro p k s0 l0 h; omega
    | succ f ih =>
      intro p k s0 l0 hf hp h10 hk htp hne hrf hfr
      have rb0 : RB B n s0 := RB_keep (hfr.2.1 4 (by omega)) (hfr.1 62 (by omega) (by omega) (by omega) (by omega)) rb
      have h4 := rb0.2.1
      unfold f_X12_cut_7 p_X12_cut_7
      by_cases e401 : k = 401
      · refine ⟨s0, l0, ?_, ?_, fun k' hk' _ => hrf k' (by omega), hfr⟩
        · simp (disch := omega) only [ln_, ltT, ar_t, ar_f, it_t, it_f, true_and, and_true, not_true_eq_false, not_false_eq_true, implies_true, and_self, eq_self, h10]
        · simp (disch := omega) only [ln_, ltT, ar_t, ar_f, it_t, it_f, true_and, and_true, not_true_eq_false, not_false_eq_true, implies_true, and_self, eq_self, h10]
      · by_cases epn : p = n
        · subst epn
          obtain ⟨b1, b2⟩ := r_byteE (fu := fu) (l := l0) rb0 (Nat.le_refl p) (by omega)
          have hP : tP B p k = p := by rw [← htp]; unfold tp0; rw [Nat.sub_self]; rfl
          have hK : tK B p k = 0 := by unfold tK; rw [hP]; exact tkK_0 (Nat.le_refl _)
          obtain ⟨t1, t2⟩ := r_token (fu := fu) (x0 := nI 0) (x1 := nI p) (x2 := nI 0) (v := 0) (l := l0) h10 (by omega)
          refine ⟨tkS s0 k (nI 0) (nI p) (nI 0), wl l0 66 k 0, ?_, ?_, fun k' hk' hall => ?_, rFr_t hfr⟩
          · simp (disch := omega) only [ln_, ltF, ar_t, ar_f, it_t, it_f, true_and, and_true, not_true_eq_false, not_false_eq_true, implies_true, and_self, eq_self, h10, h4]; exact t1
          · simp (disch := omega) only [ln_, ltF, ar_t, ar_f, it_t, it_f, true_and, and_true, not_true_eq_false, not_false_eq_true, implies_true, and_self, eq_self, h10, h4, b2]; exact t2
          · by_cases ek : k' < k
            · exact RF_old (by omega) (hrf k' ek)
            · by_cases ek2 : k' = k
              · subst ek2; exact RF_new (by rw [hK]; rfl) (by rw [hP]) (fun h => by omega) (fun h => by omega)
              · exact absurd hK (hall k (by omega))
        · have hpn : p < n := by omega
          obtain ⟨b1, b2⟩ := r_byte (fu := fu) (l := l0) rb0 hpn
          have hbp := hb p hpn
          cases eB : isBl (B p) with
          | true =>
            have hB := of_decide_eq_true eB
            obtain ⟨s', l', g1, g2, g3⟩ := ih (p + 1) k s0 l0 (by omega) (by omega) h10 hk (by rw [tp0_bl hpn eB]; exact htp) hne hrf hfr
            refine ⟨s', l', ?_, ?_, g3⟩
            · rcases hB with e | e | e | e <;> rw [e] at b1 <;> simp (disch := omega) only [ln_, ltF, ltT, eqT, eqF, ar_t, ar_f, it_t, it_f, true_and, and_true, not_true_eq_false, not_false_eq_true, implies_true, and_self, eq_self, h10, h4, b1, nI_add] <;> exact g1
            · rcases hB with e | e | e | e <;> rw [e] at b1 <;> simp (disch := omega) only [ln_, ltF, ltT, eqT, eqF, ar_t, ar_f, it_t, it_f, true_and, and_true, not_true_eq_false, not_false_eq_true, implies_true, and_self, eq_self, h10, h4, b1, b2, nI_add] <;> exact g2
          | false =>
            have hB : ¬ (B p = 9 ∨ B p = 10 ∨ B p = 13 ∨ B p = 32) := of_decide_eq_false eB
            have hP : tP B n k = p := by rw [← htp]; exact tp0_nb hpn eB
            have hnl : ¬ n ≤ p := by omega
            have hq0 : ∀ k, k < 21 → l0 67 k = lN (p27 (kw k).reverse) := fun k hk => by rw [hfr.2.2 67 (by omega)]; exact hq k hk
            have hN : p + tkN B n p ≤ n := tkN_le hp
            have hN1 : 1 ≤ tkN B n p := by
              unfold tkN
              rw [if_neg hnl]
              by_cases e1 : isLt (B p) = true
              · rw [if_pos e1, show n - p = (n - (p + 1)) + 1 from by omega, rn_pos e1]; omega
              · rw [if_neg e1]
                by_cases e2 : isDg (B p) = true
                · rw [if_pos e2, show n - p = (n - (p + 1)) + 1 from by omega, rn_pos e2]; omega
                · rw [if_neg e2]; omega
            have hne0 : tK B n k ≠ 0 := by
              unfold tK tkK
              rw [hP, if_neg hnl]
              have := kwL_ge (w := wL B p (rnF isLt B (n - p) p)) (k := 21)
              by_cases e1 : isLt (B p) = true
              · rw [if_pos e1]; split <;> omega
              · rw [if_neg e1]
                by_cases e2 : isDg (B p) = true
                · rw [if_pos e2]; split <;> omega
                · rw [if_neg e2]
                  by_cases e3 : isSg (B p) = true
                  · rw [if_pos e3]; have := of_decide_eq_true e3; omega
                  · rw [if_neg e3]; omega
            -- a token put down, and on
            have fin : ∀ (z : Int32) (v : Int64), (tK B n k = 2 ∨ 256 ≤ tK B n k → v = lN (p27 (tW B n k).reverse)) → (tK B n k = 3 → z = nI (tV B n k)) →
                p_X12_token fu (nI (rk (tK B n k))) (nI p) z v s0 l0 ∧ ∃ s' l', f_X12_cut_7 fu f (nI (p + tkN B n p)) (f_X12_token fu (nI (rk (tK B n k))) (nI p) z v s0 l0).1 (f_X12_token fu (nI (rk (tK B n k))) (nI p) z v s0 l0).2 = (s', l') ∧ p_X12_cut_7 fu f (nI (p + tkN B n p)) (f_X12_token fu (nI (rk (tK B n k))) (nI p) z v s0 l0).1 (f_X12_token fu (nI (rk (tK B n k))) (nI p) z v s0 l0).2 ∧ (∀ k, k ≤ 400 → (∀ j, j < k → tK B n j ≠ 0) → RF B n k s' l') ∧ rFr s l s' l' := by
              intro z v hv hz
              obtain ⟨t1, t2⟩ := r_token (fu := fu) (x0 := nI (rk (tK B n k))) (x1 := nI p) (x2 := z) (v := v) (l := l0) h10 (by omega)
              refine ⟨t2, ?_⟩
              rw [t1]
              refine ih (p + tkN B n p) (k + 1) _ _ (by omega) hN ?_ (by omega) ?_ (fun j hj => ?_) (fun j hj => ?_) (rFr_t hfr)
              · dsimp only; unfold tkS; rw [wi_u, upd_s]
              · show tp0 B n (p + tkN B n p) = tp0 B n (qP B n (k + 1))
                show _ = tp0 B n (tP B n k + tkN B n (tP B n k))
                rw [hP]
              · by_cases ej : j = k
                · rw [ej]; exact hne0
                · exact hne j (by omega)
              · by_cases ej : j = k
                · rw [ej]; exact RF_new rfl (by rw [hP]) hv hz
                · exact RF_old ej (hrf j (by omega))
            have bl := rLt (fu := fu) hbp
            have bd := rDg (fu := fu) hbp
            have hTK : tK B n k = tkK B n p := by unfold tK; rw [hP]
            have hTW : tW B n k = wL B p (tkN B n p) := by unfold tW; rw [hP]
            have hTV : tV B n k = dV B p (tkN B n p) := by unfold tV; rw [hP]
            cases eL : isLt (B p) with
            | true =>
              rw [eL] at bl
              have hNl : tkN B n p = rnF isLt B (n - p) p := by unfold tkN; rw [if_neg hnl, if_pos eL]
              have hKl : tkK B n p = (if rnF isLt B (n - p) p ≤ 8 then kwL (wL B p (rnF isLt B (n - p) p)) 21 else 1) := by unfold tkK; rw [if_neg hnl, if_pos eL]
              obtain ⟨v, g1, g2, g3⟩ := r_name (fu := fu) (K := fun x1 s l => f_X12_cut_7 fu f x1 s l) (PK := fun x1 s l => p_X12_cut_7 fu f x1 s l) hfu rb0 hpn hq0
              rw [← hKl, ← hNl, ← hTK] at g1 g2
              rw [← hNl] at g3
              obtain ⟨t2, s', l', u1, u2, u3⟩ := fin (nI 0) v (fun h => by rw [hTW]; exact g3 (by rw [hTK] at h; exact (tk_name hb h).2.2)) (fun h => by
                rw [hTK] at h
                have := (tk_int hb h).2.1
                have h1 : 97 ≤ B p ∧ B p ≤ 122 := of_decide_eq_true eL
                have h2 : 48 ≤ B p ∧ B p ≤ 57 := of_decide_eq_true this
                omega)
              refine ⟨s', l', ?_, ?_, u3⟩
              · simp (disch := omega) only [ln_, ltF, ltT, eqF, ar_t, ar_f, it_t, it_f, true_and, and_true, not_true_eq_false, not_false_eq_true, implies_true, and_self, eq_self, h10, h4, b1, bl]; rw [← u1]; exact g1
              · simp (disch := omega) only [ln_, ltF, ltT, eqF, ar_t, ar_f, it_t, it_f, true_and, and_true, not_true_eq_false, not_false_eq_true, implies_true, and_self, eq_self, h10, h4, b1, b2, bl, prLt]; exact g2 t2 u2
            | false =>
              rw [eL] at bl
              have hnf : (isLt (B p) = true) = False := by rw [eL]; exact eq_false (by decide)
              cases eD : isDg (B p) with
              | true =>
                rw [eD] at bd
                have hNl : tkN B n p = rnF isDg B (n - p) p := by unfold tkN; rw [if_neg hnl, if_neg (by rw [eL]; decide), if_pos eD]
                have hKl : tkK B n p = (if rnF isDg B (n - p) p ≤ 4 then 3 else 1) := by unfold tkK; rw [if_neg hnl, if_neg (by rw [eL]; decide), if_pos eD]
                obtain ⟨z, g1, g2, g3⟩ := r_int (fu := fu) (l := l0) (K := fun x1 s l => f_X12_cut_7 fu f x1 s l) (PK := fun x1 s l => p_X12_cut_7 fu f x1 s l) hfu rb0 hpn
                rw [← hKl, ← hNl, ← hTK] at g1 g2
                rw [← hNl] at g3
                obtain ⟨t2, s', l', u1, u2, u3⟩ := fin z 0 (fun h => by
                  rw [hTK] at h
                  have := (tk_name hb h).2.1
                  rw [eL] at this; exact absurd this (by decide)) (fun h => by rw [hTV]; exact g3 (by rw [hTK] at h; exact (tk_int hb h).2.2))
                refine ⟨s', l', ?_, ?_, u3⟩
                · simp (disch := omega) only [ln_, ltF, ltT, eqT, eqF, ar_t, ar_f, it_t, it_f, true_and, and_true, not_true_eq_false, not_false_eq_true, implies_true, and_self, eq_self, h10, h4, b1, bl, bd, Bool.false_eq_true]; rw [← u1]; exact g1
                · simp (disch := omega) only [ln_, ltF, ltT, eqT, eqF, ar_t, ar_f, it_t, it_f, true_and, and_true, not_true_eq_false, not_false_eq_true, implies_true, and_self, eq_self, h10, h4, b1, b2, bl, bd, prLt, prDg, Bool.false_eq_true]; exact g2 t2 u2
              | false =>
                rw [eD] at bd
                have hNl : tkN B n p = 1 := by unfold tkN; rw [if_neg hnl, if_neg (by rw [eL]; decide), if_neg (by rw [eD]; decide)]
                have hKl : tkK B n p = (if isSg (B p) = true then B p else 1) := by unfold tkK; rw [if_neg hnl, if_neg (by rw [eL]; decide), if_neg (by rw [eD]; decide)]
                obtain ⟨t2, s', l', u1, u2, u3⟩ := fin (nI 0) 0 (fun h => by
                  rw [hTK] at h
                  have := (tk_name hb h).2.1
                  rw [eL] at this; exact absurd this (by decide)) (fun h => by
                  rw [hTK] at h
                  have := (tk_int hb h).2.1
                  rw [eD] at this; exact absurd this (by decide))
                have hs2 := fun y => (r_sign (fu := fu) (c := B p) (x := nI p) (y := y) (s := s0) (l := l0)).resolve_right (fun h => h hbp)
                have hs3 : ∀ y, p_X12_sign fu (nI p) (nI (B p)) y s0 l0 := fun y => rp_sign hbp (by rw [← hKl, ← hTK]; exact t2)
                rw [← hKl, ← hTK] at hs2
                rw [hNl] at u1 u2
                have b5 : p_X12_byteAt fu (nI (p + 1)) s0 l0 := by
                  by_cases e : n ≤ p + 1
                  · exact (r_byteE (fu := fu) (l := l0) rb0 e (by omega)).2
                  · exact (r_byte (fu := fu) (l := l0) rb0 (p := p + 1) (by omega)).2
                refine ⟨s', l', ?_, ?_, u3⟩
                · simp (disch := omega) only [ln_, ltF, ltT, eqT, eqF, ar_t, ar_f, it_t, it_f, true_and, and_true, not_true_eq_false, not_false_eq_true, implies_true, and_self, eq_self, h10, h4, b1, bl, bd, Bool.false_eq_true, hs2, nI_add]; exact u1
                · simp (disch := omega) only [ln_, ltF, ltT, eqT, eqF, ar_t, ar_f, it_t, it_f, true_and, and_true, not_true_eq_false, not_false_eq_true, implies_true, and_self, eq_self, h10, h4, b1, b2, bl, bd, prLt, prDg, Bool.false_eq_true, hs2, hs3, nI_add, b5]; exact u2
  exact key fu 0 0 _ l (by omega) (Nat.zero_le _) (by rw [wi_u, upd_s]; rfl) (by omega) rfl (fun j hj => absurd hj (Nat.not_lt_zero j)) (fun j hj => absurd hj (Nat.not_lt_zero j)) ⟨fun q a _ _ _ => wi_c a, fun j hj => by rw [wi_u, upd_n hj], fun _ _ => rfl⟩
end rtk2
