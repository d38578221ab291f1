/-! ask, N grows less: who counts stands within N -/
def mn (a b : Nat) : Nat := if b < a then b else a
def r_cl : Nat → XR → Nat → XR
  | 0, ρ, _ => ρ
  | m + 1, ρ, j => r_cl m (w_q ρ 2 j (mn (r_q ρ 2 j) (r_s ρ 1))) (j + 1)
theorem mn_le (a b : Nat) : mn a b ≤ a := by unfold mn; split <;> omega
section
variable {L : Nat} {b1 b2 : Bool}
theorem c_hold_lp (m : Nat) : ∀ (n j : Nat) (ρ : XR) (M : XM), m < n → Geo L b1 b2 M → CR 21 ρ M → r_s ρ 0 ≤ 6 → r_s ρ 1 ≤ 200 → (∀ c, c < 6 → r_q ρ 2 c ≤ 200) → j + m = r_s ρ 0 →
    ∃ M', lp_X4_holdAllWithinN_2 n 21 (nI j) M = some M' ∧ Geo L b1 b2 M' ∧ CR 21 (r_cl m ρ j) M' ∧ Agr 0 21 M M' ∧ Agr 30 105 M M' := by
  induction m with
  | zero =>
    intro n j ρ M hn hG hR h0 h1 hq hj
    obtain ⟨n, rfl⟩ : ∃ i, n = i + 1 := ⟨n - 1, by omega⟩
    have e0 := hR.1.1
    refine ⟨M, ?_, hG, hR, Agr.rf, Agr.rf⟩
    rw [s_lp_X4_holdAllWithinN_2, show j = r_s ρ 0 by omega]
    simp (disch := first | assumption | omega) only [bd_X4_holdAllWithinN_2, gt_21, l_of, n_ltT, n_ltF, n_leT, n_leF, n_eqT, n_eqF, n_neM, n_Mne, n_M0, n_Mlt, n_0leM, nI_clamp, x_in_nI, n_1, nI_add, x_at, x_bd_s, x_bv_s, ↓x_lt, decide_true, decide_false, Bool.and_self, Bool.true_and, Bool.and_true, if_true, if_false, ite_true, ite_false, ↓reduceIte, not_true_eq_false, not_false_eq_true, Nat.reduceAdd, Nat.reduceMul, Nat.reduceEqDiff, eq_self, true_and, and_true, false_and, and_false, Option.some.injEq, Prod.mk.injEq, l_0, l_1, l_2, l_3, l_4, l_5, l_6, l_7, l_8, l_9, l_10, l_100, l_160, ↓m_1, ↓m_2, ↓m_3, ↓m_4, ↓m_5, ↓m_6, ↓m_7, e0]
  | succ m ih =>
    intro n j ρ M hn hG hR h0 h1 hq hj
    obtain ⟨n, rfl⟩ : ∃ i, n = i + 1 := ⟨n - 1, by omega⟩
    obtain ⟨⟨e0, e1, e2, e3, e4, e5, e6, e7⟩, hc, ht⟩ := id hR
    obtain ⟨q1, q2, q3, q4, q5⟩ := hc j (by omega)
    have y := hq j (by omega)
    have hle := mn_le (r_q ρ 2 j) (r_s ρ 1)
    obtain ⟨M2, g1, g2, g3, g4, g5⟩ := ih n (j + 1) (w_q ρ 2 j (mn (r_q ρ 2 j) (r_s ρ 1))) (x_wi M (21 + 3 + j) 2 (nI (mn (r_q ρ 2 j) (r_s ρ 1)))) (by omega) hG (hR.q2 j _ (by omega)) h0 h1 (fun c hc => by
      rw [rq_wq]
      split
      · omega
      · exact hq c hc) (by rw [rs_wq]; omega)
    have a1 : Agr 0 21 M (x_wi M (21 + 3 + j) 2 (nI (mn (r_q ρ 2 j) (r_s ρ 1)))) := Agr.rf.wi (by omega)
    have a2 : Agr 30 105 M (x_wi M (21 + 3 + j) 2 (nI (mn (r_q ρ 2 j) (r_s ρ 1)))) := Agr.rf.wi (by omega)
    refine ⟨M2, ?_, g2, g3, a1.tr g4, a2.tr g5⟩
    rw [s_lp_X4_holdAllWithinN_2]
    unfold mn at g1
    by_cases hx : r_s ρ 1 < r_q ρ 2 j
    · rw [if_pos hx] at g1
      simp (disch := first | assumption | omega) only [bd_X4_holdAllWithinN_2, gt_21, gr_21_0, gt_22, gl_22, gc_22, gct_24, l_of, n_ltT, n_ltF, n_leT, n_leF, n_eqT, n_eqF, n_neM, n_Mne, n_M0, n_Mlt, n_0leM, nI_clamp, x_in_nI, n_1, nI_add, x_at, x_bd_s, x_bv_s, ↓x_lt, decide_true, decide_false, Bool.and_self, Bool.true_and, Bool.and_true, if_true, if_false, ite_true, ite_false, ↓reduceIte, not_true_eq_false, not_false_eq_true, Nat.reduceAdd, Nat.reduceMul, Nat.reduceEqDiff, eq_self, true_and, and_true, false_and, and_false, Option.some.injEq, Prod.mk.injEq, l_0, l_1, l_2, l_3, l_4, l_5, l_6, l_7, l_8, l_9, l_10, l_100, l_160, ↓m_1, ↓m_2, ↓m_3, ↓m_4, ↓m_5, ↓m_6, ↓m_7, e0, e1, q3]
      exact g1
    · rw [if_neg hx] at g1
      simp (disch := first | assumption | omega) only [bd_X4_holdAllWithinN_2, gt_21, gr_21_0, gt_22, gl_22, gc_22, gct_24, l_of, n_ltT, n_ltF, n_leT, n_leF, n_eqT, n_eqF, n_neM, n_Mne, n_M0, n_Mlt, n_0leM, nI_clamp, x_in_nI, n_1, nI_add, x_at, x_bd_s, x_bv_s, ↓x_lt, decide_true, decide_false, Bool.and_self, Bool.true_and, Bool.and_true, if_true, if_false, ite_true, ite_false, ↓reduceIte, not_true_eq_false, not_false_eq_true, Nat.reduceAdd, Nat.reduceMul, Nat.reduceEqDiff, eq_self, true_and, and_true, false_and, and_false, Option.some.injEq, Prod.mk.injEq, l_0, l_1, l_2, l_3, l_4, l_5, l_6, l_7, l_8, l_9, l_10, l_100, l_160, ↓m_1, ↓m_2, ↓m_3, ↓m_4, ↓m_5, ↓m_6, ↓m_7, e0, e1, q3]
      exact g1
theorem m_ends_lp (m : Nat) : ∀ (n j : Nat) (ρ : XR) (M : XM), m < n → Geo L b1 b2 M → MR ρ M → r_s ρ 0 ≤ 6 → r_s ρ 1 ≤ 200 → (∀ c, c < 6 → r_q ρ 2 c ≤ 200) → j + m = r_s ρ 0 →
    ∃ M', lp_X9_ends_7 n 83 (nI j) M = some M' ∧ Geo L b1 b2 M' ∧ MR (r_cl m ρ j) M' ∧ Agr 0 87 M M' ∧ Agr 88 105 M M' := by
  induction m with
  | zero =>
    intro n j ρ M hn hG hR h0 h1 hq hj
    obtain ⟨n, rfl⟩ : ∃ i, n = i + 1 := ⟨n - 1, by omega⟩
    have e0 := hR.1.1
    refine ⟨M, ?_, hG, hR, Agr.rf, Agr.rf⟩
    rw [s_lp_X9_ends_7, show j = r_s ρ 0 by omega]
    simp (disch := first | assumption | omega) only [bd_X9_ends_7, gt_83, l_of, n_ltT, n_ltF, n_leT, n_leF, n_eqT, n_eqF, n_neM, n_Mne, n_M0, n_Mlt, n_0leM, nI_clamp, x_in_nI, n_1, nI_add, x_at, x_bd_s, x_bv_s, ↓x_lt, decide_true, decide_false, Bool.and_self, Bool.true_and, Bool.and_true, if_true, if_false, ite_true, ite_false, ↓reduceIte, not_true_eq_false, not_false_eq_true, Nat.reduceAdd, Nat.reduceMul, Nat.reduceEqDiff, eq_self, true_and, and_true, false_and, and_false, Option.some.injEq, Prod.mk.injEq, l_0, l_1, l_2, l_3, l_4, l_5, l_6, l_7, l_8, l_9, l_10, l_100, l_160, ↓m_1, ↓m_2, ↓m_3, ↓m_4, ↓m_5, ↓m_6, ↓m_7, e0]
  | succ m ih =>
    intro n j ρ M hn hG hR h0 h1 hq hj
    obtain ⟨n, rfl⟩ : ∃ i, n = i + 1 := ⟨n - 1, by omega⟩
    obtain ⟨⟨e0, e1, e2, e3, e4, e5, e6, e7⟩, hc, ht⟩ := id hR
    obtain ⟨q1, q2, q3, q4, q5⟩ := hc j (by omega)
    have y := hq j (by omega)
    have hle := mn_le (r_q ρ 2 j) (r_s ρ 1)
    obtain ⟨M2, g1, g2, g3, g4, g5⟩ := ih n (j + 1) (w_q ρ 2 j (mn (r_q ρ 2 j) (r_s ρ 1))) (x_wi M 87 j (nI (mn (r_q ρ 2 j) (r_s ρ 1)))) (by omega) hG (hR.q2 j _) h0 h1 (fun c hc => by
      rw [rq_wq]
      split
      · omega
      · exact hq c hc) (by rw [rs_wq]; omega)
    have a1 : Agr 0 87 M (x_wi M 87 j (nI (mn (r_q ρ 2 j) (r_s ρ 1)))) := Agr.rf.wi (by omega)
    have a2 : Agr 88 105 M (x_wi M 87 j (nI (mn (r_q ρ 2 j) (r_s ρ 1)))) := Agr.rf.wi (by omega)
    refine ⟨M2, ?_, g2, g3, a1.tr g4, a2.tr g5⟩
    rw [s_lp_X9_ends_7]
    unfold mn at g1
    by_cases hx : r_s ρ 1 < r_q ρ 2 j
    · rw [if_pos hx] at g1
      simp (disch := first | assumption | omega) only [bd_X9_ends_7, f_X9_ends_46, gt_83, gr_83_12, gt_87, gl_87, l_of, n_ltT, n_ltF, n_leT, n_leF, n_eqT, n_eqF, n_neM, n_Mne, n_M0, n_Mlt, n_0leM, nI_clamp, x_in_nI, n_1, nI_add, x_at, x_bd_s, x_bv_s, ↓x_lt, decide_true, decide_false, Bool.and_self, Bool.true_and, Bool.and_true, if_true, if_false, ite_true, ite_false, ↓reduceIte, not_true_eq_false, not_false_eq_true, Nat.reduceAdd, Nat.reduceMul, Nat.reduceEqDiff, eq_self, true_and, and_true, false_and, and_false, Option.some.injEq, Prod.mk.injEq, l_0, l_1, l_2, l_3, l_4, l_5, l_6, l_7, l_8, l_9, l_10, l_100, l_160, ↓m_1, ↓m_2, ↓m_3, ↓m_4, ↓m_5, ↓m_6, ↓m_7, e0, e1, q3]
      exact g1
    · rw [if_neg hx] at g1
      simp (disch := first | assumption | omega) only [bd_X9_ends_7, f_X9_ends_46, gt_83, gr_83_12, gt_87, gl_87, l_of, n_ltT, n_ltF, n_leT, n_leF, n_eqT, n_eqF, n_neM, n_Mne, n_M0, n_Mlt, n_0leM, nI_clamp, x_in_nI, n_1, nI_add, x_at, x_bd_s, x_bv_s, ↓x_lt, decide_true, decide_false, Bool.and_self, Bool.true_and, Bool.and_true, if_true, if_false, ite_true, ite_false, ↓reduceIte, not_true_eq_false, not_false_eq_true, Nat.reduceAdd, Nat.reduceMul, Nat.reduceEqDiff, eq_self, true_and, and_true, false_and, and_false, Option.some.injEq, Prod.mk.injEq, l_0, l_1, l_2, l_3, l_4, l_5, l_6, l_7, l_8, l_9, l_10, l_100, l_160, ↓m_1, ↓m_2, ↓m_3, ↓m_4, ↓m_5, ↓m_6, ↓m_7, e0, e1, q3]
      exact g1
end
