/-! what a room's row does to the draft room -/
abbrev P9 : Nat → Nat → Prop := fun a _ => 40 ≤ a ∧ a < 49
theorem ne_39 (n : Nat) : (40 = 43 + n) = False := eq_false (by omega)
def r_tal (ρ : XR) (v : Nat) : XR := w_s (w_q ρ 4 (r_s ρ 5) v) 5 (r_s ρ 5 + 1)
def r_set (ρ : XR) (k v : Nat) : XR := if k = 0 then r_cl (r_s ρ 0) (w_s ρ 1 v) 0 else if k = 1 then w_s ρ 2 v else if k = 2 then w_s ρ 3 v else w_s ρ 4 v
section
variable {L : Nat} {b1 b2 : Bool}
theorem c_hold39 (m : Nat) : ∀ (n j : Nat) (ρ : XR) (M : XM), m < n → Geo L b1 b2 M → CR 40 ρ M → r_s ρ 0 ≤ 6 → r_s ρ 1 ≤ 200 → (∀ c, c < 6 → r_q ρ 2 c ≤ 200) → j + m = r_s ρ 0 →
    ∃ M', lp_X4_holdAllWithinN_2 n 40 (nI j) M = some M' ∧ Geo L b1 b2 M' ∧ CR 40 (r_cl m ρ j) M' ∧ Fr P9 M M' := by
  induction m with
  | zero =>
    intro n j ρ M hn hG hR h0 h1 hq hj
    obtain ⟨n, rfl⟩ : ∃ i, n = i + 1 := ⟨n - 1, by omega⟩
    have e0 := hR.1.1
    refine ⟨M, ?_, hG, hR, Fr.rf⟩
    rw [s_lp_X4_holdAllWithinN_2, show j = r_s ρ 0 by omega]
    simp (disch := first | assumption | omega) only [bd_X4_holdAllWithinN_2, gt_40, l_of, n_ltT, n_ltF, n_leT, n_leF, n_eqT, n_eqF, n_neM, n_Mne, n_M0, n_Mlt, n_0leM, nI_clamp, x_in_nI, n_1, nI_add, x_at, x_bd_s, x_bv_s, ↓x_lt, decide_true, decide_false, Bool.and_self, Bool.true_and, Bool.and_true, if_true, if_false, ite_true, ite_false, ↓reduceIte, not_true_eq_false, not_false_eq_true, Nat.reduceAdd, Nat.reduceMul, Nat.reduceEqDiff, eq_self, true_and, and_true, false_and, and_false, Option.some.injEq, Prod.mk.injEq, l_0, l_1, l_2, l_3, l_4, l_5, l_6, l_7, l_8, l_9, l_10, l_100, l_160, ↓m_1, ↓m_2, ↓m_3, ↓m_4, ↓m_5, ↓m_6, ↓m_7, e0]
  | succ m ih =>
    intro n j ρ M hn hG hR h0 h1 hq hj
    obtain ⟨n, rfl⟩ : ∃ i, n = i + 1 := ⟨n - 1, by omega⟩
    obtain ⟨⟨e0, e1, e2, e3, e4, e5, e6, e7⟩, hc, ht⟩ := id hR
    obtain ⟨q1, q2, q3, q4, q5⟩ := hc j (by omega)
    have y := hq j (by omega)
    have hle := mn_le (r_q ρ 2 j) (r_s ρ 1)
    obtain ⟨M2, g1, g2, g3, g4⟩ := ih n (j + 1) (w_q ρ 2 j (mn (r_q ρ 2 j) (r_s ρ 1))) (x_wi M (40 + 3 + j) 2 (nI (mn (r_q ρ 2 j) (r_s ρ 1)))) (by omega) hG (hR.q2 j _ (by omega)) h0 h1 (fun c hc => by
      rw [rq_wq]
      split
      · omega
      · exact hq c hc) (by rw [rs_wq]; omega)
    have a1 : Fr P9 M (x_wi M (40 + 3 + j) 2 (nI (mn (r_q ρ 2 j) (r_s ρ 1)))) := Fr.rf.wi (by omega)
    refine ⟨M2, ?_, g2, g3, a1.tr g4⟩
    rw [s_lp_X4_holdAllWithinN_2]
    unfold mn at g1
    by_cases hx : r_s ρ 1 < r_q ρ 2 j
    · rw [if_pos hx] at g1
      simp (disch := first | assumption | omega) only [bd_X4_holdAllWithinN_2, gt_40, gr_40_0, gt_41, gl_41, gc_41, gct_43, l_of, n_ltT, n_ltF, n_leT, n_leF, n_eqT, n_eqF, n_neM, n_Mne, n_M0, n_Mlt, n_0leM, nI_clamp, x_in_nI, n_1, nI_add, x_at, x_bd_s, x_bv_s, ↓x_lt, decide_true, decide_false, Bool.and_self, Bool.true_and, Bool.and_true, if_true, if_false, ite_true, ite_false, ↓reduceIte, not_true_eq_false, not_false_eq_true, Nat.reduceAdd, Nat.reduceMul, Nat.reduceEqDiff, eq_self, true_and, and_true, false_and, and_false, Option.some.injEq, Prod.mk.injEq, l_0, l_1, l_2, l_3, l_4, l_5, l_6, l_7, l_8, l_9, l_10, l_100, l_160, ↓m_1, ↓m_2, ↓m_3, ↓m_4, ↓m_5, ↓m_6, ↓m_7, e0, e1, q3]
      exact g1
    · rw [if_neg hx] at g1
      simp (disch := first | assumption | omega) only [bd_X4_holdAllWithinN_2, gt_40, gr_40_0, gt_41, gl_41, gc_41, gct_43, l_of, n_ltT, n_ltF, n_leT, n_leF, n_eqT, n_eqF, n_neM, n_Mne, n_M0, n_Mlt, n_0leM, nI_clamp, x_in_nI, n_1, nI_add, x_at, x_bd_s, x_bv_s, ↓x_lt, decide_true, decide_false, Bool.and_self, Bool.true_and, Bool.and_true, if_true, if_false, ite_true, ite_false, ↓reduceIte, not_true_eq_false, not_false_eq_true, Nat.reduceAdd, Nat.reduceMul, Nat.reduceEqDiff, eq_self, true_and, and_true, false_and, and_false, Option.some.injEq, Prod.mk.injEq, l_0, l_1, l_2, l_3, l_4, l_5, l_6, l_7, l_8, l_9, l_10, l_100, l_160, ↓m_1, ↓m_2, ↓m_3, ↓m_4, ↓m_5, ↓m_6, ↓m_7, e0, e1, q3]
      exact g1

theorem c_pass39 {Q : Nat} {M : XM} {ρ : XR} {k : Nat} (hG : Geo L b1 b2 M) (hR : CR 40 ρ M) (hV : WF Q ρ) (hQ : Q ≤ 810000) (hk : k < 6) (hx : r_q ρ 2 k < r_s ρ 1) :
    ∃ M', f_X4_pass 40 (nI k) (nI 1) M = some M' ∧ Geo L b1 b2 M' ∧ CR 40 (r_hear ρ k) M' ∧ Fr P9 M M' := by
  obtain ⟨⟨e0, e1, e2, e3, e4, e5, e6, e7⟩, hc, ht⟩ := id hR
  obtain ⟨⟨w0, w1, w2, w3, w4, w5, w6, w7⟩, wc, wl, wt⟩ := id hV
  obtain ⟨q1, q2, q3, q4, q5⟩ := hc k hk
  obtain ⟨y1, y2, y3, y4⟩ := wc k hk
  have hl := c_hear (M := M) (v0 := 43 + k) (gct_43 hG (by omega)) ⟨q1, q2, q3, q4, q5⟩ y1 y2 y3 (by omega) w3 w4
  have hf := lf_le (r_s ρ 2) (r_q ρ 0 k) (r_q ρ 1 k) (r_q ρ 2 k) (r_q ρ 3 k + 1)
  refine ⟨x_wi (x_wi (x_wi M (40 + 3 + k) 4 (nI (r_q ρ 3 k + 1))) (40 + 3 + k) 2 (nI (lf (r_s ρ 2) (r_q ρ 0 k) (r_q ρ 1 k) (r_q ρ 2 k) (r_q ρ 3 k + 1)))) (40 + 3 + k) 3 (of (r_q ρ 0 k) (r_q ρ 1 k) (r_off ρ k)), ?_, hG, ((hR.q3 k (r_q ρ 3 k + 1) (by omega)).q2 k _ (by omega)).o k _ (by omega), ((Fr.rf.wi (by omega)).wi (by omega)).wi (by omega)⟩
  simp (disch := first | assumption | omega) only [f_X4_pass_c46, f_X4_pass_44, f_X4_pass_c23, f_X4_pass_c2, f_X4_pass, f_X4_isThrough, gt_40, gr_40_0, gt_41, gl_41, gc_41, gct_43, l_of, n_ltT, n_ltF, n_leT, n_leF, n_eqT, n_eqF, n_neM, n_Mne, n_M0, n_Mlt, n_0leM, nI_clamp, x_in_nI, n_1, nI_add, x_at, x_bd_s, x_bv_s, ↓x_lt, decide_true, decide_false, Bool.and_self, Bool.true_and, Bool.and_true, if_true, if_false, ite_true, ite_false, ↓reduceIte, not_true_eq_false, not_false_eq_true, Nat.reduceAdd, Nat.reduceMul, Nat.reduceEqDiff, eq_self, true_and, and_true, false_and, and_false, Option.some.injEq, Prod.mk.injEq, l_0, l_1, l_2, l_3, l_4, l_5, l_6, l_7, l_8, l_9, l_10, l_100, l_160, ↓m_1, ↓m_2, ↓m_3, ↓m_4, ↓m_5, ↓m_6, ↓m_7, ii_wi, ji_wi, ri_wi, ti_wi, li_wi, ii_wj, ji_wj, ri_wj, ti_wj, li_wj, e1, e2, q3, hl, hw, ne_39]
theorem c_add39 {M : XM} {ρ : XR} {k j : Nat} (hG : Geo L b1 b2 M) (hR : CR 40 ρ M) (h5 : r_s ρ 0 < 6) :
    ∃ M' w, f_X4_addCounter 40 (nI k) (nI j) M = some (w, M') ∧ Geo L b1 b2 M' ∧ CR 40 (r_add ρ k j) M' ∧ Fr P9 M M' := by
  obtain ⟨⟨e0, e1, e2, e3, e4, e5, e6, e7⟩, hc, ht⟩ := id hR
  refine ⟨x_wi (x_wi (x_wi (x_wi (x_wi (x_wi M (40 + 3 + r_s ρ 0) 0 (nI k)) (40 + 3 + r_s ρ 0) 1 (nI j)) (40 + 3 + r_s ρ 0) 2 (nI 0)) (40 + 3 + r_s ρ 0) 3 (nI 0)) (40 + 3 + r_s ρ 0) 4 (nI 0)) 40 1 (nI (r_s ρ 0 + 1)), nI (r_s ρ 0), ?_, hG, (((((hR.q0 (r_s ρ 0) k (by omega)).q1 _ j (by omega)).q2 _ 0 (by omega)).o _ (nI 0) (by omega)).q3 _ 0 (by omega)).s0 _, (((((Fr.rf.wi (by omega)).wi (by omega)).wi (by omega)).wi (by omega)).wi (by omega)).wi (by omega)⟩
  simp (disch := first | assumption | omega) only [f_X4_addCounter_c11, f_X4_addCounter, f_X2_becomeNew, f_X2_beginAgain, l_of, n_ltT, n_ltF, n_leT, n_leF, n_eqT, n_eqF, n_neM, n_Mne, n_M0, n_Mlt, n_0leM, nI_clamp, x_in_nI, n_1, nI_add, x_at, x_bd_s, x_bv_s, ↓x_lt, decide_true, decide_false, Bool.and_self, Bool.true_and, Bool.and_true, if_true, if_false, ite_true, ite_false, ↓reduceIte, not_true_eq_false, not_false_eq_true, Nat.reduceAdd, Nat.reduceMul, Nat.reduceEqDiff, eq_self, true_and, and_true, false_and, and_false, Option.some.injEq, Prod.mk.injEq, l_0, l_1, l_2, l_3, l_4, l_5, l_6, l_7, l_8, l_9, l_10, l_100, l_160, ↓m_1, ↓m_2, ↓m_3, ↓m_4, ↓m_5, ↓m_6, ↓m_7, ii_wi, ji_wi, ri_wi, ti_wi, li_wi, ii_wj, ji_wj, ri_wj, ti_wj, li_wj, gt_40, gr_40_0, gt_41, gl_41, gc_41, gct_43, e0, ne_39, n_pm1]
theorem c_tal39 {M : XM} {ρ : XR} {v : Nat} (hG : Geo L b1 b2 M) (hR : CR 40 ρ M) (h5 : r_s ρ 5 < 8) :
    ∃ M' w, f_X4_addTally 40 (nI v) M = some (w, M') ∧ Geo L b1 b2 M' ∧ CR 40 (r_tal ρ v) M' ∧ Fr P9 M M' := by
  obtain ⟨⟨e0, e1, e2, e3, e4, e5, e6, e7⟩, hc, ht⟩ := id hR
  refine ⟨x_wi (x_wi M 42 (r_s ρ 5) (nI v)) 40 7 (nI (r_s ρ 5 + 1)), nI (r_s ρ 5 + 1), ?_, hG, (hR.t (r_s ρ 5) v).s5 _, (Fr.rf.wi (by omega)).wi (by omega)⟩
  simp (disch := first | assumption | omega) only [f_X4_addTally, l_of, n_ltT, n_ltF, n_leT, n_leF, n_eqT, n_eqF, n_neM, n_Mne, n_M0, n_Mlt, n_0leM, nI_clamp, x_in_nI, n_1, nI_add, x_at, x_bd_s, x_bv_s, ↓x_lt, decide_true, decide_false, Bool.and_self, Bool.true_and, Bool.and_true, if_true, if_false, ite_true, ite_false, ↓reduceIte, not_true_eq_false, not_false_eq_true, Nat.reduceAdd, Nat.reduceMul, Nat.reduceEqDiff, eq_self, true_and, and_true, false_and, and_false, Option.some.injEq, Prod.mk.injEq, l_0, l_1, l_2, l_3, l_4, l_5, l_6, l_7, l_8, l_9, l_10, l_100, l_160, ↓m_1, ↓m_2, ↓m_3, ↓m_4, ↓m_5, ↓m_6, ↓m_7, ii_wi, ji_wi, ri_wi, ti_wi, li_wi, ii_wj, ji_wj, ri_wj, ti_wj, li_wj, gt_40, gr_40_6, gt_42, gl_42, e5]
theorem c_set39 {Q : Nat} {M : XM} {ρ : XR} {k v : Nat} (hG : Geo L b1 b2 M) (hR : CR 40 ρ M) (hV : WF Q ρ) (hk : k < 4) (hv : v ≤ 1000) (hv0 : k = 0 → v ≤ 200) :
    ∃ M' w, f_X4_change 40 (nI k) (nI v) M = some (w, M') ∧ Geo L b1 b2 M' ∧ CR 40 (r_set ρ k v) M' ∧ Fr P9 M M' := by
  obtain ⟨⟨e0, e1, e2, e3, e4, e5, e6, e7⟩, hc, ht⟩ := id hR
  obtain ⟨⟨w0, w1, w2, w3, w4, w5, w6, w7⟩, wc, wl, wt⟩ := id hV
  rcases (by omega : k = 0 ∨ k = 1 ∨ k = 2 ∨ k = 3) with h | h | h | h <;> subst h
  · obtain ⟨M2, g1, g2, g3, g4⟩ := c_hold39 (r_s ρ 0) x_fuel 0 (w_s ρ 1 v) (x_wi M 40 2 (nI v)) (fu (by omega)) hG (hR.s1 v) w0 (show v ≤ 200 by omega) (fun c hc9 => (wc c hc9).2.2.1) (by rw [Nat.zero_add]; rfl)
    refine ⟨M2, nI (r_s ρ 1), ?_, g2, g3, (Fr.rf.wi (by omega)).tr g4⟩
    simp (disch := first | assumption | omega) only [f_X4_change, f_X4_holdAllWithinN, gt_40, e1, g1, l_of, n_ltT, n_ltF, n_leT, n_leF, n_eqT, n_eqF, n_neM, n_Mne, n_M0, n_Mlt, n_0leM, nI_clamp, x_in_nI, n_1, nI_add, x_at, x_bd_s, x_bv_s, ↓x_lt, decide_true, decide_false, Bool.and_self, Bool.true_and, Bool.and_true, if_true, if_false, ite_true, ite_false, ↓reduceIte, not_true_eq_false, not_false_eq_true, Nat.reduceAdd, Nat.reduceMul, Nat.reduceEqDiff, eq_self, true_and, and_true, false_and, and_false, Option.some.injEq, Prod.mk.injEq, l_0, l_1, l_2, l_3, l_4, l_5, l_6, l_7, l_8, l_9, l_10, l_100, l_160, ↓m_1, ↓m_2, ↓m_3, ↓m_4, ↓m_5, ↓m_6, ↓m_7]
  · refine ⟨x_wi M 40 3 (nI v), nI (r_s ρ 2), ?_, hG, hR.s2 v, Fr.rf.wi (by omega)⟩
    simp (disch := first | assumption | omega) only [f_X4_change, gt_40, e2, l_of, n_ltT, n_ltF, n_leT, n_leF, n_eqT, n_eqF, n_neM, n_Mne, n_M0, n_Mlt, n_0leM, nI_clamp, x_in_nI, n_1, nI_add, x_at, x_bd_s, x_bv_s, ↓x_lt, decide_true, decide_false, Bool.and_self, Bool.true_and, Bool.and_true, if_true, if_false, ite_true, ite_false, ↓reduceIte, not_true_eq_false, not_false_eq_true, Nat.reduceAdd, Nat.reduceMul, Nat.reduceEqDiff, eq_self, true_and, and_true, false_and, and_false, Option.some.injEq, Prod.mk.injEq, l_0, l_1, l_2, l_3, l_4, l_5, l_6, l_7, l_8, l_9, l_10, l_100, l_160, ↓m_1, ↓m_2, ↓m_3, ↓m_4, ↓m_5, ↓m_6, ↓m_7]
  · refine ⟨x_wi M 40 4 (nI v), nI (r_s ρ 3), ?_, hG, hR.s3 v, Fr.rf.wi (by omega)⟩
    simp (disch := first | assumption | omega) only [f_X4_change, gt_40, e3, l_of, n_ltT, n_ltF, n_leT, n_leF, n_eqT, n_eqF, n_neM, n_Mne, n_M0, n_Mlt, n_0leM, nI_clamp, x_in_nI, n_1, nI_add, x_at, x_bd_s, x_bv_s, ↓x_lt, decide_true, decide_false, Bool.and_self, Bool.true_and, Bool.and_true, if_true, if_false, ite_true, ite_false, ↓reduceIte, not_true_eq_false, not_false_eq_true, Nat.reduceAdd, Nat.reduceMul, Nat.reduceEqDiff, eq_self, true_and, and_true, false_and, and_false, Option.some.injEq, Prod.mk.injEq, l_0, l_1, l_2, l_3, l_4, l_5, l_6, l_7, l_8, l_9, l_10, l_100, l_160, ↓m_1, ↓m_2, ↓m_3, ↓m_4, ↓m_5, ↓m_6, ↓m_7]
  · refine ⟨x_wi M 40 5 (nI v), nI (r_s ρ 4), ?_, hG, hR.s4 v, Fr.rf.wi (by omega)⟩
    simp (disch := first | assumption | omega) only [f_X4_change, gt_40, e4, l_of, n_ltT, n_ltF, n_leT, n_leF, n_eqT, n_eqF, n_neM, n_Mne, n_M0, n_Mlt, n_0leM, nI_clamp, x_in_nI, n_1, nI_add, x_at, x_bd_s, x_bv_s, ↓x_lt, decide_true, decide_false, Bool.and_self, Bool.true_and, Bool.and_true, if_true, if_false, ite_true, ite_false, ↓reduceIte, not_true_eq_false, not_false_eq_true, Nat.reduceAdd, Nat.reduceMul, Nat.reduceEqDiff, eq_self, true_and, and_true, false_and, and_false, Option.some.injEq, Prod.mk.injEq, l_0, l_1, l_2, l_3, l_4, l_5, l_6, l_7, l_8, l_9, l_10, l_100, l_160, ↓m_1, ↓m_2, ↓m_3, ↓m_4, ↓m_5, ↓m_6, ↓m_7]
end
