/-! one number counted -/
def r_cnt (ρ : XR) (k : Nat) : XR := if r_s ρ 1 ≤ r_q ρ 2 k then ρ else if r_q ρ 2 k + 1 = r_s ρ 1 then w_done (w_q ρ 2 k (r_q ρ 2 k + 1)) (r_done ρ + nI 1) else w_q ρ 2 k (r_q ρ 2 k + 1)
def r_cn : Nat → XR → Nat → XR
  | 0, ρ, _ => ρ
  | m + 1, ρ, k => r_cn m (r_cnt ρ k) k
theorem cnt_s (ρ : XR) (k j : Nat) : r_s (r_cnt ρ k) j = r_s ρ j := by
  unfold r_cnt
  repeat' split
  all_goals rfl
theorem cnt_q (ρ : XR) (k : Nat) (h : r_q ρ 2 k ≤ 200) (hn : r_s ρ 1 ≤ 200) : r_q (r_cnt ρ k) 2 k ≤ 200 := by
  unfold r_cnt
  split
  · exact h
  · split
    · rw [rq_wd, rq_wq, if_pos ⟨rfl, rfl⟩]; omega
    · rw [rq_wq, if_pos ⟨rfl, rfl⟩]; omega
theorem cn_stop (m : Nat) (ρ : XR) (k : Nat) (h : r_s ρ 1 ≤ r_q ρ 2 k) : r_cn m ρ k = ρ := by
  induction m with
  | zero => rfl
  | succ m ih =>
    show r_cn m (r_cnt ρ k) k = ρ
    rw [show r_cnt ρ k = ρ by unfold r_cnt; rw [if_pos h]]
    exact ih
section
variable {L : Nat} {b1 b2 : Bool}
theorem c_pass0 {M : XM} {ρ : XR} {k : Nat} (hG : Geo L b1 b2 M) (hR : CR 21 ρ M) (hk : k < 6) (hn : r_s ρ 1 ≤ 200) (hx : r_q ρ 2 k ≤ 200) :
    ∃ M', f_X4_pass 21 (nI k) (nI 0) M = some M' ∧ Geo L b1 b2 M' ∧ CR 21 (r_cnt ρ k) M' ∧ Agr 0 21 M M' ∧ Agr 30 105 M M' := by
  obtain ⟨⟨e0, e1, e2, e3, e4, e5, e6, e7⟩, hc, ht⟩ := id hR
  obtain ⟨q1, q2, q3, q4, q5⟩ := hc k hk
  unfold r_cnt
  by_cases h1 : r_s ρ 1 ≤ r_q ρ 2 k
  · rw [if_pos h1]
    refine ⟨M, ?_, hG, hR, Agr.rf, Agr.rf⟩
    simp (disch := first | assumption | omega) only [f_X4_pass_c46, f_X4_pass_44, f_X4_pass_c23, f_X4_pass_c2, f_X4_pass, f_X4_isThrough, gt_21, gr_21_0, gt_22, gl_22, gc_22, gct_24, l_of, n_ltT, n_ltF, n_leT, n_leF, n_eqT, n_eqF, n_neM, n_Mne, n_M0, n_Mlt, n_0leM, nI_clamp, x_in_nI, n_1, nI_add, x_at, x_bd_s, x_bv_s, ↓x_lt, decide_true, decide_false, Bool.and_self, Bool.true_and, Bool.and_true, if_true, if_false, ite_true, ite_false, ↓reduceIte, not_true_eq_false, not_false_eq_true, Nat.reduceAdd, Nat.reduceMul, Nat.reduceEqDiff, eq_self, true_and, and_true, false_and, and_false, Option.some.injEq, Prod.mk.injEq, l_0, l_1, l_2, l_3, l_4, l_5, l_6, l_7, l_8, l_9, l_10, l_100, l_160, ↓m_1, ↓m_2, ↓m_3, ↓m_4, ↓m_5, ↓m_6, ↓m_7, e1, q3]
  rw [if_neg h1]
  by_cases h2 : r_q ρ 2 k + 1 = r_s ρ 1
  · rw [if_pos h2]
    refine ⟨x_wi (x_wi M (21 + 3 + k) 2 (nI (r_q ρ 2 k + 1))) 21 8 (r_done ρ + nI 1), ?_, hG, (hR.q2 k (r_q ρ 2 k + 1) (by omega)).d _, (Agr.rf.wi (by omega)).wi (by omega), (Agr.rf.wi (by omega)).wi (by omega)⟩
    simp (disch := first | assumption | omega) only [f_X4_pass_c46, f_X4_pass_44, f_X4_pass_c23, f_X4_pass_c2, f_X4_pass, f_X4_isThrough, gt_21, gr_21_0, gt_22, gl_22, gc_22, gct_24, l_of, n_ltT, n_ltF, n_leT, n_leF, n_eqT, n_eqF, n_neM, n_Mne, n_M0, n_Mlt, n_0leM, nI_clamp, x_in_nI, n_1, nI_add, x_at, x_bd_s, x_bv_s, ↓x_lt, decide_true, decide_false, Bool.and_self, Bool.true_and, Bool.and_true, if_true, if_false, ite_true, ite_false, ↓reduceIte, not_true_eq_false, not_false_eq_true, Nat.reduceAdd, Nat.reduceMul, Nat.reduceEqDiff, eq_self, true_and, and_true, false_and, and_false, Option.some.injEq, Prod.mk.injEq, l_0, l_1, l_2, l_3, l_4, l_5, l_6, l_7, l_8, l_9, l_10, l_100, l_160, ↓m_1, ↓m_2, ↓m_3, ↓m_4, ↓m_5, ↓m_6, ↓m_7, ii_wi, ji_wi, ri_wi, ti_wi, li_wi, ii_wj, ji_wj, ri_wj, ti_wj, li_wj, e1, q3, e6, ne_21]
  · rw [if_neg h2]
    refine ⟨x_wi M (21 + 3 + k) 2 (nI (r_q ρ 2 k + 1)), ?_, hG, hR.q2 k (r_q ρ 2 k + 1) (by omega), Agr.rf.wi (by omega), Agr.rf.wi (by omega)⟩
    simp (disch := first | assumption | omega) only [f_X4_pass_c46, f_X4_pass_44, f_X4_pass_c23, f_X4_pass_c2, f_X4_pass, f_X4_isThrough, gt_21, gr_21_0, gt_22, gl_22, gc_22, gct_24, l_of, n_ltT, n_ltF, n_leT, n_leF, n_eqT, n_eqF, n_neM, n_Mne, n_M0, n_Mlt, n_0leM, nI_clamp, x_in_nI, n_1, nI_add, x_at, x_bd_s, x_bv_s, ↓x_lt, decide_true, decide_false, Bool.and_self, Bool.true_and, Bool.and_true, if_true, if_false, ite_true, ite_false, ↓reduceIte, not_true_eq_false, not_false_eq_true, Nat.reduceAdd, Nat.reduceMul, Nat.reduceEqDiff, eq_self, true_and, and_true, false_and, and_false, Option.some.injEq, Prod.mk.injEq, l_0, l_1, l_2, l_3, l_4, l_5, l_6, l_7, l_8, l_9, l_10, l_100, l_160, ↓m_1, ↓m_2, ↓m_3, ↓m_4, ↓m_5, ↓m_6, ↓m_7, ii_wi, ji_wi, ri_wi, ti_wi, li_wi, ii_wj, ji_wj, ri_wj, ti_wj, li_wj, e1, q3, e6, ne_21]
theorem m_counts {M : XM} {ρ : XR} {k : Nat} (hG : Geo L b1 b2 M) (hR : MR ρ M) (hk : k < 6) (hn : r_s ρ 1 ≤ 200) (hx : r_q ρ 2 k < r_s ρ 1) :
    ∃ M', f_X9_counts 83 (nI k) M = some M' ∧ Geo L b1 b2 M' ∧ MR (r_cnt ρ k) M' ∧ Agr 0 83 M M' ∧ (∀ j, j = 8 ∨ j = 40 ∨ j = 41 → x_i M' 83 j = x_i M 83 j) ∧ Agr 84 87 M M' ∧ Agr 88 105 M M' := by
  obtain ⟨⟨e0, e1, e2, e3, e4, e5, e6, e7⟩, hc, ht⟩ := id hR
  obtain ⟨q1, q2, q3, q4, q5⟩ := hc k hk
  unfold r_cnt
  rw [if_neg (by omega)]
  by_cases h2 : r_q ρ 2 k + 1 = r_s ρ 1
  · rw [if_pos h2]
    refine ⟨x_wi (x_wi M 87 k (nI (r_q ρ 2 k + 1))) 83 5 (r_done ρ + nI 1), ?_, hG, (hR.q2 k (r_q ρ 2 k + 1)).d _, (Agr.rf.wi (by omega)).wi (by omega), fun j hj => by simp only [ii_wi]; repeat rw [if_neg (by omega)], (Agr.rf.wi (by omega)).wi (by omega), (Agr.rf.wi (by omega)).wi (by omega)⟩
    simp (disch := first | assumption | omega) only [f_X9_counts, gt_83, gr_83_12, gt_87, gl_87, l_of, n_ltT, n_ltF, n_leT, n_leF, n_eqT, n_eqF, n_neM, n_Mne, n_M0, n_Mlt, n_0leM, nI_clamp, x_in_nI, n_1, nI_add, x_at, x_bd_s, x_bv_s, ↓x_lt, decide_true, decide_false, Bool.and_self, Bool.true_and, Bool.and_true, if_true, if_false, ite_true, ite_false, ↓reduceIte, not_true_eq_false, not_false_eq_true, Nat.reduceAdd, Nat.reduceMul, Nat.reduceEqDiff, eq_self, true_and, and_true, false_and, and_false, Option.some.injEq, Prod.mk.injEq, l_0, l_1, l_2, l_3, l_4, l_5, l_6, l_7, l_8, l_9, l_10, l_100, l_160, ↓m_1, ↓m_2, ↓m_3, ↓m_4, ↓m_5, ↓m_6, ↓m_7, ii_wi, ji_wi, ri_wi, ti_wi, li_wi, ii_wj, ji_wj, ri_wj, ti_wj, li_wj, e1, q3, e6]
  · rw [if_neg h2]
    refine ⟨x_wi M 87 k (nI (r_q ρ 2 k + 1)), ?_, hG, hR.q2 k (r_q ρ 2 k + 1), Agr.rf.wi (by omega), fun j hj => by simp only [ii_wi]; repeat rw [if_neg (by omega)], Agr.rf.wi (by omega), Agr.rf.wi (by omega)⟩
    simp (disch := first | assumption | omega) only [f_X9_counts, gt_83, gr_83_12, gt_87, gl_87, l_of, n_ltT, n_ltF, n_leT, n_leF, n_eqT, n_eqF, n_neM, n_Mne, n_M0, n_Mlt, n_0leM, nI_clamp, x_in_nI, n_1, nI_add, x_at, x_bd_s, x_bv_s, ↓x_lt, decide_true, decide_false, Bool.and_self, Bool.true_and, Bool.and_true, if_true, if_false, ite_true, ite_false, ↓reduceIte, not_true_eq_false, not_false_eq_true, Nat.reduceAdd, Nat.reduceMul, Nat.reduceEqDiff, eq_self, true_and, and_true, false_and, and_false, Option.some.injEq, Prod.mk.injEq, l_0, l_1, l_2, l_3, l_4, l_5, l_6, l_7, l_8, l_9, l_10, l_100, l_160, ↓m_1, ↓m_2, ↓m_3, ↓m_4, ↓m_5, ↓m_6, ↓m_7, ii_wi, ji_wi, ri_wi, ti_wi, li_wi, ii_wj, ji_wj, ri_wj, ti_wj, li_wj, e1, q3, e6]
theorem c_knits_lp {k : Nat} (hk : k < 6) (m : Nat) : ∀ (n j : Nat) (ρ : XR) (M : XM), m < n → Geo L b1 b2 M → CR 21 ρ M → r_s ρ 1 ≤ 200 → r_q ρ 2 k ≤ 200 → j + m ≤ 100 →
    ∃ M', lp_X8_knits_34 n 20 (nI k) (nI (j + m)) (nI j) M = some (nI (r_q (r_cn m ρ k) 2 k), M') ∧ Geo L b1 b2 M' ∧ CR 21 (r_cn m ρ k) M' ∧ Agr 0 21 M M' ∧ Agr 30 105 M M' := by
  induction m with
  | zero =>
    intro n j ρ M hn hG hR hs hq hj
    obtain ⟨n, rfl⟩ : ∃ i, n = i + 1 := ⟨n - 1, by omega⟩
    obtain ⟨q1, q2, q3, q4, q5⟩ := hR.2.1 k hk
    refine ⟨M, ?_, hG, hR, Agr.rf, Agr.rf⟩
    rw [s_lp_X8_knits_34]
    simp (disch := first | assumption | omega) only [bd_X8_knits_34, gt_20, gr_20_0, gt_21, gr_21_0, gt_22, gl_22, gc_22, gct_24, l_of, n_ltT, n_ltF, n_leT, n_leF, n_eqT, n_eqF, n_neM, n_Mne, n_M0, n_Mlt, n_0leM, nI_clamp, x_in_nI, n_1, nI_add, x_at, x_bd_s, x_bv_s, ↓x_lt, decide_true, decide_false, Bool.and_self, Bool.true_and, Bool.and_true, if_true, if_false, ite_true, ite_false, ↓reduceIte, not_true_eq_false, not_false_eq_true, Nat.reduceAdd, Nat.reduceMul, Nat.reduceEqDiff, eq_self, true_and, and_true, false_and, and_false, Option.some.injEq, Prod.mk.injEq, l_0, l_1, l_2, l_3, l_4, l_5, l_6, l_7, l_8, l_9, l_10, l_100, l_160, ↓m_1, ↓m_2, ↓m_3, ↓m_4, ↓m_5, ↓m_6, ↓m_7, q3, Nat.add_zero]
    rfl
  | succ m ih =>
    intro n j ρ M hn hG hR hs hq hj
    obtain ⟨n, rfl⟩ : ∃ i, n = i + 1 := ⟨n - 1, by omega⟩
    obtain ⟨M1, h1, h2, h3, h4, h5⟩ := c_pass0 hG hR hk hs hq
    obtain ⟨M2, g1, g2, g3, g4, g5⟩ := ih n (j + 1) (r_cnt ρ k) M1 (by omega) h2 h3 (by rw [cnt_s]; exact hs) (cnt_q ρ k hq hs) (by omega)
    refine ⟨M2, ?_, g2, g3, h4.tr g4, h5.tr g5⟩
    rw [show j + 1 + m = j + (m + 1) by omega] at g1
    rw [s_lp_X8_knits_34]
    simp (disch := first | assumption | omega) only [bd_X8_knits_34, f_X8_knits_c45, gt_20, gr_20_0, gt_21, l_of, n_ltT, n_ltF, n_leT, n_leF, n_eqT, n_eqF, n_neM, n_Mne, n_M0, n_Mlt, n_0leM, nI_clamp, x_in_nI, n_1, nI_add, x_at, x_bd_s, x_bv_s, ↓x_lt, decide_true, decide_false, Bool.and_self, Bool.true_and, Bool.and_true, if_true, if_false, ite_true, ite_false, ↓reduceIte, not_true_eq_false, not_false_eq_true, Nat.reduceAdd, Nat.reduceMul, Nat.reduceEqDiff, eq_self, true_and, and_true, false_and, and_false, Option.some.injEq, Prod.mk.injEq, l_0, l_1, l_2, l_3, l_4, l_5, l_6, l_7, l_8, l_9, l_10, l_100, l_160, ↓m_1, ↓m_2, ↓m_3, ↓m_4, ↓m_5, ↓m_6, ↓m_7, h1]
    exact g1
theorem m_knits_lp {k : Nat} (hk : k < 6) (m : Nat) : ∀ (n j : Nat) (ρ : XR) (M : XM), m < n → Geo L b1 b2 M → MR ρ M → r_s ρ 1 ≤ 200 → r_q ρ 2 k ≤ 200 → j + m ≤ 100 →
    ∃ M', lp_X9_knits_34 n 83 (nI k) (nI (j + m)) (nI j) M = some (nI (r_q (r_cn m ρ k) 2 k), M') ∧ Geo L b1 b2 M' ∧ MR (r_cn m ρ k) M' ∧ Agr 0 83 M M' ∧ (∀ j, j = 8 ∨ j = 40 ∨ j = 41 → x_i M' 83 j = x_i M 83 j) ∧ Agr 84 87 M M' ∧ Agr 88 105 M M' := by
  induction m with
  | zero =>
    intro n j ρ M hn hG hR hs hq hj
    obtain ⟨n, rfl⟩ : ∃ i, n = i + 1 := ⟨n - 1, by omega⟩
    obtain ⟨q1, q2, q3, q4, q5⟩ := hR.2.1 k hk
    refine ⟨M, ?_, hG, hR, Agr.rf, fun _ _ => rfl, Agr.rf, Agr.rf⟩
    rw [s_lp_X9_knits_34]
    simp (disch := first | assumption | omega) only [bd_X9_knits_34, f_X9_knits_63, gt_83, gr_83_12, gt_87, gl_87, l_of, n_ltT, n_ltF, n_leT, n_leF, n_eqT, n_eqF, n_neM, n_Mne, n_M0, n_Mlt, n_0leM, nI_clamp, x_in_nI, n_1, nI_add, x_at, x_bd_s, x_bv_s, ↓x_lt, decide_true, decide_false, Bool.and_self, Bool.true_and, Bool.and_true, if_true, if_false, ite_true, ite_false, ↓reduceIte, not_true_eq_false, not_false_eq_true, Nat.reduceAdd, Nat.reduceMul, Nat.reduceEqDiff, eq_self, true_and, and_true, false_and, and_false, Option.some.injEq, Prod.mk.injEq, l_0, l_1, l_2, l_3, l_4, l_5, l_6, l_7, l_8, l_9, l_10, l_100, l_160, ↓m_1, ↓m_2, ↓m_3, ↓m_4, ↓m_5, ↓m_6, ↓m_7, q3, Nat.add_zero]
    rfl
  | succ m ih =>
    intro n j ρ M hn hG hR hs hq hj
    obtain ⟨n, rfl⟩ : ∃ i, n = i + 1 := ⟨n - 1, by omega⟩
    obtain ⟨⟨e0, e1, e2, e3, e4, e5, e6, e7⟩, hc, ht⟩ := id hR
    obtain ⟨q1, q2, q3, q4, q5⟩ := hc k hk
    by_cases hx : r_s ρ 1 ≤ r_q ρ 2 k
    · rw [cn_stop _ _ _ hx]
      refine ⟨M, ?_, hG, hR, Agr.rf, fun _ _ => rfl, Agr.rf, Agr.rf⟩
      rw [s_lp_X9_knits_34]
      simp (disch := first | assumption | omega) only [bd_X9_knits_34, f_X9_knits_63, gt_83, gr_83_12, gt_87, gl_87, l_of, n_ltT, n_ltF, n_leT, n_leF, n_eqT, n_eqF, n_neM, n_Mne, n_M0, n_Mlt, n_0leM, nI_clamp, x_in_nI, n_1, nI_add, x_at, x_bd_s, x_bv_s, ↓x_lt, decide_true, decide_false, Bool.and_self, Bool.true_and, Bool.and_true, if_true, if_false, ite_true, ite_false, ↓reduceIte, not_true_eq_false, not_false_eq_true, Nat.reduceAdd, Nat.reduceMul, Nat.reduceEqDiff, eq_self, true_and, and_true, false_and, and_false, Option.some.injEq, Prod.mk.injEq, l_0, l_1, l_2, l_3, l_4, l_5, l_6, l_7, l_8, l_9, l_10, l_100, l_160, ↓m_1, ↓m_2, ↓m_3, ↓m_4, ↓m_5, ↓m_6, ↓m_7, q3, e1]
    obtain ⟨M1, h1, h2, h3, h4, h5, h6, h7⟩ := m_counts hG hR hk hs (by omega)
    obtain ⟨M2, g1, g2, g3, g4, g5, g6, g7⟩ := ih n (j + 1) (r_cnt ρ k) M1 (by omega) h2 h3 (by rw [cnt_s]; exact hs) (cnt_q ρ k hq hs) (by omega)
    refine ⟨M2, ?_, g2, g3, h4.tr g4, fun i hi => (g5 i hi).trans (h5 i hi), h6.tr g6, h7.tr g7⟩
    rw [show j + 1 + m = j + (m + 1) by omega] at g1
    rw [s_lp_X9_knits_34]
    simp (disch := first | assumption | omega) only [bd_X9_knits_34, f_X9_knits_c54, gt_83, gr_83_12, gt_87, gl_87, l_of, n_ltT, n_ltF, n_leT, n_leF, n_eqT, n_eqF, n_neM, n_Mne, n_M0, n_Mlt, n_0leM, nI_clamp, x_in_nI, n_1, nI_add, x_at, x_bd_s, x_bv_s, ↓x_lt, decide_true, decide_false, Bool.and_self, Bool.true_and, Bool.and_true, if_true, if_false, ite_true, ite_false, ↓reduceIte, not_true_eq_false, not_false_eq_true, Nat.reduceAdd, Nat.reduceMul, Nat.reduceEqDiff, eq_self, true_and, and_true, false_and, and_false, Option.some.injEq, Prod.mk.injEq, l_0, l_1, l_2, l_3, l_4, l_5, l_6, l_7, l_8, l_9, l_10, l_100, l_160, ↓m_1, ↓m_2, ↓m_3, ↓m_4, ↓m_5, ↓m_6, ↓m_7, q3, e1, h1]
    exact g1
end
