/-! what a room's row does to the reference's room -/
section
variable {L : Nat} {b1 b2 : Bool}
theorem m_ends_fr (m : Nat) : ∀ (n j : Nat) (ρ : XR) (M : XM), m < n → Geo L b1 b2 M → MR ρ M → r_s ρ 0 ≤ 6 → r_s ρ 1 ≤ 200 → (∀ c, c < 6 → r_q ρ 2 c ≤ 200) → j + m = r_s ρ 0 →
    ∃ M', lp_X9_ends_7 n 83 (nI j) M = some M' ∧ Geo L b1 b2 M' ∧ MR (r_cl m ρ j) M' ∧ Fr PM M M' := by
  induction m with
  | zero =>
    intro n j ρ M hn hG hR h0 h1 hq hj
    obtain ⟨n, rfl⟩ : ∃ i, n = i + 1 := ⟨n - 1, by omega⟩
    have e0 := hR.1.1
    refine ⟨M, ?_, hG, hR, Fr.rf⟩
    rw [s_lp_X9_ends_7, show j = r_s ρ 0 by omega]
    simp (disch := first | assumption | omega) only [bd_X9_ends_7, gt_83, l_of, n_ltT, n_ltF, n_leT, n_leF, n_eqT, n_eqF, n_neM, n_Mne, n_M0, n_Mlt, n_0leM, nI_clamp, x_in_nI, n_1, nI_add, x_at, x_bd_s, x_bv_s, ↓x_lt, decide_true, decide_false, Bool.and_self, Bool.true_and, Bool.and_true, if_true, if_false, ite_true, ite_false, ↓reduceIte, not_true_eq_false, not_false_eq_true, Nat.reduceAdd, Nat.reduceMul, Nat.reduceEqDiff, eq_self, true_and, and_true, false_and, and_false, Option.some.injEq, Prod.mk.injEq, l_0, l_1, l_2, l_3, l_4, l_5, l_6, l_7, l_8, l_9, l_10, l_100, l_160, ↓m_1, ↓m_2, ↓m_3, ↓m_4, ↓m_5, ↓m_6, ↓m_7, e0]
  | succ m ih =>
    intro n j ρ M hn hG hR h0 h1 hq hj
    obtain ⟨n, rfl⟩ : ∃ i, n = i + 1 := ⟨n - 1, by omega⟩
    obtain ⟨⟨e0, e1, e2, e3, e4, e5, e6, e7⟩, hc, ht⟩ := id hR
    obtain ⟨q1, q2, q3, q4, q5⟩ := hc j (by omega)
    have y := hq j (by omega)
    have hle := mn_le (r_q ρ 2 j) (r_s ρ 1)
    obtain ⟨M2, g1, g2, g3, g4⟩ := ih n (j + 1) (w_q ρ 2 j (mn (r_q ρ 2 j) (r_s ρ 1))) (x_wi M 87 j (nI (mn (r_q ρ 2 j) (r_s ρ 1)))) (by omega) hG (hR.q2 j _) h0 h1 (fun c hc => by
      rw [rq_wq]
      split
      · omega
      · exact hq c hc) (by rw [rs_wq]; omega)
    have a1 : Fr PM M (x_wi M 87 j (nI (mn (r_q ρ 2 j) (r_s ρ 1)))) := Fr.rf.wi (by omega)
    refine ⟨M2, ?_, g2, g3, a1.tr g4⟩
    rw [s_lp_X9_ends_7]
    unfold mn at g1
    by_cases hx : r_s ρ 1 < r_q ρ 2 j
    · rw [if_pos hx] at g1
      simp (disch := first | assumption | omega) only [bd_X9_ends_7, f_X9_ends_46, gt_83, gr_83_12, gt_87, gl_87, l_of, n_ltT, n_ltF, n_leT, n_leF, n_eqT, n_eqF, n_neM, n_Mne, n_M0, n_Mlt, n_0leM, nI_clamp, x_in_nI, n_1, nI_add, x_at, x_bd_s, x_bv_s, ↓x_lt, decide_true, decide_false, Bool.and_self, Bool.true_and, Bool.and_true, if_true, if_false, ite_true, ite_false, ↓reduceIte, not_true_eq_false, not_false_eq_true, Nat.reduceAdd, Nat.reduceMul, Nat.reduceEqDiff, eq_self, true_and, and_true, false_and, and_false, Option.some.injEq, Prod.mk.injEq, l_0, l_1, l_2, l_3, l_4, l_5, l_6, l_7, l_8, l_9, l_10, l_100, l_160, ↓m_1, ↓m_2, ↓m_3, ↓m_4, ↓m_5, ↓m_6, ↓m_7, e0, e1, q3]
      exact g1
    · rw [if_neg hx] at g1
      simp (disch := first | assumption | omega) only [bd_X9_ends_7, f_X9_ends_46, gt_83, gr_83_12, gt_87, gl_87, l_of, n_ltT, n_ltF, n_leT, n_leF, n_eqT, n_eqF, n_neM, n_Mne, n_M0, n_Mlt, n_0leM, nI_clamp, x_in_nI, n_1, nI_add, x_at, x_bd_s, x_bv_s, ↓x_lt, decide_true, decide_false, Bool.and_self, Bool.true_and, Bool.and_true, if_true, if_false, ite_true, ite_false, ↓reduceIte, not_true_eq_false, not_false_eq_true, Nat.reduceAdd, Nat.reduceMul, Nat.reduceEqDiff, eq_self, true_and, and_true, false_and, and_false, Option.some.injEq, Prod.mk.injEq, l_0, l_1, l_2, l_3, l_4, l_5, l_6, l_7, l_8, l_9, l_10, l_100, l_160, ↓m_1, ↓m_2, ↓m_3, ↓m_4, ↓m_5, ↓m_6, ↓m_7, e0, e1, q3]
      exact g1
theorem m_add {M : XM} {ρ : XR} {k j : Nat} (hG : Geo L b1 b2 M) (hR : MR ρ M) (h5 : r_s ρ 0 < 6) :
    ∃ M' w, f_X9_adds 83 (nI k) (nI j) M = some (w, M') ∧ Geo L b1 b2 M' ∧ MR (r_add ρ k j) M' ∧ Fr PM M M' := by
  obtain ⟨⟨e0, e1, e2, e3, e4, e5, e6, e7⟩, hc, ht⟩ := id hR
  refine ⟨x_wi (x_wi (x_wi (x_wi (x_wi (x_wi M 85 (r_s ρ 0) (nI k)) 86 (r_s ρ 0) (nI j)) 87 (r_s ρ 0) (nI 0)) 88 (r_s ρ 0) (nI 0)) 89 (r_s ρ 0) (nI 0)) 83 0 (nI (r_s ρ 0 + 1)), nI (r_s ρ 0), ?_, hG, (((((hR.q0 (r_s ρ 0) k).q1 _ j).q2 _ 0).o _ (nI 0)).q3 _ 0).s0 _, (((((Fr.rf.wi (by omega)).wi (by omega)).wi (by omega)).wi (by omega)).wi (by omega)).wi (by omega)⟩
  simp (disch := first | assumption | omega) only [f_X9_adds, l_of, n_ltT, n_ltF, n_leT, n_leF, n_eqT, n_eqF, n_neM, n_Mne, n_M0, n_Mlt, n_0leM, nI_clamp, x_in_nI, n_1, nI_add, x_at, x_bd_s, x_bv_s, ↓x_lt, decide_true, decide_false, Bool.and_self, Bool.true_and, Bool.and_true, if_true, if_false, ite_true, ite_false, ↓reduceIte, not_true_eq_false, not_false_eq_true, Nat.reduceAdd, Nat.reduceMul, Nat.reduceEqDiff, eq_self, true_and, and_true, false_and, and_false, Option.some.injEq, Prod.mk.injEq, l_0, l_1, l_2, l_3, l_4, l_5, l_6, l_7, l_8, l_9, l_10, l_100, l_160, ↓m_1, ↓m_2, ↓m_3, ↓m_4, ↓m_5, ↓m_6, ↓m_7, ii_wi, ji_wi, ri_wi, ti_wi, li_wi, ii_wj, ji_wj, ri_wj, ti_wj, li_wj, gt_83, gr_83_10, gt_85, gl_85, gr_83_11, gt_86, gl_86, gr_83_12, gt_87, gl_87, gr_83_13, gt_88, gl_88, gr_83_14, gt_89, gl_89, e0]
theorem m_asked {M : XM} {k v : Nat} (hk : k < 4) (hv : v < 10000) : f_X9_isAsked 83 (nI k) (nI v) M = some (if v < tlo k ∨ thi k < v then nI 0 else nI 1, M) := by
  rcases (by omega : k = 0 ∨ k = 1 ∨ k = 2 ∨ k = 3) with h | h | h | h <;> subst h
  · show _ = some (if v < 1 ∨ 200 < v then nI 0 else nI 1, M)
    by_cases q1 : v < 1
    · rw [if_pos (Or.inl q1)]
      simp (disch := first | assumption | omega) only [f_X9_isAsked_43, f_X9_isAsked, l_200, l_1000, l_99, q1, l_of, n_ltT, n_ltF, n_leT, n_leF, n_eqT, n_eqF, n_neM, n_Mne, n_M0, n_Mlt, n_0leM, nI_clamp, x_in_nI, n_1, nI_add, x_at, x_bd_s, x_bv_s, ↓x_lt, decide_true, decide_false, Bool.and_self, Bool.true_and, Bool.and_true, if_true, if_false, ite_true, ite_false, ↓reduceIte, not_true_eq_false, not_false_eq_true, Nat.reduceAdd, Nat.reduceMul, Nat.reduceEqDiff, eq_self, true_and, and_true, false_and, and_false, Option.some.injEq, Prod.mk.injEq, l_0, l_1, l_2, l_3, l_4, l_5, l_6, l_7, l_8, l_9, l_10, l_100, l_160, ↓m_1, ↓m_2, ↓m_3, ↓m_4, ↓m_5, ↓m_6, ↓m_7]
    by_cases q2 : 200 < v
    · rw [if_pos (Or.inr q2)]
      simp (disch := first | assumption | omega) only [f_X9_isAsked_43, f_X9_isAsked, l_200, l_1000, l_99, q1, q2, l_of, n_ltT, n_ltF, n_leT, n_leF, n_eqT, n_eqF, n_neM, n_Mne, n_M0, n_Mlt, n_0leM, nI_clamp, x_in_nI, n_1, nI_add, x_at, x_bd_s, x_bv_s, ↓x_lt, decide_true, decide_false, Bool.and_self, Bool.true_and, Bool.and_true, if_true, if_false, ite_true, ite_false, ↓reduceIte, not_true_eq_false, not_false_eq_true, Nat.reduceAdd, Nat.reduceMul, Nat.reduceEqDiff, eq_self, true_and, and_true, false_and, and_false, Option.some.injEq, Prod.mk.injEq, l_0, l_1, l_2, l_3, l_4, l_5, l_6, l_7, l_8, l_9, l_10, l_100, l_160, ↓m_1, ↓m_2, ↓m_3, ↓m_4, ↓m_5, ↓m_6, ↓m_7]
    · rw [if_neg (by omega)]
      simp (disch := first | assumption | omega) only [f_X9_isAsked_43, f_X9_isAsked, l_200, l_1000, l_99, q1, q2, l_of, n_ltT, n_ltF, n_leT, n_leF, n_eqT, n_eqF, n_neM, n_Mne, n_M0, n_Mlt, n_0leM, nI_clamp, x_in_nI, n_1, nI_add, x_at, x_bd_s, x_bv_s, ↓x_lt, decide_true, decide_false, Bool.and_self, Bool.true_and, Bool.and_true, if_true, if_false, ite_true, ite_false, ↓reduceIte, not_true_eq_false, not_false_eq_true, Nat.reduceAdd, Nat.reduceMul, Nat.reduceEqDiff, eq_self, true_and, and_true, false_and, and_false, Option.some.injEq, Prod.mk.injEq, l_0, l_1, l_2, l_3, l_4, l_5, l_6, l_7, l_8, l_9, l_10, l_100, l_160, ↓m_1, ↓m_2, ↓m_3, ↓m_4, ↓m_5, ↓m_6, ↓m_7]
  · show _ = some (if v < 1 ∨ 200 < v then nI 0 else nI 1, M)
    by_cases q1 : v < 1
    · rw [if_pos (Or.inl q1)]
      simp (disch := first | assumption | omega) only [f_X9_isAsked_43, f_X9_isAsked, l_200, l_1000, l_99, q1, l_of, n_ltT, n_ltF, n_leT, n_leF, n_eqT, n_eqF, n_neM, n_Mne, n_M0, n_Mlt, n_0leM, nI_clamp, x_in_nI, n_1, nI_add, x_at, x_bd_s, x_bv_s, ↓x_lt, decide_true, decide_false, Bool.and_self, Bool.true_and, Bool.and_true, if_true, if_false, ite_true, ite_false, ↓reduceIte, not_true_eq_false, not_false_eq_true, Nat.reduceAdd, Nat.reduceMul, Nat.reduceEqDiff, eq_self, true_and, and_true, false_and, and_false, Option.some.injEq, Prod.mk.injEq, l_0, l_1, l_2, l_3, l_4, l_5, l_6, l_7, l_8, l_9, l_10, l_100, l_160, ↓m_1, ↓m_2, ↓m_3, ↓m_4, ↓m_5, ↓m_6, ↓m_7]
    by_cases q2 : 200 < v
    · rw [if_pos (Or.inr q2)]
      simp (disch := first | assumption | omega) only [f_X9_isAsked_43, f_X9_isAsked, l_200, l_1000, l_99, q1, q2, l_of, n_ltT, n_ltF, n_leT, n_leF, n_eqT, n_eqF, n_neM, n_Mne, n_M0, n_Mlt, n_0leM, nI_clamp, x_in_nI, n_1, nI_add, x_at, x_bd_s, x_bv_s, ↓x_lt, decide_true, decide_false, Bool.and_self, Bool.true_and, Bool.and_true, if_true, if_false, ite_true, ite_false, ↓reduceIte, not_true_eq_false, not_false_eq_true, Nat.reduceAdd, Nat.reduceMul, Nat.reduceEqDiff, eq_self, true_and, and_true, false_and, and_false, Option.some.injEq, Prod.mk.injEq, l_0, l_1, l_2, l_3, l_4, l_5, l_6, l_7, l_8, l_9, l_10, l_100, l_160, ↓m_1, ↓m_2, ↓m_3, ↓m_4, ↓m_5, ↓m_6, ↓m_7]
    · rw [if_neg (by omega)]
      simp (disch := first | assumption | omega) only [f_X9_isAsked_43, f_X9_isAsked, l_200, l_1000, l_99, q1, q2, l_of, n_ltT, n_ltF, n_leT, n_leF, n_eqT, n_eqF, n_neM, n_Mne, n_M0, n_Mlt, n_0leM, nI_clamp, x_in_nI, n_1, nI_add, x_at, x_bd_s, x_bv_s, ↓x_lt, decide_true, decide_false, Bool.and_self, Bool.true_and, Bool.and_true, if_true, if_false, ite_true, ite_false, ↓reduceIte, not_true_eq_false, not_false_eq_true, Nat.reduceAdd, Nat.reduceMul, Nat.reduceEqDiff, eq_self, true_and, and_true, false_and, and_false, Option.some.injEq, Prod.mk.injEq, l_0, l_1, l_2, l_3, l_4, l_5, l_6, l_7, l_8, l_9, l_10, l_100, l_160, ↓m_1, ↓m_2, ↓m_3, ↓m_4, ↓m_5, ↓m_6, ↓m_7]
  · show _ = some (if v < 0 ∨ 1000 < v then nI 0 else nI 1, M)
    by_cases q2 : 1000 < v
    · rw [if_pos (Or.inr q2)]
      simp (disch := first | assumption | omega) only [f_X9_isAsked_43, f_X9_isAsked, l_200, l_1000, l_99, q2, l_of, n_ltT, n_ltF, n_leT, n_leF, n_eqT, n_eqF, n_neM, n_Mne, n_M0, n_Mlt, n_0leM, nI_clamp, x_in_nI, n_1, nI_add, x_at, x_bd_s, x_bv_s, ↓x_lt, decide_true, decide_false, Bool.and_self, Bool.true_and, Bool.and_true, if_true, if_false, ite_true, ite_false, ↓reduceIte, not_true_eq_false, not_false_eq_true, Nat.reduceAdd, Nat.reduceMul, Nat.reduceEqDiff, eq_self, true_and, and_true, false_and, and_false, Option.some.injEq, Prod.mk.injEq, l_0, l_1, l_2, l_3, l_4, l_5, l_6, l_7, l_8, l_9, l_10, l_100, l_160, ↓m_1, ↓m_2, ↓m_3, ↓m_4, ↓m_5, ↓m_6, ↓m_7]
    · rw [if_neg (by omega)]
      simp (disch := first | assumption | omega) only [f_X9_isAsked_43, f_X9_isAsked, l_200, l_1000, l_99, q2, l_of, n_ltT, n_ltF, n_leT, n_leF, n_eqT, n_eqF, n_neM, n_Mne, n_M0, n_Mlt, n_0leM, nI_clamp, x_in_nI, n_1, nI_add, x_at, x_bd_s, x_bv_s, ↓x_lt, decide_true, decide_false, Bool.and_self, Bool.true_and, Bool.and_true, if_true, if_false, ite_true, ite_false, ↓reduceIte, not_true_eq_false, not_false_eq_true, Nat.reduceAdd, Nat.reduceMul, Nat.reduceEqDiff, eq_self, true_and, and_true, false_and, and_false, Option.some.injEq, Prod.mk.injEq, l_0, l_1, l_2, l_3, l_4, l_5, l_6, l_7, l_8, l_9, l_10, l_100, l_160, ↓m_1, ↓m_2, ↓m_3, ↓m_4, ↓m_5, ↓m_6, ↓m_7]
  · show _ = some (if v < 0 ∨ 99 < v then nI 0 else nI 1, M)
    by_cases q2 : 99 < v
    · rw [if_pos (Or.inr q2)]
      simp (disch := first | assumption | omega) only [f_X9_isAsked_43, f_X9_isAsked, l_200, l_1000, l_99, q2, l_of, n_ltT, n_ltF, n_leT, n_leF, n_eqT, n_eqF, n_neM, n_Mne, n_M0, n_Mlt, n_0leM, nI_clamp, x_in_nI, n_1, nI_add, x_at, x_bd_s, x_bv_s, ↓x_lt, decide_true, decide_false, Bool.and_self, Bool.true_and, Bool.and_true, if_true, if_false, ite_true, ite_false, ↓reduceIte, not_true_eq_false, not_false_eq_true, Nat.reduceAdd, Nat.reduceMul, Nat.reduceEqDiff, eq_self, true_and, and_true, false_and, and_false, Option.some.injEq, Prod.mk.injEq, l_0, l_1, l_2, l_3, l_4, l_5, l_6, l_7, l_8, l_9, l_10, l_100, l_160, ↓m_1, ↓m_2, ↓m_3, ↓m_4, ↓m_5, ↓m_6, ↓m_7]
    · rw [if_neg (by omega)]
      simp (disch := first | assumption | omega) only [f_X9_isAsked_43, f_X9_isAsked, l_200, l_1000, l_99, q2, l_of, n_ltT, n_ltF, n_leT, n_leF, n_eqT, n_eqF, n_neM, n_Mne, n_M0, n_Mlt, n_0leM, nI_clamp, x_in_nI, n_1, nI_add, x_at, x_bd_s, x_bv_s, ↓x_lt, decide_true, decide_false, Bool.and_self, Bool.true_and, Bool.and_true, if_true, if_false, ite_true, ite_false, ↓reduceIte, not_true_eq_false, not_false_eq_true, Nat.reduceAdd, Nat.reduceMul, Nat.reduceEqDiff, eq_self, true_and, and_true, false_and, and_false, Option.some.injEq, Prod.mk.injEq, l_0, l_1, l_2, l_3, l_4, l_5, l_6, l_7, l_8, l_9, l_10, l_100, l_160, ↓m_1, ↓m_2, ↓m_3, ↓m_4, ↓m_5, ↓m_6, ↓m_7]
theorem m_set {Q : Nat} {M : XM} {ρ : XR} {k v : Nat} (hG : Geo L b1 b2 M) (hR : MR ρ M) (hV : WF Q ρ) (hk : k < 4) (h1 : tlo k ≤ v) (h2 : v ≤ thi k) :
    ∃ M' w, f_X9_ask 83 (nI k) (nI v) M = some (w, M') ∧ Geo L b1 b2 M' ∧ MR (r_set ρ k v) M' ∧ Fr PM M M' := by
  obtain ⟨⟨e0, e1, e2, e3, e4, e5, e6, e7⟩, hc, ht⟩ := id hR
  obtain ⟨⟨w0, w1, w2, w3, w4, w5, w6, w7⟩, wc, wl, wt⟩ := id hV
  have h3 : thi k ≤ 1000 := by unfold thi; split <;> (try split) <;> omega
  have ha := m_asked (M := M) (k := k) (v := v) hk (by omega)
  rw [if_neg (by omega)] at ha
  rcases (by omega : k = 0 ∨ k = 1 ∨ k = 2 ∨ k = 3) with h | h | h | h <;> subst h
  · obtain ⟨M2, g1, g2, g3, g4⟩ := m_ends_fr (r_s ρ 0) x_fuel 0 (w_s ρ 1 v) (x_wi M 83 1 (nI v)) (fu (by omega)) hG (hR.s1 v) w0 (show v ≤ 200 from h2) (fun c hc9 => (wc c hc9).2.2.1) (by rw [Nat.zero_add]; rfl)
    refine ⟨M2, nI (r_s ρ 1), ?_, g2, g3, (Fr.rf.wi (by omega)).tr g4⟩
    simp (disch := first | assumption | omega) only [f_X9_ask_18, f_X9_ask_64, f_X9_ask_c12, f_X9_ask, f_X9_ends, gt_83, ha, e1, g1, l_of, n_ltT, n_ltF, n_leT, n_leF, n_eqT, n_eqF, n_neM, n_Mne, n_M0, n_Mlt, n_0leM, nI_clamp, x_in_nI, n_1, nI_add, x_at, x_bd_s, x_bv_s, ↓x_lt, decide_true, decide_false, Bool.and_self, Bool.true_and, Bool.and_true, if_true, if_false, ite_true, ite_false, ↓reduceIte, not_true_eq_false, not_false_eq_true, Nat.reduceAdd, Nat.reduceMul, Nat.reduceEqDiff, eq_self, true_and, and_true, false_and, and_false, Option.some.injEq, Prod.mk.injEq, l_0, l_1, l_2, l_3, l_4, l_5, l_6, l_7, l_8, l_9, l_10, l_100, l_160, ↓m_1, ↓m_2, ↓m_3, ↓m_4, ↓m_5, ↓m_6, ↓m_7]
  · refine ⟨x_wi M 83 2 (nI v), nI (r_s ρ 2), ?_, hG, hR.s2 v, Fr.rf.wi (by omega)⟩
    simp (disch := first | assumption | omega) only [f_X9_ask_18, f_X9_ask_64, f_X9_ask_c12, f_X9_ask, gt_83, ha, e2, l_of, n_ltT, n_ltF, n_leT, n_leF, n_eqT, n_eqF, n_neM, n_Mne, n_M0, n_Mlt, n_0leM, nI_clamp, x_in_nI, n_1, nI_add, x_at, x_bd_s, x_bv_s, ↓x_lt, decide_true, decide_false, Bool.and_self, Bool.true_and, Bool.and_true, if_true, if_false, ite_true, ite_false, ↓reduceIte, not_true_eq_false, not_false_eq_true, Nat.reduceAdd, Nat.reduceMul, Nat.reduceEqDiff, eq_self, true_and, and_true, false_and, and_false, Option.some.injEq, Prod.mk.injEq, l_0, l_1, l_2, l_3, l_4, l_5, l_6, l_7, l_8, l_9, l_10, l_100, l_160, ↓m_1, ↓m_2, ↓m_3, ↓m_4, ↓m_5, ↓m_6, ↓m_7]
  · refine ⟨x_wi M 83 3 (nI v), nI (r_s ρ 3), ?_, hG, hR.s3 v, Fr.rf.wi (by omega)⟩
    simp (disch := first | assumption | omega) only [f_X9_ask_18, f_X9_ask_64, f_X9_ask_c12, f_X9_ask, gt_83, ha, e3, l_of, n_ltT, n_ltF, n_leT, n_leF, n_eqT, n_eqF, n_neM, n_Mne, n_M0, n_Mlt, n_0leM, nI_clamp, x_in_nI, n_1, nI_add, x_at, x_bd_s, x_bv_s, ↓x_lt, decide_true, decide_false, Bool.and_self, Bool.true_and, Bool.and_true, if_true, if_false, ite_true, ite_false, ↓reduceIte, not_true_eq_false, not_false_eq_true, Nat.reduceAdd, Nat.reduceMul, Nat.reduceEqDiff, eq_self, true_and, and_true, false_and, and_false, Option.some.injEq, Prod.mk.injEq, l_0, l_1, l_2, l_3, l_4, l_5, l_6, l_7, l_8, l_9, l_10, l_100, l_160, ↓m_1, ↓m_2, ↓m_3, ↓m_4, ↓m_5, ↓m_6, ↓m_7]
  · refine ⟨x_wi M 83 4 (nI v), nI (r_s ρ 4), ?_, hG, hR.s4 v, Fr.rf.wi (by omega)⟩
    simp (disch := first | assumption | omega) only [f_X9_ask_18, f_X9_ask_64, f_X9_ask_c12, f_X9_ask, gt_83, ha, e4, l_of, n_ltT, n_ltF, n_leT, n_leF, n_eqT, n_eqF, n_neM, n_Mne, n_M0, n_Mlt, n_0leM, nI_clamp, x_in_nI, n_1, nI_add, x_at, x_bd_s, x_bv_s, ↓x_lt, decide_true, decide_false, Bool.and_self, Bool.true_and, Bool.and_true, if_true, if_false, ite_true, ite_false, ↓reduceIte, not_true_eq_false, not_false_eq_true, Nat.reduceAdd, Nat.reduceMul, Nat.reduceEqDiff, eq_self, true_and, and_true, false_and, and_false, Option.some.injEq, Prod.mk.injEq, l_0, l_1, l_2, l_3, l_4, l_5, l_6, l_7, l_8, l_9, l_10, l_100, l_160, ↓m_1, ↓m_2, ↓m_3, ↓m_4, ↓m_5, ↓m_6, ↓m_7]
/-- is the number so -/
def sob (ρ : XR) (w i v : Nat) : Bool := if w = 0 then (if i = 0 then decide (v ≤ 6) else decide (v ≤ 9)) else if w = 5 then true else if w = 6 then decide (v < r_s ρ 0 ∧ r_q ρ 2 v < r_s ρ 1) else decide (tlo (w - 1) ≤ v ∧ v ≤ thi (w - 1))
theorem m_isSo {Q : Nat} {M : XM} {ρ : XR} {w i v : Nat} (hG : Geo L b1 b2 M) (hR : MR ρ M) (hV : WF Q ρ) (hw : w < 7) (hi : i < 2) (hv : v < 10000) (h27 : x_i M 83 27 = nI v) : f_X9_isSo 83 (nI w) (nI i) M = some (if sob ρ w i v = true then nI 1 else nI 0, M) := by
  obtain ⟨⟨e0, e1, e2, e3, e4, e5, e6, e7⟩, hc, ht⟩ := id hR
  obtain ⟨⟨w0, w1, w2, w3, w4, w5, w6, w7⟩, wc, wl, wt⟩ := id hV
  unfold sob
  by_cases h0 : w = 0
  · subst h0
    rw [if_pos rfl]
    by_cases hi0 : i = 0
    · rw [if_pos hi0]
      by_cases q : v ≤ 6
      · rw [if_pos (decide_eq_true q)]
        simp (disch := first | assumption | omega) only [f_X9_isSo_51, f_X9_isSo, gt_83, h27, hi0, l_of, n_ltT, n_ltF, n_leT, n_leF, n_eqT, n_eqF, n_neM, n_Mne, n_M0, n_Mlt, n_0leM, nI_clamp, x_in_nI, n_1, nI_add, x_at, x_bd_s, x_bv_s, ↓x_lt, decide_true, decide_false, Bool.and_self, Bool.true_and, Bool.and_true, if_true, if_false, ite_true, ite_false, ↓reduceIte, not_true_eq_false, not_false_eq_true, Nat.reduceAdd, Nat.reduceMul, Nat.reduceEqDiff, eq_self, true_and, and_true, false_and, and_false, Option.some.injEq, Prod.mk.injEq, l_0, l_1, l_2, l_3, l_4, l_5, l_6, l_7, l_8, l_9, l_10, l_100, l_160, ↓m_1, ↓m_2, ↓m_3, ↓m_4, ↓m_5, ↓m_6, ↓m_7]
      · rw [if_neg (fun z => q (of_decide_eq_true z))]
        simp (disch := first | assumption | omega) only [f_X9_isSo_51, f_X9_isSo, gt_83, h27, hi0, l_of, n_ltT, n_ltF, n_leT, n_leF, n_eqT, n_eqF, n_neM, n_Mne, n_M0, n_Mlt, n_0leM, nI_clamp, x_in_nI, n_1, nI_add, x_at, x_bd_s, x_bv_s, ↓x_lt, decide_true, decide_false, Bool.and_self, Bool.true_and, Bool.and_true, if_true, if_false, ite_true, ite_false, ↓reduceIte, not_true_eq_false, not_false_eq_true, Nat.reduceAdd, Nat.reduceMul, Nat.reduceEqDiff, eq_self, true_and, and_true, false_and, and_false, Option.some.injEq, Prod.mk.injEq, l_0, l_1, l_2, l_3, l_4, l_5, l_6, l_7, l_8, l_9, l_10, l_100, l_160, ↓m_1, ↓m_2, ↓m_3, ↓m_4, ↓m_5, ↓m_6, ↓m_7]
    · rw [if_neg hi0]
      by_cases q : v ≤ 9
      · rw [if_pos (decide_eq_true q)]
        simp (disch := first | assumption | omega) only [f_X9_isSo_51, f_X9_isSo, gt_83, h27, hi0, l_of, n_ltT, n_ltF, n_leT, n_leF, n_eqT, n_eqF, n_neM, n_Mne, n_M0, n_Mlt, n_0leM, nI_clamp, x_in_nI, n_1, nI_add, x_at, x_bd_s, x_bv_s, ↓x_lt, decide_true, decide_false, Bool.and_self, Bool.true_and, Bool.and_true, if_true, if_false, ite_true, ite_false, ↓reduceIte, not_true_eq_false, not_false_eq_true, Nat.reduceAdd, Nat.reduceMul, Nat.reduceEqDiff, eq_self, true_and, and_true, false_and, and_false, Option.some.injEq, Prod.mk.injEq, l_0, l_1, l_2, l_3, l_4, l_5, l_6, l_7, l_8, l_9, l_10, l_100, l_160, ↓m_1, ↓m_2, ↓m_3, ↓m_4, ↓m_5, ↓m_6, ↓m_7]
      · rw [if_neg (fun z => q (of_decide_eq_true z))]
        simp (disch := first | assumption | omega) only [f_X9_isSo_51, f_X9_isSo, gt_83, h27, hi0, l_of, n_ltT, n_ltF, n_leT, n_leF, n_eqT, n_eqF, n_neM, n_Mne, n_M0, n_Mlt, n_0leM, nI_clamp, x_in_nI, n_1, nI_add, x_at, x_bd_s, x_bv_s, ↓x_lt, decide_true, decide_false, Bool.and_self, Bool.true_and, Bool.and_true, if_true, if_false, ite_true, ite_false, ↓reduceIte, not_true_eq_false, not_false_eq_true, Nat.reduceAdd, Nat.reduceMul, Nat.reduceEqDiff, eq_self, true_and, and_true, false_and, and_false, Option.some.injEq, Prod.mk.injEq, l_0, l_1, l_2, l_3, l_4, l_5, l_6, l_7, l_8, l_9, l_10, l_100, l_160, ↓m_1, ↓m_2, ↓m_3, ↓m_4, ↓m_5, ↓m_6, ↓m_7]
  rw [if_neg h0]
  by_cases h5 : w = 5
  · subst h5
    simp (disch := first | assumption | omega) only [f_X9_isSo_51, f_X9_isSo, gt_83, h27, l_of, n_ltT, n_ltF, n_leT, n_leF, n_eqT, n_eqF, n_neM, n_Mne, n_M0, n_Mlt, n_0leM, nI_clamp, x_in_nI, n_1, nI_add, x_at, x_bd_s, x_bv_s, ↓x_lt, decide_true, decide_false, Bool.and_self, Bool.true_and, Bool.and_true, if_true, if_false, ite_true, ite_false, ↓reduceIte, not_true_eq_false, not_false_eq_true, Nat.reduceAdd, Nat.reduceMul, Nat.reduceEqDiff, eq_self, true_and, and_true, false_and, and_false, Option.some.injEq, Prod.mk.injEq, l_0, l_1, l_2, l_3, l_4, l_5, l_6, l_7, l_8, l_9, l_10, l_100, l_160, ↓m_1, ↓m_2, ↓m_3, ↓m_4, ↓m_5, ↓m_6, ↓m_7]
  rw [if_neg h5]
  by_cases h6 : w = 6
  · subst h6
    rw [if_pos rfl]
    by_cases q : v < r_s ρ 0
    · have q3 := (hc v (by omega)).2.2.1
      have y3 := (wc v (by omega)).2.2.1
      by_cases q2 : r_q ρ 2 v < r_s ρ 1
      · rw [if_pos (decide_eq_true ⟨q, q2⟩)]
        simp (disch := first | assumption | omega) only [f_X9_isSo_51, f_X9_isSo, gt_83, gr_83_12, gt_87, gl_87, h27, e0, e1, q3, l_of, n_ltT, n_ltF, n_leT, n_leF, n_eqT, n_eqF, n_neM, n_Mne, n_M0, n_Mlt, n_0leM, nI_clamp, x_in_nI, n_1, nI_add, x_at, x_bd_s, x_bv_s, ↓x_lt, decide_true, decide_false, Bool.and_self, Bool.true_and, Bool.and_true, if_true, if_false, ite_true, ite_false, ↓reduceIte, not_true_eq_false, not_false_eq_true, Nat.reduceAdd, Nat.reduceMul, Nat.reduceEqDiff, eq_self, true_and, and_true, false_and, and_false, Option.some.injEq, Prod.mk.injEq, l_0, l_1, l_2, l_3, l_4, l_5, l_6, l_7, l_8, l_9, l_10, l_100, l_160, ↓m_1, ↓m_2, ↓m_3, ↓m_4, ↓m_5, ↓m_6, ↓m_7]
      · rw [if_neg (fun z => q2 (of_decide_eq_true z).2)]
        simp (disch := first | assumption | omega) only [f_X9_isSo_51, f_X9_isSo, gt_83, gr_83_12, gt_87, gl_87, h27, e0, e1, q3, l_of, n_ltT, n_ltF, n_leT, n_leF, n_eqT, n_eqF, n_neM, n_Mne, n_M0, n_Mlt, n_0leM, nI_clamp, x_in_nI, n_1, nI_add, x_at, x_bd_s, x_bv_s, ↓x_lt, decide_true, decide_false, Bool.and_self, Bool.true_and, Bool.and_true, if_true, if_false, ite_true, ite_false, ↓reduceIte, not_true_eq_false, not_false_eq_true, Nat.reduceAdd, Nat.reduceMul, Nat.reduceEqDiff, eq_self, true_and, and_true, false_and, and_false, Option.some.injEq, Prod.mk.injEq, l_0, l_1, l_2, l_3, l_4, l_5, l_6, l_7, l_8, l_9, l_10, l_100, l_160, ↓m_1, ↓m_2, ↓m_3, ↓m_4, ↓m_5, ↓m_6, ↓m_7]
    · rw [if_neg (fun z => q (of_decide_eq_true z).1)]
      simp (disch := first | assumption | omega) only [f_X9_isSo_51, f_X9_isSo, gt_83, gr_83_12, gt_87, gl_87, h27, e0, e1, l_of, n_ltT, n_ltF, n_leT, n_leF, n_eqT, n_eqF, n_neM, n_Mne, n_M0, n_Mlt, n_0leM, nI_clamp, x_in_nI, n_1, nI_add, x_at, x_bd_s, x_bv_s, ↓x_lt, decide_true, decide_false, Bool.and_self, Bool.true_and, Bool.and_true, if_true, if_false, ite_true, ite_false, ↓reduceIte, not_true_eq_false, not_false_eq_true, Nat.reduceAdd, Nat.reduceMul, Nat.reduceEqDiff, eq_self, true_and, and_true, false_and, and_false, Option.some.injEq, Prod.mk.injEq, l_0, l_1, l_2, l_3, l_4, l_5, l_6, l_7, l_8, l_9, l_10, l_100, l_160, ↓m_1, ↓m_2, ↓m_3, ↓m_4, ↓m_5, ↓m_6, ↓m_7]
  rw [if_neg h6]
  have ha := m_asked (M := M) (k := w - 1) (v := v) (by omega) hv
  have z : nI w - nI 1 = nI (w - 1) := pk_sub (by omega)
  by_cases q : tlo (w - 1) ≤ v ∧ v ≤ thi (w - 1)
  · rw [if_neg (by omega)] at ha
    rw [if_pos (decide_eq_true q)]
    simp (disch := first | assumption | omega) only [f_X9_isSo_51, f_X9_isSo, gt_83, h0, h5, h6, h27, z, ha, true_or, or_true, l_of, n_ltT, n_ltF, n_leT, n_leF, n_eqT, n_eqF, n_neM, n_Mne, n_M0, n_Mlt, n_0leM, nI_clamp, x_in_nI, n_1, nI_add, x_at, x_bd_s, x_bv_s, ↓x_lt, decide_true, decide_false, Bool.and_self, Bool.true_and, Bool.and_true, if_true, if_false, ite_true, ite_false, ↓reduceIte, not_true_eq_false, not_false_eq_true, Nat.reduceAdd, Nat.reduceMul, Nat.reduceEqDiff, eq_self, true_and, and_true, false_and, and_false, Option.some.injEq, Prod.mk.injEq, l_0, l_1, l_2, l_3, l_4, l_5, l_6, l_7, l_8, l_9, l_10, l_100, l_160, ↓m_1, ↓m_2, ↓m_3, ↓m_4, ↓m_5, ↓m_6, ↓m_7]
  · rw [if_pos (by omega)] at ha
    rw [if_neg (fun z => q (of_decide_eq_true z))]
    simp (disch := first | assumption | omega) only [f_X9_isSo_51, f_X9_isSo, gt_83, h0, h5, h6, h27, z, ha, true_or, or_true, l_of, n_ltT, n_ltF, n_leT, n_leF, n_eqT, n_eqF, n_neM, n_Mne, n_M0, n_Mlt, n_0leM, nI_clamp, x_in_nI, n_1, nI_add, x_at, x_bd_s, x_bv_s, ↓x_lt, decide_true, decide_false, Bool.and_self, Bool.true_and, Bool.and_true, if_true, if_false, ite_true, ite_false, ↓reduceIte, not_true_eq_false, not_false_eq_true, Nat.reduceAdd, Nat.reduceMul, Nat.reduceEqDiff, eq_self, true_and, and_true, false_and, and_false, Option.some.injEq, Prod.mk.injEq, l_0, l_1, l_2, l_3, l_4, l_5, l_6, l_7, l_8, l_9, l_10, l_100, l_160, ↓m_1, ↓m_2, ↓m_3, ↓m_4, ↓m_5, ↓m_6, ↓m_7]
end
