section
variable {L : Nat} {b1 b2 : Bool} {g d : Int32 → Int32}
abbrev PM : Nat → Nat → Prop := fun a k => 85 ≤ a ∧ a < 91 ∨ a = 83 ∧ k < 8
theorem m_pass1 {Q : Nat} {M : XM} {ρ : XR} {k : Nat} (hG : Geo L b1 b2 M) (hR : MR ρ M) (hV : WF Q ρ) (hQ : Q ≤ 810000) (hk : k < 6) :
    ∃ M', f_X9_breaksOff 83 (nI k) M = some M' ∧ Geo L b1 b2 M' ∧ MR (r_hear ρ k) M' ∧ Fr PM M M' := by
  obtain ⟨⟨e0, e1, e2, e3, e4, e5, e6, e7⟩, hc, ht⟩ := id hR
  obtain ⟨⟨w0, w1, w2, w3, w4, w5, w6, w7⟩, wc, wl, wt⟩ := id hV
  obtain ⟨q1, q2, q3, q4, q5⟩ := hc k hk
  obtain ⟨y1, y2, y3, y4⟩ := wc k hk
  have hl := m_hear hG hk q1 q2 q3 q4 q5 e2 y1 y2 y3 (by omega) w3 w4
  exact ⟨_, hl, hG, ((hR.q3 k _).q2 k _).o k _, ((Fr.rf.wi (by omega)).wi (by omega)).wi (by omega)⟩
theorem m_cnts {M : XM} {ρ : XR} {k : Nat} (hG : Geo L b1 b2 M) (hR : MR ρ M) (hk : k < 6) (hn : r_s ρ 1 ≤ 200) (hx : r_q ρ 2 k < r_s ρ 1) :
    ∃ M', f_X9_counts 83 (nI k) M = some M' ∧ Geo L b1 b2 M' ∧ MR (r_cnt ρ k) M' ∧ Fr PM M M' := by
  obtain ⟨⟨e0, e1, e2, e3, e4, e5, e6, e7⟩, hc, ht⟩ := id hR
  obtain ⟨q1, q2, q3, q4, q5⟩ := hc k hk
  unfold r_cnt
  rw [if_neg (by omega)]
  by_cases h2 : r_q ρ 2 k + 1 = r_s ρ 1
  · rw [if_pos h2]
    refine ⟨x_wi (x_wi M 87 k (nI (r_q ρ 2 k + 1))) 83 5 (r_done ρ + nI 1), ?_, hG, (hR.q2 k (r_q ρ 2 k + 1)).d _, (Fr.rf.wi (by omega)).wi (by omega)⟩
    simp (disch := first | assumption | omega) only [f_X9_counts, gt_83, gr_83_12, gt_87, gl_87, l_of, n_ltT, n_ltF, n_leT, n_leF, n_eqT, n_eqF, n_neM, n_Mne, n_M0, n_Mlt, n_0leM, nI_clamp, x_in_nI, n_1, nI_add, x_at, x_bd_s, x_bv_s, ↓x_lt, decide_true, decide_false, Bool.and_self, Bool.true_and, Bool.and_true, if_true, if_false, ite_true, ite_false, ↓reduceIte, not_true_eq_false, not_false_eq_true, Nat.reduceAdd, Nat.reduceMul, Nat.reduceEqDiff, eq_self, true_and, and_true, false_and, and_false, Option.some.injEq, Prod.mk.injEq, l_0, l_1, l_2, l_3, l_4, l_5, l_6, l_7, l_8, l_9, l_10, l_100, l_160, ↓m_1, ↓m_2, ↓m_3, ↓m_4, ↓m_5, ↓m_6, ↓m_7, ii_wi, ji_wi, ri_wi, ti_wi, li_wi, ii_wj, ji_wj, ri_wj, ti_wj, li_wj, e1, q3, e6]
  · rw [if_neg h2]
    refine ⟨x_wi M 87 k (nI (r_q ρ 2 k + 1)), ?_, hG, hR.q2 k (r_q ρ 2 k + 1), Fr.rf.wi (by omega)⟩
    simp (disch := first | assumption | omega) only [f_X9_counts, gt_83, gr_83_12, gt_87, gl_87, l_of, n_ltT, n_ltF, n_leT, n_leF, n_eqT, n_eqF, n_neM, n_Mne, n_M0, n_Mlt, n_0leM, nI_clamp, x_in_nI, n_1, nI_add, x_at, x_bd_s, x_bv_s, ↓x_lt, decide_true, decide_false, Bool.and_self, Bool.true_and, Bool.and_true, if_true, if_false, ite_true, ite_false, ↓reduceIte, not_true_eq_false, not_false_eq_true, Nat.reduceAdd, Nat.reduceMul, Nat.reduceEqDiff, eq_self, true_and, and_true, false_and, and_false, Option.some.injEq, Prod.mk.injEq, l_0, l_1, l_2, l_3, l_4, l_5, l_6, l_7, l_8, l_9, l_10, l_100, l_160, ↓m_1, ↓m_2, ↓m_3, ↓m_4, ↓m_5, ↓m_6, ↓m_7, ii_wi, ji_wi, ri_wi, ti_wi, li_wi, ii_wj, ji_wj, ri_wj, ti_wj, li_wj, e1, q3, e6]
theorem thr_all (ρ : XR) (m : Nat) (h : ∀ c, c < m → r_s ρ 1 ≤ r_q ρ 2 c) : thr ρ m = m := by
  induction m with
  | zero => rfl
  | succ m ih =>
    show thr ρ m + _ = m + 1
    rw [if_pos (h m (by omega)), ih (fun c hc => h c (by omega))]
theorem m_areT {Q : Nat} {M : XM} {ρ : XR} (hG : Geo L b1 b2 M) (hR : MR ρ M) (hV : WF Q ρ) (m : Nat) : ∀ (n j : Nat), m < n → j + m = r_s ρ 0 → (∀ c, c < j → r_s ρ 1 ≤ r_q ρ 2 c) →
    lp_X9_areThrough_2 n 83 (nI j) M = some (nI (if thr ρ (r_s ρ 0) = r_s ρ 0 then 1 else 0), M) := by
  obtain ⟨⟨e0, e1, e2, e3, e4, e5, e6, e7⟩, hc, ht⟩ := id hR
  obtain ⟨⟨w0, w1, w2, w3, w4, w5, w6, w7⟩, wc, wl, wt⟩ := id hV
  induction m with
  | zero =>
    intro n j hn hj ha
    obtain ⟨n, rfl⟩ : ∃ i, n = i + 1 := ⟨n - 1, by omega⟩
    rw [s_lp_X9_areThrough_2, if_pos (thr_all ρ _ (fun c hc => ha c (by omega))), show j = r_s ρ 0 by omega]
    simp (disch := first | assumption | omega) only [bd_X9_areThrough_2, gt_83, l_of, n_ltT, n_ltF, n_leT, n_leF, n_eqT, n_eqF, n_neM, n_Mne, n_M0, n_Mlt, n_0leM, nI_clamp, x_in_nI, n_1, nI_add, x_at, x_bd_s, x_bv_s, ↓x_lt, decide_true, decide_false, Bool.and_self, Bool.true_and, Bool.and_true, if_true, if_false, ite_true, ite_false, ↓reduceIte, not_true_eq_false, not_false_eq_true, Nat.reduceAdd, Nat.reduceMul, Nat.reduceEqDiff, eq_self, true_and, and_true, false_and, and_false, Option.some.injEq, Prod.mk.injEq, l_0, l_1, l_2, l_3, l_4, l_5, l_6, l_7, l_8, l_9, l_10, l_100, l_160, ↓m_1, ↓m_2, ↓m_3, ↓m_4, ↓m_5, ↓m_6, ↓m_7, e0]
  | succ m ih =>
    intro n j hn hj ha
    obtain ⟨n, rfl⟩ : ∃ i, n = i + 1 := ⟨n - 1, by omega⟩
    obtain ⟨q1, q2, q3, q4, q5⟩ := hc j (by omega)
    have y3 := (wc j (by omega)).2.2.1
    rw [s_lp_X9_areThrough_2]
    by_cases h1 : r_s ρ 1 ≤ r_q ρ 2 j
    · have g := ih n (j + 1) (by omega) (by omega) (fun c hc => by
        by_cases q : c = j
        · rw [q]; exact h1
        · exact ha c (by omega))
      simp (disch := first | assumption | omega) only [bd_X9_areThrough_2, gt_83, gr_83_12, gt_87, gl_87, l_of, n_ltT, n_ltF, n_leT, n_leF, n_eqT, n_eqF, n_neM, n_Mne, n_M0, n_Mlt, n_0leM, nI_clamp, x_in_nI, n_1, nI_add, x_at, x_bd_s, x_bv_s, ↓x_lt, decide_true, decide_false, Bool.and_self, Bool.true_and, Bool.and_true, if_true, if_false, ite_true, ite_false, ↓reduceIte, not_true_eq_false, not_false_eq_true, Nat.reduceAdd, Nat.reduceMul, Nat.reduceEqDiff, eq_self, true_and, and_true, false_and, and_false, Option.some.injEq, Prod.mk.injEq, l_0, l_1, l_2, l_3, l_4, l_5, l_6, l_7, l_8, l_9, l_10, l_100, l_160, ↓m_1, ↓m_2, ↓m_3, ↓m_4, ↓m_5, ↓m_6, ↓m_7, e0, e1, q3]
      exact g
    · have := thr_lt ρ j (r_s ρ 0) (by omega) (by omega)
      rw [if_neg (by omega)]
      simp (disch := first | assumption | omega) only [bd_X9_areThrough_2, gt_83, gr_83_12, gt_87, gl_87, l_of, n_ltT, n_ltF, n_leT, n_leF, n_eqT, n_eqF, n_neM, n_Mne, n_M0, n_Mlt, n_0leM, nI_clamp, x_in_nI, n_1, nI_add, x_at, x_bd_s, x_bv_s, ↓x_lt, decide_true, decide_false, Bool.and_self, Bool.true_and, Bool.and_true, if_true, if_false, ite_true, ite_false, ↓reduceIte, not_true_eq_false, not_false_eq_true, Nat.reduceAdd, Nat.reduceMul, Nat.reduceEqDiff, eq_self, true_and, and_true, false_and, and_false, Option.some.injEq, Prod.mk.injEq, l_0, l_1, l_2, l_3, l_4, l_5, l_6, l_7, l_8, l_9, l_10, l_100, l_160, ↓m_1, ↓m_2, ↓m_3, ↓m_4, ↓m_5, ↓m_6, ↓m_7, e0, e1, q3]
theorem m_tks {Q : Nat} (hD : ∀ (N : XM) (ρ : XR), Geo L b1 b2 N → MR ρ N → f_X9_draw 83 1000 N = some (d (g (r_seed ρ)), x_wi N 83 7 (g (r_seed ρ)))) (hQ : Q ≤ 810000) {κ3 : Nat → Int32 → Int32 → Int32 → XM → Option (Int32 × XM)} {κ7 : Nat → Int32 → Int32 → Int32 → Int32 → XM → Option (Int32 × XM)} {v1 v2 v3 v4 : Int32} (m : Nat) : ∀ (n j i : Nat) (ρ : XR) (M : XM), m < n → Geo L b1 b2 M → MR ρ M → EV Q i ρ → i + m ≤ Q → j + m = r_s ρ 0 →
    ∃ M', lp_X9_evenings_88 κ3 κ7 n 83 v1 v2 v3 v4 (nI j) M = κ7 83 v1 v2 v3 (v4 + nI 1) M' ∧ Geo L b1 b2 M' ∧ MR (r_tks g d m ρ j) M' ∧ Fr PM M M' := by
  induction m with
  | zero =>
    intro n j i ρ M hn hG hR hE hq hj
    obtain ⟨n, rfl⟩ : ∃ i, n = i + 1 := ⟨n - 1, by omega⟩
    have e0 := hR.1.1
    have w0 := hE.1.1.1
    refine ⟨M, ?_, hG, hR, Fr.rf⟩
    rw [s_lp_X9_evenings_88, show j = r_s ρ 0 by omega]
    simp (disch := first | assumption | omega) only [bd_X9_evenings_88, gt_83, l_of, n_ltT, n_ltF, n_leT, n_leF, n_eqT, n_eqF, n_neM, n_Mne, n_M0, n_Mlt, n_0leM, nI_clamp, x_in_nI, n_1, nI_add, x_at, x_bd_s, x_bv_s, ↓x_lt, decide_true, decide_false, Bool.and_self, Bool.true_and, Bool.and_true, if_true, if_false, ite_true, ite_false, ↓reduceIte, not_true_eq_false, not_false_eq_true, Nat.reduceAdd, Nat.reduceMul, Nat.reduceEqDiff, eq_self, true_and, and_true, false_and, and_false, Option.some.injEq, Prod.mk.injEq, l_0, l_1, l_2, l_3, l_4, l_5, l_6, l_7, l_8, l_9, l_10, l_100, l_160, ↓m_1, ↓m_2, ↓m_3, ↓m_4, ↓m_5, ↓m_6, ↓m_7, e0]
  | succ m ih =>
    intro n j i ρ M hn hG hR hE hq hj
    obtain ⟨n, rfl⟩ : ∃ i, n = i + 1 := ⟨n - 1, by omega⟩
    obtain ⟨⟨e0, e1, e2, e3, e4, e5, e6, e7⟩, hc, ht⟩ := id hR
    obtain ⟨⟨w0, w1, w2, w3, w4, w5, w6, w7⟩, wc, wl, wt⟩ := id hE.1
    obtain ⟨q1, q2, q3, q4, q5⟩ := hc j (by omega)
    obtain ⟨y1, y2, y3, y4⟩ := wc j (by omega)
    have y5 := wl j (by omega)
    have hE1 := hE.tk (g := g) (d := d) j (by omega) (by omega)
    have es := tk_s (g := g) (d := d) ρ j
    rw [s_lp_X9_evenings_88]
    unfold r_tks
    by_cases h1 : r_s ρ 1 ≤ r_q ρ 2 j
    · have er : r_tk g d ρ j = ρ := by unfold r_tk; rw [if_pos h1]
      rw [er] at hE1 ⊢
      obtain ⟨M2, g1, g2, g3, g4⟩ := ih n (j + 1) (i + 1) ρ M (by omega) hG hR hE1 (by omega) (by omega)
      refine ⟨M2, ?_, g2, g3, g4⟩
      simp (disch := first | assumption | omega) only [bd_X9_evenings_88, f_X9_evenings_143, gt_83, gr_83_12, gt_87, gl_87, l_of, n_ltT, n_ltF, n_leT, n_leF, n_eqT, n_eqF, n_neM, n_Mne, n_M0, n_Mlt, n_0leM, nI_clamp, x_in_nI, n_1, nI_add, x_at, x_bd_s, x_bv_s, ↓x_lt, decide_true, decide_false, Bool.and_self, Bool.true_and, Bool.and_true, if_true, if_false, ite_true, ite_false, ↓reduceIte, not_true_eq_false, not_false_eq_true, Nat.reduceAdd, Nat.reduceMul, Nat.reduceEqDiff, eq_self, true_and, and_true, false_and, and_false, Option.some.injEq, Prod.mk.injEq, l_0, l_1, l_2, l_3, l_4, l_5, l_6, l_7, l_8, l_9, l_10, l_100, l_160, ↓m_1, ↓m_2, ↓m_3, ↓m_4, ↓m_5, ↓m_6, ↓m_7, e0, e1, q3]
      exact g1
    · have hd := hD M ρ hG hR
      have er0 : r_tk g d ρ j = if nI (r_s ρ 3) ≤ d (g (r_seed ρ)) then r_cnt (w_seed ρ (g (r_seed ρ))) j else r_hear (w_seed ρ (g (r_seed ρ))) j := by unfold r_tk; rw [if_neg h1]
      generalize g (r_seed ρ) = s at hd er0
      have hRe := hR.e s
      have a1 : Fr PM M (x_wi M 83 7 s) := Fr.rf.wi (by omega)
      by_cases h2 : nI (r_s ρ 3) ≤ d s
      · have er : r_tk g d ρ j = r_cnt (w_seed ρ s) j := by rw [er0, if_pos h2]
        rw [er] at hE1 es ⊢
        obtain ⟨M1, k1, k2, k3, k4⟩ := m_cnts (M := x_wi M 83 7 s) (k := j) hG hRe (by omega) w2 (show r_q ρ 2 j < r_s ρ 1 by omega)
        obtain ⟨M2, g1, g2, g3, g4⟩ := ih n (j + 1) (i + 1) _ M1 (by omega) k2 k3 hE1 (by omega) (by rw [es]; omega)
        refine ⟨M2, ?_, g2, g3, (a1.tr k4).tr g4⟩
        simp (disch := first | assumption | omega) only [bd_X9_evenings_88, f_X9_evenings_143, f_X9_evenings_c118, f_X9_evenings_c131, f_X9_evenings_c140, gt_83, gr_83_12, gt_87, gl_87, l_of, n_ltT, n_ltF, n_leT, n_leF, n_eqT, n_eqF, n_neM, n_Mne, n_M0, n_Mlt, n_0leM, nI_clamp, x_in_nI, n_1, nI_add, x_at, x_bd_s, x_bv_s, ↓x_lt, decide_true, decide_false, Bool.and_self, Bool.true_and, Bool.and_true, if_true, if_false, ite_true, ite_false, ↓reduceIte, not_true_eq_false, not_false_eq_true, Nat.reduceAdd, Nat.reduceMul, Nat.reduceEqDiff, eq_self, true_and, and_true, false_and, and_false, Option.some.injEq, Prod.mk.injEq, l_0, l_1, l_2, l_3, l_4, l_5, l_6, l_7, l_8, l_9, l_10, l_100, l_160, ↓m_1, ↓m_2, ↓m_3, ↓m_4, ↓m_5, ↓m_6, ↓m_7, ii_wi, ji_wi, ri_wi, ti_wi, li_wi, ii_wj, ji_wj, ri_wj, ti_wj, li_wj, e0, e1, e3, q3, hd, h2, k1]
        exact g1
      · have er : r_tk g d ρ j = r_hear (w_seed ρ s) j := by rw [er0, if_neg h2]
        rw [er] at hE1 es ⊢
        obtain ⟨M1, k1, k2, k3, k4⟩ := m_pass1 (Q := Q) (M := x_wi M 83 7 s) (k := j) hG hRe (hE.1.e _) hQ (by omega)
        obtain ⟨M2, g1, g2, g3, g4⟩ := ih n (j + 1) (i + 1) _ M1 (by omega) k2 k3 hE1 (by omega) (by rw [es]; omega)
        refine ⟨M2, ?_, g2, g3, (a1.tr k4).tr g4⟩
        simp (disch := first | assumption | omega) only [bd_X9_evenings_88, f_X9_evenings_143, f_X9_evenings_c118, f_X9_evenings_c131, f_X9_evenings_c140, gt_83, gr_83_12, gt_87, gl_87, l_of, n_ltT, n_ltF, n_leT, n_leF, n_eqT, n_eqF, n_neM, n_Mne, n_M0, n_Mlt, n_0leM, nI_clamp, x_in_nI, n_1, nI_add, x_at, x_bd_s, x_bv_s, ↓x_lt, decide_true, decide_false, Bool.and_self, Bool.true_and, Bool.and_true, if_true, if_false, ite_true, ite_false, ↓reduceIte, not_true_eq_false, not_false_eq_true, Nat.reduceAdd, Nat.reduceMul, Nat.reduceEqDiff, eq_self, true_and, and_true, false_and, and_false, Option.some.injEq, Prod.mk.injEq, l_0, l_1, l_2, l_3, l_4, l_5, l_6, l_7, l_8, l_9, l_10, l_100, l_160, ↓m_1, ↓m_2, ↓m_3, ↓m_4, ↓m_5, ↓m_6, ↓m_7, ii_wi, ji_wi, ri_wi, ti_wi, li_wi, ii_wj, ji_wj, ri_wj, ti_wj, li_wj, e0, e1, e3, q3, hd, h2, k1]
        exact g1
theorem m_sc {Q : Nat} (hD : ∀ (N : XM) (ρ : XR), Geo L b1 b2 N → MR ρ N → f_X9_draw 83 1000 N = some (d (g (r_seed ρ)), x_wi N 83 7 (g (r_seed ρ)))) (hQ : Q ≤ 810000) {κ3 : Nat → Int32 → Int32 → Int32 → XM → Option (Int32 × XM)} {v1 v2 v3 : Int32} (m : Nat) : ∀ (n t i : Nat) (ρ : XR) (M : XM), m < n → Geo L b1 b2 M → MR ρ M → EV Q i ρ → i + 6 * m ≤ Q → t + m = 60 →
    ∃ M', lp_X9_evenings_71 κ3 n 83 v1 v2 v3 (nI t) M = κ3 83 v1 v2 (v3 + nI 1) M' ∧ Geo L b1 b2 M' ∧ MR (r_sc g d m ρ) M' ∧ Fr PM M M' := by
  induction m with
  | zero =>
    intro n t i ρ M hn hG hR hE hq hj
    obtain ⟨n, rfl⟩ : ∃ i, n = i + 1 := ⟨n - 1, by omega⟩
    refine ⟨M, ?_, hG, hR, Fr.rf⟩
    rw [s_lp_X9_evenings_71, show t = 60 by omega]
    simp (disch := first | assumption | omega) only [bd_X9_evenings_71, f_X9_evenings_155, gt_83, l_60, l_of, n_ltT, n_ltF, n_leT, n_leF, n_eqT, n_eqF, n_neM, n_Mne, n_M0, n_Mlt, n_0leM, nI_clamp, x_in_nI, n_1, nI_add, x_at, x_bd_s, x_bv_s, ↓x_lt, decide_true, decide_false, Bool.and_self, Bool.true_and, Bool.and_true, if_true, if_false, ite_true, ite_false, ↓reduceIte, not_true_eq_false, not_false_eq_true, Nat.reduceAdd, Nat.reduceMul, Nat.reduceEqDiff, eq_self, true_and, and_true, false_and, and_false, Option.some.injEq, Prod.mk.injEq, l_0, l_1, l_2, l_3, l_4, l_5, l_6, l_7, l_8, l_9, l_10, l_100, l_160, ↓m_1, ↓m_2, ↓m_3, ↓m_4, ↓m_5, ↓m_6, ↓m_7]
  | succ m ih =>
    intro n t i ρ M hn hG hR hE hq hj
    obtain ⟨n, rfl⟩ : ∃ i, n = i + 1 := ⟨n - 1, by omega⟩
    obtain ⟨⟨w0, w1, w2, w3, w4, w5, w6, w7⟩, wc, wl, wt⟩ := id hE.1
    have e0 := hR.1.1
    have ht : f_X9_areThrough 83 M = some (nI (if thr ρ (r_s ρ 0) = r_s ρ 0 then 1 else 0), M) := m_areT hG hR hE.1 (r_s ρ 0) x_fuel 0 (fu (by omega)) (by omega) (fun c hc => absurd hc (by omega))
    rw [s_lp_X9_evenings_71]
    unfold r_sc
    by_cases h1 : thr ρ (r_s ρ 0) = r_s ρ 0
    · rw [if_pos h1]
      rw [if_pos h1] at ht
      refine ⟨M, ?_, hG, hR, Fr.rf⟩
      simp (disch := first | assumption | omega) only [bd_X9_evenings_71, f_X9_evenings_c79, f_X9_evenings_155, gt_83, l_60, l_of, n_ltT, n_ltF, n_leT, n_leF, n_eqT, n_eqF, n_neM, n_Mne, n_M0, n_Mlt, n_0leM, nI_clamp, x_in_nI, n_1, nI_add, x_at, x_bd_s, x_bv_s, ↓x_lt, decide_true, decide_false, Bool.and_self, Bool.true_and, Bool.and_true, if_true, if_false, ite_true, ite_false, ↓reduceIte, not_true_eq_false, not_false_eq_true, Nat.reduceAdd, Nat.reduceMul, Nat.reduceEqDiff, eq_self, true_and, and_true, false_and, and_false, Option.some.injEq, Prod.mk.injEq, l_0, l_1, l_2, l_3, l_4, l_5, l_6, l_7, l_8, l_9, l_10, l_100, l_160, ↓m_1, ↓m_2, ↓m_3, ↓m_4, ↓m_5, ↓m_6, ↓m_7, e0, ht]
    · rw [if_neg h1]
      rw [if_neg h1] at ht
      have hE2 := (EV.tks (g := g) (d := d) (Q := Q) (r_s ρ 0) i 0 ρ hE (by omega) (by omega)).up (show i + r_s ρ 0 ≤ i + 6 by omega)
      obtain ⟨M1, k1, k2, k3, k4⟩ := m_tks (b1 := b1) (b2 := b2) (L := L) hD hQ (κ3 := κ3) (κ7 := lp_X9_evenings_71 κ3 n) (v1 := v1) (v2 := v2) (v3 := v3) (v4 := nI t) (r_s ρ 0) x_fuel 0 i ρ M (fu (by omega)) hG hR hE (by omega) (by omega)
      obtain ⟨M2, g1, g2, g3, g4⟩ := ih n (t + 1) (i + 6) _ M1 (by omega) k2 k3 hE2 (by omega) (by omega)
      refine ⟨M2, ?_, g2, g3, k4.tr g4⟩
      rw [n_1] at k1
      simp (disch := first | assumption | omega) only [bd_X9_evenings_71, f_X9_evenings_c79, gt_83, l_60, l_of, n_ltT, n_ltF, n_leT, n_leF, n_eqT, n_eqF, n_neM, n_Mne, n_M0, n_Mlt, n_0leM, nI_clamp, x_in_nI, n_1, nI_add, x_at, x_bd_s, x_bv_s, ↓x_lt, decide_true, decide_false, Bool.and_self, Bool.true_and, Bool.and_true, if_true, if_false, ite_true, ite_false, ↓reduceIte, not_true_eq_false, not_false_eq_true, Nat.reduceAdd, Nat.reduceMul, Nat.reduceEqDiff, eq_self, true_and, and_true, false_and, and_false, Option.some.injEq, Prod.mk.injEq, l_0, l_1, l_2, l_3, l_4, l_5, l_6, l_7, l_8, l_9, l_10, l_100, l_160, ↓m_1, ↓m_2, ↓m_3, ↓m_4, ↓m_5, ↓m_6, ↓m_7, e0, ht, k1]
      exact g1
theorem m_anew {M : XM} {ρ : XR} {j : Nat} (hG : Geo L b1 b2 M) (hR : MR ρ M) (hj : j < 6) : ∃ r M', f_X9_anew 83 (nI j) M = some (r, M') ∧ Geo L b1 b2 M' ∧ MR (r_an ρ j) M' ∧ Fr PM M M' := by
  refine ⟨x_i M 87 j, x_wi (x_wi (x_wi M 87 j (nI 0)) 88 j (nI 0)) 89 j (nI 0), ?_, hG, ((hR.q2 j 0).o j _).q3 j 0, ((Fr.rf.wi (by omega)).wi (by omega)).wi (by omega)⟩
  simp (disch := first | assumption | omega) only [f_X9_anew, gt_83, gr_83_12, gr_83_13, gr_83_14, gt_87, gl_87, gt_88, gl_88, gt_89, gl_89, l_of, n_ltT, n_ltF, n_leT, n_leF, n_eqT, n_eqF, n_neM, n_Mne, n_M0, n_Mlt, n_0leM, nI_clamp, x_in_nI, n_1, nI_add, x_at, x_bd_s, x_bv_s, ↓x_lt, decide_true, decide_false, Bool.and_self, Bool.true_and, Bool.and_true, if_true, if_false, ite_true, ite_false, ↓reduceIte, not_true_eq_false, not_false_eq_true, Nat.reduceAdd, Nat.reduceMul, Nat.reduceEqDiff, eq_self, true_and, and_true, false_and, and_false, Option.some.injEq, Prod.mk.injEq, l_0, l_1, l_2, l_3, l_4, l_5, l_6, l_7, l_8, l_9, l_10, l_100, l_160, ↓m_1, ↓m_2, ↓m_3, ↓m_4, ↓m_5, ↓m_6, ↓m_7, ii_wi, ji_wi, ri_wi, ti_wi, li_wi, ii_wj, ji_wj, ri_wj, ti_wj, li_wj]
theorem m_ev {Q : Nat} (hD : ∀ (N : XM) (ρ : XR), Geo L b1 b2 N → MR ρ N → f_X9_draw 83 1000 N = some (d (g (r_seed ρ)), x_wi N 83 7 (g (r_seed ρ)))) (hQ : Q ≤ 810000) (hq4 : 400 ≤ Q) {κ3 : Nat → Int32 → Int32 → Int32 → XM → Option (Int32 × XM)} {v1 v2 v3 : Int32} (m : Nat) : ∀ (n j : Nat) (ρ : XR) (M : XM), m < n → Geo L b1 b2 M → MR ρ M → WF Q ρ → (∀ c, c < j → r_q ρ 3 c = 0) → j + m = r_s ρ 0 →
    ∃ M', lp_X9_evenings_46 κ3 n 83 v1 v2 v3 (nI j) M = κ3 83 v1 v2 (v3 + nI 1) M' ∧ Geo L b1 b2 M' ∧ MR (r_sc g d 60 (r_ans m ρ j)) M' ∧ Fr PM M M' := by
  induction m with
  | zero =>
    intro n j ρ M hn hG hR hV h0 hj
    obtain ⟨n, rfl⟩ : ∃ i, n = i + 1 := ⟨n - 1, by omega⟩
    have e0 := hR.1.1
    have w0 := hV.1.1
    obtain ⟨M1, k1, k2, k3, k4⟩ := m_sc (b1 := b1) (b2 := b2) (L := L) hD hQ (κ3 := κ3) (v1 := v1) (v2 := v2) (v3 := v3) 60 x_fuel 0 0 ρ M (fu (by omega)) hG hR ⟨hV, fun c hc => by rw [h0 c (by omega)]; omega⟩ (by omega) (by omega)
    refine ⟨M1, ?_, k2, k3, k4⟩
    rw [s_lp_X9_evenings_46, show j = r_s ρ 0 by omega]
    simp (disch := first | assumption | omega) only [bd_X9_evenings_46, gt_83, l_of, n_ltT, n_ltF, n_leT, n_leF, n_eqT, n_eqF, n_neM, n_Mne, n_M0, n_Mlt, n_0leM, nI_clamp, x_in_nI, n_1, nI_add, x_at, x_bd_s, x_bv_s, ↓x_lt, decide_true, decide_false, Bool.and_self, Bool.true_and, Bool.and_true, if_true, if_false, ite_true, ite_false, ↓reduceIte, not_true_eq_false, not_false_eq_true, Nat.reduceAdd, Nat.reduceMul, Nat.reduceEqDiff, eq_self, true_and, and_true, false_and, and_false, Option.some.injEq, Prod.mk.injEq, l_0, l_1, l_2, l_3, l_4, l_5, l_6, l_7, l_8, l_9, l_10, l_100, l_160, ↓m_1, ↓m_2, ↓m_3, ↓m_4, ↓m_5, ↓m_6, ↓m_7, e0]
    exact k1
  | succ m ih =>
    intro n j ρ M hn hG hR hV h0 hj
    obtain ⟨n, rfl⟩ : ∃ i, n = i + 1 := ⟨n - 1, by omega⟩
    have e0 := hR.1.1
    have w0 := hV.1.1
    obtain ⟨r, M1, k1, k2, k3, k4⟩ := m_anew hG hR (j := j) (by omega)
    obtain ⟨M2, g1, g2, g3, g4⟩ := ih n (j + 1) (r_an ρ j) M1 (by omega) k2 k3 (hV.an j) (fun c hc => by
      unfold r_an
      rw [rq_wq]
      split
      · rfl
      · rw [rq_wo, rq_wq, if_neg (by omega)]; exact h0 c (by omega)) (by rw [an_s]; omega)
    refine ⟨M2, ?_, g2, g3, k4.tr g4⟩
    rw [s_lp_X9_evenings_46]
    simp (disch := first | assumption | omega) only [bd_X9_evenings_46, f_X9_evenings_c58, gt_83, l_of, n_ltT, n_ltF, n_leT, n_leF, n_eqT, n_eqF, n_neM, n_Mne, n_M0, n_Mlt, n_0leM, nI_clamp, x_in_nI, n_1, nI_add, x_at, x_bd_s, x_bv_s, ↓x_lt, decide_true, decide_false, Bool.and_self, Bool.true_and, Bool.and_true, if_true, if_false, ite_true, ite_false, ↓reduceIte, not_true_eq_false, not_false_eq_true, Nat.reduceAdd, Nat.reduceMul, Nat.reduceEqDiff, eq_self, true_and, and_true, false_and, and_false, Option.some.injEq, Prod.mk.injEq, l_0, l_1, l_2, l_3, l_4, l_5, l_6, l_7, l_8, l_9, l_10, l_100, l_160, ↓m_1, ↓m_2, ↓m_3, ↓m_4, ↓m_5, ↓m_6, ↓m_7, ii_wi, ji_wi, ri_wi, ti_wi, li_wi, ii_wj, ji_wj, ri_wj, ti_wj, li_wj, e0, k1]
    exact g1
theorem m_evs {Q : Nat} (hD : ∀ (N : XM) (ρ : XR), Geo L b1 b2 N → MR ρ N → f_X9_draw 83 1000 N = some (d (g (r_seed ρ)), x_wi N 83 7 (g (r_seed ρ)))) (hQ : Q ≤ 810000) (hq4 : 400 ≤ Q) {v : Int32} (m : Nat) : ∀ (n j : Nat) (ρ : XR) (M : XM), m < n → Geo L b1 b2 M → MR ρ M → WF Q ρ → j + m ≤ 5 →
    ∃ M', lp_X9_evenings_38 n 83 (nI (j + m)) v (nI j) M = some (r_done (r_evs g d m ρ) - v, M') ∧ Geo L b1 b2 M' ∧ MR (r_evs g d m ρ) M' ∧ Fr PM M M' := by
  induction m with
  | zero =>
    intro n j ρ M hn hG hR hV hj
    obtain ⟨n, rfl⟩ : ∃ i, n = i + 1 := ⟨n - 1, by omega⟩
    have e6 := hR.1.2.2.2.2.2.2.1
    refine ⟨M, ?_, hG, hR, Fr.rf⟩
    rw [s_lp_X9_evenings_38]
    simp (disch := first | assumption | omega) only [bd_X9_evenings_38, gt_83, l_of, n_ltT, n_ltF, n_leT, n_leF, n_eqT, n_eqF, n_neM, n_Mne, n_M0, n_Mlt, n_0leM, nI_clamp, x_in_nI, n_1, nI_add, x_at, x_bd_s, x_bv_s, ↓x_lt, decide_true, decide_false, Bool.and_self, Bool.true_and, Bool.and_true, if_true, if_false, ite_true, ite_false, ↓reduceIte, not_true_eq_false, not_false_eq_true, Nat.reduceAdd, Nat.reduceMul, Nat.reduceEqDiff, eq_self, true_and, and_true, false_and, and_false, Option.some.injEq, Prod.mk.injEq, l_0, l_1, l_2, l_3, l_4, l_5, l_6, l_7, l_8, l_9, l_10, l_100, l_160, ↓m_1, ↓m_2, ↓m_3, ↓m_4, ↓m_5, ↓m_6, ↓m_7, e6, Nat.add_zero]
    rfl
  | succ m ih =>
    intro n j ρ M hn hG hR hV hj
    obtain ⟨n, rfl⟩ : ∃ i, n = i + 1 := ⟨n - 1, by omega⟩
    have w0 := hV.1.1
    obtain ⟨M1, k1, k2, k3, k4⟩ := m_ev (b1 := b1) (b2 := b2) (L := L) hD hQ hq4 (κ3 := lp_X9_evenings_38 n) (v1 := nI (j + (m + 1))) (v2 := v) (v3 := nI j) (r_s ρ 0) x_fuel 0 ρ M (fu (by omega)) hG hR hV (fun c hc => absurd hc (by omega)) (by omega)
    obtain ⟨M2, g1, g2, g3, g4⟩ := ih n (j + 1) (r_ev g d ρ) M1 (by omega) k2 k3 (hV.ev hq4) (by omega)
    refine ⟨M2, ?_, g2, g3, k4.tr g4⟩
    rw [show j + 1 + m = j + (m + 1) by omega] at g1
    rw [n_1] at k1
    rw [s_lp_X9_evenings_38]
    simp (disch := first | assumption | omega) only [bd_X9_evenings_38, gt_83, l_of, n_ltT, n_ltF, n_leT, n_leF, n_eqT, n_eqF, n_neM, n_Mne, n_M0, n_Mlt, n_0leM, nI_clamp, x_in_nI, n_1, nI_add, x_at, x_bd_s, x_bv_s, ↓x_lt, decide_true, decide_false, Bool.and_self, Bool.true_and, Bool.and_true, if_true, if_false, ite_true, ite_false, ↓reduceIte, not_true_eq_false, not_false_eq_true, Nat.reduceAdd, Nat.reduceMul, Nat.reduceEqDiff, eq_self, true_and, and_true, false_and, and_false, Option.some.injEq, Prod.mk.injEq, l_0, l_1, l_2, l_3, l_4, l_5, l_6, l_7, l_8, l_9, l_10, l_100, l_160, ↓m_1, ↓m_2, ↓m_3, ↓m_4, ↓m_5, ↓m_6, ↓m_7, k1]
    exact g1
end
def sp_evenings (σ : XS) (v : Int32) : Int32 × XS :=
  if r_s (s_now σ) 0 = 0 then (nM 5, u_rf σ 5) else if v < nI 1 ∨ 5 < v.toNatClampNeg then (nM 6, u_rf σ 6) else (r_done (r_evs sd dw v.toNatClampNeg (s_now σ)) - r_done (s_now σ), u_now σ (r_evs sd dw v.toNatClampNeg (s_now σ)))
theorem oc_evenings {B : Nat} {σ : XS} (hW : WFS B σ) (hB : B ≤ 800000) (v : Int32) : OpC (f_X8_evenings 20 v) σ (sp_evenings σ v).1 (sp_evenings σ v).2 := by
  intro L b1 b2 M hG hI
  obtain ⟨⟨⟨e0, e1, e2, e3, e4, e5, e6, e7⟩, hc, ht⟩, hi, hsh, hrf, hft, hrn, htr⟩ := id hI
  have hV : WF (B + 400) (s_now σ) := hW.1.mono (by omega)
  have w0 := hV.1.1
  show EndC L (f_X8_evenings 20 v) M (sp_evenings σ v)
  by_cases h0 : r_s (s_now σ) 0 = 0
  · rw [show sp_evenings σ v = (nM 5, u_rf σ 5) by unfold sp_evenings; rw [if_pos h0]]
    exact c_no_end hG hI (by simp (disch := first | assumption | omega) only [f_X8_evenings_27, f_X8_evenings_c53, bd_X8_evenings_44, f_X8_evenings, gt_20, gr_20_0, gt_21, gr_20_6, gt_51, gl_51, c_refM, e0, h0, l_of, n_ltT, n_ltF, n_leT, n_leF, n_eqT, n_eqF, n_neM, n_Mne, n_M0, n_Mlt, n_0leM, nI_clamp, x_in_nI, n_1, nI_add, x_at, x_bd_s, x_bv_s, ↓x_lt, decide_true, decide_false, Bool.and_self, Bool.true_and, Bool.and_true, if_true, if_false, ite_true, ite_false, ↓reduceIte, not_true_eq_false, not_false_eq_true, Nat.reduceAdd, Nat.reduceMul, Nat.reduceEqDiff, eq_self, true_and, and_true, false_and, and_false, Option.some.injEq, Prod.mk.injEq, l_0, l_1, l_2, l_3, l_4, l_5, l_6, l_7, l_8, l_9, l_10, l_100, l_160, ↓m_1, ↓m_2, ↓m_3, ↓m_4, ↓m_5, ↓m_6, ↓m_7, ii_wi, ji_wi, ri_wi, ti_wi, li_wi, ii_wj, ji_wj, ri_wj, ti_wj, li_wj])
  rcases i_cs v with h1 | ⟨m, mb, rfl⟩
  · have h1' : v < nI 1 := by rw [n_lt1 h1 (by omega)]; trivial
    rw [show sp_evenings σ v = (nM 6, u_rf σ 6) by unfold sp_evenings; rw [if_neg h0, if_pos (Or.inl h1')]]
    exact c_no_end hG hI (by simp (disch := first | assumption | omega) only [f_X8_evenings_27, f_X8_evenings_c53, bd_X8_evenings_44, f_X8_evenings, gt_20, gr_20_0, gt_21, gr_20_6, gt_51, gl_51, c_refM, e0, h0, h1', l_of, n_ltT, n_ltF, n_leT, n_leF, n_eqT, n_eqF, n_neM, n_Mne, n_M0, n_Mlt, n_0leM, nI_clamp, x_in_nI, n_1, nI_add, x_at, x_bd_s, x_bv_s, ↓x_lt, decide_true, decide_false, Bool.and_self, Bool.true_and, Bool.and_true, if_true, if_false, ite_true, ite_false, ↓reduceIte, not_true_eq_false, not_false_eq_true, Nat.reduceAdd, Nat.reduceMul, Nat.reduceEqDiff, eq_self, true_and, and_true, false_and, and_false, Option.some.injEq, Prod.mk.injEq, l_0, l_1, l_2, l_3, l_4, l_5, l_6, l_7, l_8, l_9, l_10, l_100, l_160, ↓m_1, ↓m_2, ↓m_3, ↓m_4, ↓m_5, ↓m_6, ↓m_7, ii_wi, ji_wi, ri_wi, ti_wi, li_wi, ii_wj, ji_wj, ri_wj, ti_wj, li_wj])
  by_cases h2 : m = 0
  · subst h2
    rw [show sp_evenings σ (nI 0) = (nM 6, u_rf σ 6) by unfold sp_evenings; rw [if_neg h0, if_pos (Or.inl (by decide))]]
    exact c_no_end hG hI (by simp (disch := first | assumption | omega) only [f_X8_evenings_27, f_X8_evenings_c53, bd_X8_evenings_44, f_X8_evenings, gt_20, gr_20_0, gt_21, gr_20_6, gt_51, gl_51, c_refM, e0, h0, l_of, n_ltT, n_ltF, n_leT, n_leF, n_eqT, n_eqF, n_neM, n_Mne, n_M0, n_Mlt, n_0leM, nI_clamp, x_in_nI, n_1, nI_add, x_at, x_bd_s, x_bv_s, ↓x_lt, decide_true, decide_false, Bool.and_self, Bool.true_and, Bool.and_true, if_true, if_false, ite_true, ite_false, ↓reduceIte, not_true_eq_false, not_false_eq_true, Nat.reduceAdd, Nat.reduceMul, Nat.reduceEqDiff, eq_self, true_and, and_true, false_and, and_false, Option.some.injEq, Prod.mk.injEq, l_0, l_1, l_2, l_3, l_4, l_5, l_6, l_7, l_8, l_9, l_10, l_100, l_160, ↓m_1, ↓m_2, ↓m_3, ↓m_4, ↓m_5, ↓m_6, ↓m_7, ii_wi, ji_wi, ri_wi, ti_wi, li_wi, ii_wj, ji_wj, ri_wj, ti_wj, li_wj])
  by_cases h3 : 5 < m
  · rw [show sp_evenings σ (nI m) = (nM 6, u_rf σ 6) by unfold sp_evenings; rw [if_neg h0, if_pos (Or.inr (by simp (disch := first | assumption | omega) only [l_of, n_ltT, n_ltF, n_leT, n_leF, n_eqT, n_eqF, n_neM, n_Mne, n_M0, n_Mlt, n_0leM, nI_clamp, x_in_nI, n_1, nI_add, x_at, x_bd_s, x_bv_s, ↓x_lt, decide_true, decide_false, Bool.and_self, Bool.true_and, Bool.and_true, if_true, if_false, ite_true, ite_false, ↓reduceIte, not_true_eq_false, not_false_eq_true, Nat.reduceAdd, Nat.reduceMul, Nat.reduceEqDiff, eq_self, true_and, and_true, false_and, and_false, Option.some.injEq, Prod.mk.injEq, l_0, l_1, l_2, l_3, l_4, l_5, l_6, l_7, l_8, l_9, l_10, l_100, l_160, ↓m_1, ↓m_2, ↓m_3, ↓m_4, ↓m_5, ↓m_6, ↓m_7]; exact h3))]]
    exact c_no_end hG hI (by simp (disch := first | assumption | omega) only [f_X8_evenings_27, f_X8_evenings_c53, bd_X8_evenings_44, f_X8_evenings, gt_20, gr_20_0, gt_21, gr_20_6, gt_51, gl_51, c_refM, e0, h0, h3, l_of, n_ltT, n_ltF, n_leT, n_leF, n_eqT, n_eqF, n_neM, n_Mne, n_M0, n_Mlt, n_0leM, nI_clamp, x_in_nI, n_1, nI_add, x_at, x_bd_s, x_bv_s, ↓x_lt, decide_true, decide_false, Bool.and_self, Bool.true_and, Bool.and_true, if_true, if_false, ite_true, ite_false, ↓reduceIte, not_true_eq_false, not_false_eq_true, Nat.reduceAdd, Nat.reduceMul, Nat.reduceEqDiff, eq_self, true_and, and_true, false_and, and_false, Option.some.injEq, Prod.mk.injEq, l_0, l_1, l_2, l_3, l_4, l_5, l_6, l_7, l_8, l_9, l_10, l_100, l_160, ↓m_1, ↓m_2, ↓m_3, ↓m_4, ↓m_5, ↓m_6, ↓m_7, ii_wi, ji_wi, ri_wi, ti_wi, li_wi, ii_wj, ji_wj, ri_wj, ti_wj, li_wj])
  obtain ⟨M2, g1, g2, g3, g4, g5⟩ := c_evs (Q := B + 400) (v := r_done (s_now σ)) (fun N ρ h1 h2 => c_draw h1 h2) (by omega) (by omega) m x_fuel 0 (s_now σ) M (fu (by omega)) hG ⟨⟨e0, e1, e2, e3, e4, e5, e6, e7⟩, hc, ht⟩ hV (by omega)
  rw [Nat.zero_add] at g1
  rw [show sp_evenings σ (nI m) = (r_done (r_evs sd dw m (s_now σ)) - r_done (s_now σ), u_now σ (r_evs sd dw m (s_now σ))) by simp (disch := first | assumption | omega) only [sp_evenings, l_of, n_ltT, n_ltF, n_leT, n_leF, n_eqT, n_eqF, n_neM, n_Mne, n_M0, n_Mlt, n_0leM, nI_clamp, x_in_nI, n_1, nI_add, x_at, x_bd_s, x_bv_s, ↓x_lt, decide_true, decide_false, Bool.and_self, Bool.true_and, Bool.and_true, if_true, if_false, ite_true, ite_false, ↓reduceIte, not_true_eq_false, not_false_eq_true, Nat.reduceAdd, Nat.reduceMul, Nat.reduceEqDiff, eq_self, true_and, and_true, false_and, and_false, Option.some.injEq, Prod.mk.injEq, l_0, l_1, l_2, l_3, l_4, l_5, l_6, l_7, l_8, l_9, l_10, l_100, l_160, ↓m_1, ↓m_2, ↓m_3, ↓m_4, ↓m_5, ↓m_6, ↓m_7, h0, h3, or_self]]
  refine ⟨M2, b1, b2, ?_, g2, hI.now g3 ⟨g4.i _ (by omega) (by omega), g4.i _ (by omega) (by omega)⟩ (g5.mono (by omega) (by omega)) (g5.mono (by omega) (by omega)) (g5.mono (by omega) (by omega)), g4.mono (by omega) (by omega), g5.mono (by omega) (by omega)⟩
  simp (disch := first | assumption | omega) only [f_X8_evenings_27, f_X8_evenings_c53, bd_X8_evenings_44, f_X8_evenings, gt_20, gr_20_0, gt_21, e0, e6, h0, l_of, n_ltT, n_ltF, n_leT, n_leF, n_eqT, n_eqF, n_neM, n_Mne, n_M0, n_Mlt, n_0leM, nI_clamp, x_in_nI, n_1, nI_add, x_at, x_bd_s, x_bv_s, ↓x_lt, decide_true, decide_false, Bool.and_self, Bool.true_and, Bool.and_true, if_true, if_false, ite_true, ite_false, ↓reduceIte, not_true_eq_false, not_false_eq_true, Nat.reduceAdd, Nat.reduceMul, Nat.reduceEqDiff, eq_self, true_and, and_true, false_and, and_false, Option.some.injEq, Prod.mk.injEq, l_0, l_1, l_2, l_3, l_4, l_5, l_6, l_7, l_8, l_9, l_10, l_100, l_160, ↓m_1, ↓m_2, ↓m_3, ↓m_4, ↓m_5, ↓m_6, ↓m_7, ii_wi, ji_wi, ri_wi, ti_wi, li_wi, ii_wj, ji_wj, ri_wj, ti_wj, li_wj]
  exact g1
theorem om_evenings {B : Nat} {σ : XS} (hW : WFS B σ) (hB : B ≤ 800000) (v : Int32) : OpM (f_X9_evenings 83 v) σ (sp_evenings σ v).1 (sp_evenings σ v).2 := by
  intro L b1 b2 M hG hI hMW
  obtain ⟨⟨⟨e0, e1, e2, e3, e4, e5, e6, e7⟩, hc, ht⟩, hi, hsh, hrf, hft, hrn, htr⟩ := id hI
  have hV : WF (B + 400) (s_now σ) := hW.1.mono (by omega)
  have w0 := hV.1.1
  show EndM L b1 b2 (f_X9_evenings 83 v) M (sp_evenings σ v)
  by_cases h0 : r_s (s_now σ) 0 = 0
  · rw [show sp_evenings σ v = (nM 5, u_rf σ 5) by unfold sp_evenings; rw [if_pos h0]]
    exact m_no_end hG hI hMW (by simp (disch := first | assumption | omega) only [f_X9_evenings_24, f_X9_evenings_155, f_X9_evenings_143, f_X9_evenings_c140, f_X9_evenings_c131, f_X9_evenings_c118, bd_X9_evenings_88, f_X9_evenings_c79, bd_X9_evenings_71, f_X9_evenings_c58, bd_X9_evenings_46, bd_X9_evenings_38, f_X9_evenings, gt_83, gr_83_9, gt_84, gl_84, m_noM, e0, h0, l_of, n_ltT, n_ltF, n_leT, n_leF, n_eqT, n_eqF, n_neM, n_Mne, n_M0, n_Mlt, n_0leM, nI_clamp, x_in_nI, n_1, nI_add, x_at, x_bd_s, x_bv_s, ↓x_lt, decide_true, decide_false, Bool.and_self, Bool.true_and, Bool.and_true, if_true, if_false, ite_true, ite_false, ↓reduceIte, not_true_eq_false, not_false_eq_true, Nat.reduceAdd, Nat.reduceMul, Nat.reduceEqDiff, eq_self, true_and, and_true, false_and, and_false, Option.some.injEq, Prod.mk.injEq, l_0, l_1, l_2, l_3, l_4, l_5, l_6, l_7, l_8, l_9, l_10, l_100, l_160, ↓m_1, ↓m_2, ↓m_3, ↓m_4, ↓m_5, ↓m_6, ↓m_7, ii_wi, ji_wi, ri_wi, ti_wi, li_wi, ii_wj, ji_wj, ri_wj, ti_wj, li_wj])
  rcases i_cs v with h1 | ⟨m, mb, rfl⟩
  · have h1' : v < nI 1 := by rw [n_lt1 h1 (by omega)]; trivial
    rw [show sp_evenings σ v = (nM 6, u_rf σ 6) by unfold sp_evenings; rw [if_neg h0, if_pos (Or.inl h1')]]
    exact m_no_end hG hI hMW (by simp (disch := first | assumption | omega) only [f_X9_evenings_24, f_X9_evenings_155, f_X9_evenings_143, f_X9_evenings_c140, f_X9_evenings_c131, f_X9_evenings_c118, bd_X9_evenings_88, f_X9_evenings_c79, bd_X9_evenings_71, f_X9_evenings_c58, bd_X9_evenings_46, bd_X9_evenings_38, f_X9_evenings, gt_83, gr_83_9, gt_84, gl_84, m_noM, e0, h0, h1', l_of, n_ltT, n_ltF, n_leT, n_leF, n_eqT, n_eqF, n_neM, n_Mne, n_M0, n_Mlt, n_0leM, nI_clamp, x_in_nI, n_1, nI_add, x_at, x_bd_s, x_bv_s, ↓x_lt, decide_true, decide_false, Bool.and_self, Bool.true_and, Bool.and_true, if_true, if_false, ite_true, ite_false, ↓reduceIte, not_true_eq_false, not_false_eq_true, Nat.reduceAdd, Nat.reduceMul, Nat.reduceEqDiff, eq_self, true_and, and_true, false_and, and_false, Option.some.injEq, Prod.mk.injEq, l_0, l_1, l_2, l_3, l_4, l_5, l_6, l_7, l_8, l_9, l_10, l_100, l_160, ↓m_1, ↓m_2, ↓m_3, ↓m_4, ↓m_5, ↓m_6, ↓m_7, ii_wi, ji_wi, ri_wi, ti_wi, li_wi, ii_wj, ji_wj, ri_wj, ti_wj, li_wj])
  by_cases h2 : m = 0
  · subst h2
    rw [show sp_evenings σ (nI 0) = (nM 6, u_rf σ 6) by unfold sp_evenings; rw [if_neg h0, if_pos (Or.inl (by decide))]]
    exact m_no_end hG hI hMW (by simp (disch := first | assumption | omega) only [f_X9_evenings_24, f_X9_evenings_155, f_X9_evenings_143, f_X9_evenings_c140, f_X9_evenings_c131, f_X9_evenings_c118, bd_X9_evenings_88, f_X9_evenings_c79, bd_X9_evenings_71, f_X9_evenings_c58, bd_X9_evenings_46, bd_X9_evenings_38, f_X9_evenings, gt_83, gr_83_9, gt_84, gl_84, m_noM, e0, h0, l_of, n_ltT, n_ltF, n_leT, n_leF, n_eqT, n_eqF, n_neM, n_Mne, n_M0, n_Mlt, n_0leM, nI_clamp, x_in_nI, n_1, nI_add, x_at, x_bd_s, x_bv_s, ↓x_lt, decide_true, decide_false, Bool.and_self, Bool.true_and, Bool.and_true, if_true, if_false, ite_true, ite_false, ↓reduceIte, not_true_eq_false, not_false_eq_true, Nat.reduceAdd, Nat.reduceMul, Nat.reduceEqDiff, eq_self, true_and, and_true, false_and, and_false, Option.some.injEq, Prod.mk.injEq, l_0, l_1, l_2, l_3, l_4, l_5, l_6, l_7, l_8, l_9, l_10, l_100, l_160, ↓m_1, ↓m_2, ↓m_3, ↓m_4, ↓m_5, ↓m_6, ↓m_7, ii_wi, ji_wi, ri_wi, ti_wi, li_wi, ii_wj, ji_wj, ri_wj, ti_wj, li_wj])
  by_cases h3 : 5 < m
  · rw [show sp_evenings σ (nI m) = (nM 6, u_rf σ 6) by unfold sp_evenings; rw [if_neg h0, if_pos (Or.inr (by simp (disch := first | assumption | omega) only [l_of, n_ltT, n_ltF, n_leT, n_leF, n_eqT, n_eqF, n_neM, n_Mne, n_M0, n_Mlt, n_0leM, nI_clamp, x_in_nI, n_1, nI_add, x_at, x_bd_s, x_bv_s, ↓x_lt, decide_true, decide_false, Bool.and_self, Bool.true_and, Bool.and_true, if_true, if_false, ite_true, ite_false, ↓reduceIte, not_true_eq_false, not_false_eq_true, Nat.reduceAdd, Nat.reduceMul, Nat.reduceEqDiff, eq_self, true_and, and_true, false_and, and_false, Option.some.injEq, Prod.mk.injEq, l_0, l_1, l_2, l_3, l_4, l_5, l_6, l_7, l_8, l_9, l_10, l_100, l_160, ↓m_1, ↓m_2, ↓m_3, ↓m_4, ↓m_5, ↓m_6, ↓m_7]; exact h3))]]
    exact m_no_end hG hI hMW (by simp (disch := first | assumption | omega) only [f_X9_evenings_24, f_X9_evenings_155, f_X9_evenings_143, f_X9_evenings_c140, f_X9_evenings_c131, f_X9_evenings_c118, bd_X9_evenings_88, f_X9_evenings_c79, bd_X9_evenings_71, f_X9_evenings_c58, bd_X9_evenings_46, bd_X9_evenings_38, f_X9_evenings, gt_83, gr_83_9, gt_84, gl_84, m_noM, e0, h0, h3, l_of, n_ltT, n_ltF, n_leT, n_leF, n_eqT, n_eqF, n_neM, n_Mne, n_M0, n_Mlt, n_0leM, nI_clamp, x_in_nI, n_1, nI_add, x_at, x_bd_s, x_bv_s, ↓x_lt, decide_true, decide_false, Bool.and_self, Bool.true_and, Bool.and_true, if_true, if_false, ite_true, ite_false, ↓reduceIte, not_true_eq_false, not_false_eq_true, Nat.reduceAdd, Nat.reduceMul, Nat.reduceEqDiff, eq_self, true_and, and_true, false_and, and_false, Option.some.injEq, Prod.mk.injEq, l_0, l_1, l_2, l_3, l_4, l_5, l_6, l_7, l_8, l_9, l_10, l_100, l_160, ↓m_1, ↓m_2, ↓m_3, ↓m_4, ↓m_5, ↓m_6, ↓m_7, ii_wi, ji_wi, ri_wi, ti_wi, li_wi, ii_wj, ji_wj, ri_wj, ti_wj, li_wj])
  obtain ⟨M2, g1, g2, g3, g4⟩ := m_evs (Q := B + 400) (v := r_done (s_now σ)) (fun N ρ h1 h2 => m_draw h1 h2) (by omega) (by omega) m x_fuel 0 (s_now σ) M (fu (by omega)) hG ⟨⟨e0, e1, e2, e3, e4, e5, e6, e7⟩, hc, ht⟩ hV (by omega)
  rw [Nat.zero_add] at g1
  rw [show sp_evenings σ (nI m) = (r_done (r_evs sd dw m (s_now σ)) - r_done (s_now σ), u_now σ (r_evs sd dw m (s_now σ))) by simp (disch := first | assumption | omega) only [sp_evenings, l_of, n_ltT, n_ltF, n_leT, n_leF, n_eqT, n_eqF, n_neM, n_Mne, n_M0, n_Mlt, n_0leM, nI_clamp, x_in_nI, n_1, nI_add, x_at, x_bd_s, x_bv_s, ↓x_lt, decide_true, decide_false, Bool.and_self, Bool.true_and, Bool.and_true, if_true, if_false, ite_true, ite_false, ↓reduceIte, not_true_eq_false, not_false_eq_true, Nat.reduceAdd, Nat.reduceMul, Nat.reduceEqDiff, eq_self, true_and, and_true, false_and, and_false, Option.some.injEq, Prod.mk.injEq, l_0, l_1, l_2, l_3, l_4, l_5, l_6, l_7, l_8, l_9, l_10, l_100, l_160, ↓m_1, ↓m_2, ↓m_3, ↓m_4, ↓m_5, ↓m_6, ↓m_7, h0, h3, or_self]]
  refine ⟨M2, ?_, g2, hI.nfr g3 g4 (fun a k q r => by omega), hMW.ag (g4.agr (fun a k h1 h2 q => by omega)), g4.agr (fun a k h1 h2 q => by omega)⟩
  simp (disch := first | assumption | omega) only [f_X9_evenings_24, f_X9_evenings_155, f_X9_evenings_143, f_X9_evenings_c140, f_X9_evenings_c131, f_X9_evenings_c118, bd_X9_evenings_88, f_X9_evenings_c79, bd_X9_evenings_71, f_X9_evenings_c58, bd_X9_evenings_46, bd_X9_evenings_38, f_X9_evenings, gt_83, e0, e6, h0, l_of, n_ltT, n_ltF, n_leT, n_leF, n_eqT, n_eqF, n_neM, n_Mne, n_M0, n_Mlt, n_0leM, nI_clamp, x_in_nI, n_1, nI_add, x_at, x_bd_s, x_bv_s, ↓x_lt, decide_true, decide_false, Bool.and_self, Bool.true_and, Bool.and_true, if_true, if_false, ite_true, ite_false, ↓reduceIte, not_true_eq_false, not_false_eq_true, Nat.reduceAdd, Nat.reduceMul, Nat.reduceEqDiff, eq_self, true_and, and_true, false_and, and_false, Option.some.injEq, Prod.mk.injEq, l_0, l_1, l_2, l_3, l_4, l_5, l_6, l_7, l_8, l_9, l_10, l_100, l_160, ↓m_1, ↓m_2, ↓m_3, ↓m_4, ↓m_5, ↓m_6, ↓m_7, ii_wi, ji_wi, ri_wi, ti_wi, li_wi, ii_wj, ji_wj, ri_wj, ti_wj, li_wj]
  exact g1
theorem evs_s {g d : Int32 → Int32} (m : Nat) : ∀ (ρ : XR) (x : Nat), r_s (r_evs g d m ρ) x = r_s ρ x := by
  induction m with
  | zero => intro ρ x; rfl
  | succ m ih => intro ρ x; exact (ih _ x).trans (ev_s ρ x)
theorem wf_evenings {B : Nat} {σ : XS} (hW : WFS B σ) (v : Int32) : WFS (B + 400) (sp_evenings σ v).2 := by
  unfold sp_evenings; repeat' split
  · exact hW.mono (by omega)
  · exact hW.mono (by omega)
  · exact hW.now (by omega) (WF.evs _ _ (hW.1.mono (by omega)) (by omega)) (by rw [evs_s]; exact Nat.le_refl _)
