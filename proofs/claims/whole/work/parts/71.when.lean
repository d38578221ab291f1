/-! when -/
def tb (n p kd a x h s : Nat) : Nat := if n - x < s then n - x else s + n - lf p kd a (x + s - 1) (h + 1)
def tw (σ : XS) (c s : Nat) : Nat := tb (r_s (s_now σ) 1) (r_s (s_now σ) 2) (r_q (s_now σ) 0 c) (r_q (s_now σ) 1 c) (r_q (s_now σ) 2 c) (r_q (s_now σ) 3 c) s
def wnl (σ : XS) (c w : Nat) : Nat → Nat → Nat → Nat
  | 0, _, f => f
  | d + 1, k, f => wnl σ c w d (k + 1) (if (w = 0 ∧ tw σ c k ≤ tw σ c f) ∨ (w ≠ 0 ∧ tw σ c f < tw σ c k) then k else f)
theorem tw_le {σ : XS} {B c s : Nat} (hW : WFS B σ) (hs : s ≤ 200) : tw σ c s ≤ 400 := by
  have := hW.1.1.2.2.1
  unfold tw tb
  split <;> omega
section
variable {L : Nat} {b1 b2 : Bool} {σ : XS} {B : Nat}
theorem c_tw {M : XM} {c s : Nat} (hG : Geo L b1 b2 M) (hI : CInv σ M) (hW : WFS B σ) (hB : B ≤ 800000) (hc : c < r_s (s_now σ) 0) (hs : 1 ≤ s) (hs2 : s ≤ 200) : f_X8_throughWithBreak 20 (nI c) (nI s) M = some (nI (tw σ c s), M) := by
  obtain ⟨⟨w0, w1, w2, w3, w4, w5, w6, w7⟩, wc, wl, wtt⟩ := id hW.1
  obtain ⟨y1, y2, y3, y4⟩ := wc c (by omega)
  have y5 := wl c hc
  have e1 := hI.1.1.2.1
  have e2 := hI.1.1.2.2.1
  obtain ⟨q1, q2, q3, q4, q5⟩ := hI.1.2.1 c (by omega)
  have z1 : nI (r_s (s_now σ) 1) - nI (r_q (s_now σ) 2 c) = nI (r_s (s_now σ) 1 - r_q (s_now σ) 2 c) := pk_sub (by omega)
  unfold tw tb
  by_cases h1 : r_s (s_now σ) 1 - r_q (s_now σ) 2 c < s
  · rw [if_pos h1]
    simp (disch := first | assumption | omega) only [f_X8_throughWithBreak, gt_20, gr_20_0, gt_21, gr_21_0, gt_22, gl_22, gc_22, gct_24, gr_20_6, gt_51, gl_51, e1, q3, z1, l_of, n_ltT, n_ltF, n_leT, n_leF, n_eqT, n_eqF, n_neM, n_Mne, n_M0, n_Mlt, n_0leM, nI_clamp, x_in_nI, n_1, nI_add, x_at, x_bd_s, x_bv_s, ↓x_lt, decide_true, decide_false, Bool.and_self, Bool.true_and, Bool.and_true, if_true, if_false, ite_true, ite_false, ↓reduceIte, not_true_eq_false, not_false_eq_true, Nat.reduceAdd, Nat.reduceMul, Nat.reduceEqDiff, eq_self, true_and, and_true, false_and, and_false, Option.some.injEq, Prod.mk.injEq, l_0, l_1, l_2, l_3, l_4, l_5, l_6, l_7, l_8, l_9, l_10, l_100, l_160, ↓m_1, ↓m_2, ↓m_3, ↓m_4, ↓m_5, ↓m_6, ↓m_7]
  · rw [if_neg h1]
    have z2 : nI (r_q (s_now σ) 2 c + s) - nI 1 = nI (r_q (s_now σ) 2 c + s - 1) := pk_sub (by omega)
    have hl := c_left (M := M) (v0 := 24 + c) (x := r_q (s_now σ) 2 c + s - 1) (h := r_q (s_now σ) 3 c + 1) (p := r_s (s_now σ) 2) (gct_24 hG (by omega)) q1 q2 y1 y2 (by omega) (by omega) w3 w4
    have hle := lf_le (r_s (s_now σ) 2) (r_q (s_now σ) 0 c) (r_q (s_now σ) 1 c) (r_q (s_now σ) 2 c + s - 1) (r_q (s_now σ) 3 c + 1)
    simp (disch := first | assumption | omega) only [f_X8_throughWithBreak, f_X8_throughWithBreak_c55, gt_20, gr_20_0, gt_21, gr_21_0, gt_22, gl_22, gc_22, gct_24, gr_20_6, gt_51, gl_51, e1, e2, q3, q5, z1, z2, hl, nI_add, pk_sub, l_of, n_ltT, n_ltF, n_leT, n_leF, n_eqT, n_eqF, n_neM, n_Mne, n_M0, n_Mlt, n_0leM, nI_clamp, x_in_nI, n_1, nI_add, x_at, x_bd_s, x_bv_s, ↓x_lt, decide_true, decide_false, Bool.and_self, Bool.true_and, Bool.and_true, if_true, if_false, ite_true, ite_false, ↓reduceIte, not_true_eq_false, not_false_eq_true, Nat.reduceAdd, Nat.reduceMul, Nat.reduceEqDiff, eq_self, true_and, and_true, false_and, and_false, Option.some.injEq, Prod.mk.injEq, l_0, l_1, l_2, l_3, l_4, l_5, l_6, l_7, l_8, l_9, l_10, l_100, l_160, ↓m_1, ↓m_2, ↓m_3, ↓m_4, ↓m_5, ↓m_6, ↓m_7]
theorem m_twA {M : XM} {c s n : Nat} (hG : Geo L b1 b2 M) (e1 : x_i M 83 1 = nI n) (hn : n ≤ 200) (hs : 1 ≤ s) (hs2 : s ≤ 200) (d : Nat) : ∀ (N x t : Nat), d < N → x + d = n → s ≤ t → t + d ≤ 1000 →
    lp_X9_throughWith_10 N 83 (nI c) (nI s) (nI x) (nI t) M = some (nI (t + d), M) := by
  induction d with
  | zero =>
    intro N x t hN hx ht htd
    obtain ⟨N, rfl⟩ : ∃ i, N = i + 1 := ⟨N - 1, by omega⟩
    rw [s_lp_X9_throughWith_10]
    simp (disch := first | assumption | omega) only [bd_X9_throughWith_10, gt_83, e1, Nat.add_zero, l_of, n_ltT, n_ltF, n_leT, n_leF, n_eqT, n_eqF, n_neM, n_Mne, n_M0, n_Mlt, n_0leM, nI_clamp, x_in_nI, n_1, nI_add, x_at, x_bd_s, x_bv_s, ↓x_lt, decide_true, decide_false, Bool.and_self, Bool.true_and, Bool.and_true, if_true, if_false, ite_true, ite_false, ↓reduceIte, not_true_eq_false, not_false_eq_true, Nat.reduceAdd, Nat.reduceMul, Nat.reduceEqDiff, eq_self, true_and, and_true, false_and, and_false, Option.some.injEq, Prod.mk.injEq, l_0, l_1, l_2, l_3, l_4, l_5, l_6, l_7, l_8, l_9, l_10, l_100, l_160, ↓m_1, ↓m_2, ↓m_3, ↓m_4, ↓m_5, ↓m_6, ↓m_7]
  | succ d ih =>
    intro N x t hN hx ht htd
    obtain ⟨N, rfl⟩ : ∃ i, N = i + 1 := ⟨N - 1, by omega⟩
    rw [s_lp_X9_throughWith_10]
    have q := ih N (x + 1) (t + 1) (by omega) (by omega) (by omega) (by omega)
    rw [show t + (d + 1) = t + 1 + d by omega]
    simp (disch := first | assumption | omega) only [bd_X9_throughWith_10, f_X9_throughWith_47, gt_83, e1, l_of, n_ltT, n_ltF, n_leT, n_leF, n_eqT, n_eqF, n_neM, n_Mne, n_M0, n_Mlt, n_0leM, nI_clamp, x_in_nI, n_1, nI_add, x_at, x_bd_s, x_bv_s, ↓x_lt, decide_true, decide_false, Bool.and_self, Bool.true_and, Bool.and_true, if_true, if_false, ite_true, ite_false, ↓reduceIte, not_true_eq_false, not_false_eq_true, Nat.reduceAdd, Nat.reduceMul, Nat.reduceEqDiff, eq_self, true_and, and_true, false_and, and_false, Option.some.injEq, Prod.mk.injEq, l_0, l_1, l_2, l_3, l_4, l_5, l_6, l_7, l_8, l_9, l_10, l_100, l_160, ↓m_1, ↓m_2, ↓m_3, ↓m_4, ↓m_5, ↓m_6, ↓m_7]
    exact q
theorem m_twB {M : XM} {c s : Nat} (hG : Geo L b1 b2 M) (hI : MInv σ M) (hW : WFS B σ) (hB : B ≤ 800000) (hc : c < r_s (s_now σ) 0) (hs : 1 ≤ s) (hs2 : s ≤ 200) (d : Nat) : ∀ (N t : Nat), d + 500 < N → t + d + 1 = s → r_q (s_now σ) 2 c + t ≤ r_s (s_now σ) 1 →
    lp_X9_throughWith_10 N 83 (nI c) (nI s) (nI (r_q (s_now σ) 2 c + t)) (nI t) M = some (nI (tw σ c s), M) := by
  obtain ⟨⟨w0, w1, w2, w3, w4, w5, w6, w7⟩, wc, wl, wtt⟩ := id hW.1
  obtain ⟨y1, y2, y3, y4⟩ := wc c (by omega)
  have y5 := wl c hc
  have e1 := hI.1.1.2.1
  have e2 := hI.1.1.2.2.1
  obtain ⟨q1, q2, q3, q4, q5⟩ := hI.1.2.1 c (by omega)
  induction d with
  | zero =>
    intro N t hN ht hx
    obtain ⟨N, rfl⟩ : ∃ i, N = i + 1 := ⟨N - 1, by omega⟩
    rw [s_lp_X9_throughWith_10]
    unfold tw tb
    by_cases h1 : r_s (s_now σ) 1 - r_q (s_now σ) 2 c < s
    · rw [if_pos h1]
      rw [show r_q (s_now σ) 2 c + t = r_s (s_now σ) 1 by omega, show r_s (s_now σ) 1 - r_q (s_now σ) 2 c = t by omega]
      simp (disch := first | assumption | omega) only [bd_X9_throughWith_10, gt_83, e1, l_of, n_ltT, n_ltF, n_leT, n_leF, n_eqT, n_eqF, n_neM, n_Mne, n_M0, n_Mlt, n_0leM, nI_clamp, x_in_nI, n_1, nI_add, x_at, x_bd_s, x_bv_s, ↓x_lt, decide_true, decide_false, Bool.and_self, Bool.true_and, Bool.and_true, if_true, if_false, ite_true, ite_false, ↓reduceIte, not_true_eq_false, not_false_eq_true, Nat.reduceAdd, Nat.reduceMul, Nat.reduceEqDiff, eq_self, true_and, and_true, false_and, and_false, Option.some.injEq, Prod.mk.injEq, l_0, l_1, l_2, l_3, l_4, l_5, l_6, l_7, l_8, l_9, l_10, l_100, l_160, ↓m_1, ↓m_2, ↓m_3, ↓m_4, ↓m_5, ↓m_6, ↓m_7]
    · rw [if_neg h1]
      have hl := m_left (x := r_q (s_now σ) 2 c + t) (h := r_q (s_now σ) 3 c + 1) hG (show c < 6 by omega) q1 q2 e2 y1 y2 (by omega) (by omega) w3 w4
      have hle := lf_le (r_s (s_now σ) 2) (r_q (s_now σ) 0 c) (r_q (s_now σ) 1 c) (r_q (s_now σ) 2 c + t) (r_q (s_now σ) 3 c + 1)
      have q := m_twA (c := c) hG e1 w2 hs hs2 (r_s (s_now σ) 1 - lf (r_s (s_now σ) 2) (r_q (s_now σ) 0 c) (r_q (s_now σ) 1 c) (r_q (s_now σ) 2 c + t) (r_q (s_now σ) 3 c + 1)) N (lf (r_s (s_now σ) 2) (r_q (s_now σ) 0 c) (r_q (s_now σ) 1 c) (r_q (s_now σ) 2 c + t) (r_q (s_now σ) 3 c + 1)) (t + 1) (by omega) (by omega) (by omega) (by omega)
      rw [show r_q (s_now σ) 2 c + s - 1 = r_q (s_now σ) 2 c + t by omega]
      generalize lf (r_s (s_now σ) 2) (r_q (s_now σ) 0 c) (r_q (s_now σ) 1 c) (r_q (s_now σ) 2 c + t) (r_q (s_now σ) 3 c + 1) = l at hl hle q ⊢
      rw [show t + 1 + (r_s (s_now σ) 1 - l) = s + r_s (s_now σ) 1 - l by omega] at q
      have et : t + 1 = s := by omega
      have c6 : c < 6 := by omega
      rw [et] at q
      simp (disch := first | assumption | omega) only [bd_X9_throughWith_10, f_X9_throughWith_c38, f_X9_throughWith_47, gt_83, gr_83_9, gt_84, gl_84, gr_83_12, gr_83_14, gt_87, gl_87, gt_89, gl_89, e1, et, q5, hl, l_of, n_ltT, n_ltF, n_leT, n_leF, n_eqT, n_eqF, n_neM, n_Mne, n_M0, n_Mlt, n_0leM, nI_clamp, x_in_nI, n_1, nI_add, x_at, x_bd_s, x_bv_s, ↓x_lt, decide_true, decide_false, Bool.and_self, Bool.true_and, Bool.and_true, if_true, if_false, ite_true, ite_false, ↓reduceIte, not_true_eq_false, not_false_eq_true, Nat.reduceAdd, Nat.reduceMul, Nat.reduceEqDiff, eq_self, true_and, and_true, false_and, and_false, Option.some.injEq, Prod.mk.injEq, l_0, l_1, l_2, l_3, l_4, l_5, l_6, l_7, l_8, l_9, l_10, l_100, l_160, ↓m_1, ↓m_2, ↓m_3, ↓m_4, ↓m_5, ↓m_6, ↓m_7]
      exact q
  | succ d ih =>
    intro N t hN ht hx
    obtain ⟨N, rfl⟩ : ∃ i, N = i + 1 := ⟨N - 1, by omega⟩
    rw [s_lp_X9_throughWith_10]
    by_cases h1 : r_s (s_now σ) 1 ≤ r_q (s_now σ) 2 c + t
    · unfold tw tb
      rw [if_pos (by omega)]
      rw [show r_q (s_now σ) 2 c + t = r_s (s_now σ) 1 by omega, show r_s (s_now σ) 1 - r_q (s_now σ) 2 c = t by omega]
      simp (disch := first | assumption | omega) only [bd_X9_throughWith_10, gt_83, e1, l_of, n_ltT, n_ltF, n_leT, n_leF, n_eqT, n_eqF, n_neM, n_Mne, n_M0, n_Mlt, n_0leM, nI_clamp, x_in_nI, n_1, nI_add, x_at, x_bd_s, x_bv_s, ↓x_lt, decide_true, decide_false, Bool.and_self, Bool.true_and, Bool.and_true, if_true, if_false, ite_true, ite_false, ↓reduceIte, not_true_eq_false, not_false_eq_true, Nat.reduceAdd, Nat.reduceMul, Nat.reduceEqDiff, eq_self, true_and, and_true, false_and, and_false, Option.some.injEq, Prod.mk.injEq, l_0, l_1, l_2, l_3, l_4, l_5, l_6, l_7, l_8, l_9, l_10, l_100, l_160, ↓m_1, ↓m_2, ↓m_3, ↓m_4, ↓m_5, ↓m_6, ↓m_7]
    · have q := ih N (t + 1) (by omega) (by omega) (by omega)
      have et : t + 1 ≠ s := by omega
      simp (disch := first | assumption | omega) only [bd_X9_throughWith_10, f_X9_throughWith_47, gt_83, e1, Nat.add_assoc, l_of, n_ltT, n_ltF, n_leT, n_leF, n_eqT, n_eqF, n_neM, n_Mne, n_M0, n_Mlt, n_0leM, nI_clamp, x_in_nI, n_1, nI_add, x_at, x_bd_s, x_bv_s, ↓x_lt, decide_true, decide_false, Bool.and_self, Bool.true_and, Bool.and_true, if_true, if_false, ite_true, ite_false, ↓reduceIte, not_true_eq_false, not_false_eq_true, Nat.reduceAdd, Nat.reduceMul, Nat.reduceEqDiff, eq_self, true_and, and_true, false_and, and_false, Option.some.injEq, Prod.mk.injEq, l_0, l_1, l_2, l_3, l_4, l_5, l_6, l_7, l_8, l_9, l_10, l_100, l_160, ↓m_1, ↓m_2, ↓m_3, ↓m_4, ↓m_5, ↓m_6, ↓m_7]
      exact q
theorem m_tw {M : XM} {c s : Nat} (hG : Geo L b1 b2 M) (hI : MInv σ M) (hW : WFS B σ) (hB : B ≤ 800000) (hc : c < r_s (s_now σ) 0) (hs : 1 ≤ s) (hs2 : s ≤ 200) : f_X9_throughWith 83 (nI c) (nI s) M = some (nI (tw σ c s), M) := by
  have w0 := hW.1.1.1
  obtain ⟨q1, q2, q3, q4, q5⟩ := hI.1.2.1 c (by omega)
  have y5 := hW.1.2.2.1 c hc
  have q := m_twB hG hI hW hB hc hs hs2 (s - 1) x_fuel 0 (fu (by omega)) (by omega) (by omega)
  rw [Nat.add_zero] at q
  simp (disch := first | assumption | omega) only [f_X9_throughWith, gt_83, gr_83_9, gt_84, gl_84, gr_83_12, gr_83_14, gt_87, gl_87, gt_89, gl_89, q3, l_of, n_ltT, n_ltF, n_leT, n_leF, n_eqT, n_eqF, n_neM, n_Mne, n_M0, n_Mlt, n_0leM, nI_clamp, x_in_nI, n_1, nI_add, x_at, x_bd_s, x_bv_s, ↓x_lt, decide_true, decide_false, Bool.and_self, Bool.true_and, Bool.and_true, if_true, if_false, ite_true, ite_false, ↓reduceIte, not_true_eq_false, not_false_eq_true, Nat.reduceAdd, Nat.reduceMul, Nat.reduceEqDiff, eq_self, true_and, and_true, false_and, and_false, Option.some.injEq, Prod.mk.injEq, l_0, l_1, l_2, l_3, l_4, l_5, l_6, l_7, l_8, l_9, l_10, l_100, l_160, ↓m_1, ↓m_2, ↓m_3, ↓m_4, ↓m_5, ↓m_6, ↓m_7]
  exact q
theorem c_wnl {M : XM} {c w t : Nat} (hG : Geo L b1 b2 M) (hI : CInv σ M) (hW : WFS B σ) (hB : B ≤ 800000) (hc : c < r_s (s_now σ) 0) (hw : w ≤ 1) (ht : t ≤ 100) (d : Nat) : ∀ (N k f : Nat), d < N → k + d = t + 1 → 1 ≤ k → 1 ≤ f → f ≤ 100 →
    lp_X8_when_73 N 20 (nI c) (nI t) (nI w) (nI f) (nI (tw σ c f)) (nI k) M = some (nI (wnl σ c w d k f), M) := by
  induction d with
  | zero =>
    intro N k f hN hk hk1 hf hf2
    obtain ⟨N, rfl⟩ : ∃ i, N = i + 1 := ⟨N - 1, by omega⟩
    rw [s_lp_X8_when_73, show k = t + 1 by omega]
    simp (disch := first | assumption | omega) only [bd_X8_when_73, wnl, l_of, n_ltT, n_ltF, n_leT, n_leF, n_eqT, n_eqF, n_neM, n_Mne, n_M0, n_Mlt, n_0leM, nI_clamp, x_in_nI, n_1, nI_add, x_at, x_bd_s, x_bv_s, ↓x_lt, decide_true, decide_false, Bool.and_self, Bool.true_and, Bool.and_true, if_true, if_false, ite_true, ite_false, ↓reduceIte, not_true_eq_false, not_false_eq_true, Nat.reduceAdd, Nat.reduceMul, Nat.reduceEqDiff, eq_self, true_and, and_true, false_and, and_false, Option.some.injEq, Prod.mk.injEq, l_0, l_1, l_2, l_3, l_4, l_5, l_6, l_7, l_8, l_9, l_10, l_100, l_160, ↓m_1, ↓m_2, ↓m_3, ↓m_4, ↓m_5, ↓m_6, ↓m_7]
  | succ d ih =>
    intro N k f hN hk hk1 hf hf2
    obtain ⟨N, rfl⟩ : ∃ i, N = i + 1 := ⟨N - 1, by omega⟩
    have hk' := c_tw (s := k) hG hI hW hB hc (by omega) (by omega)
    have l1 := tw_le (c := c) (s := k) hW (by omega)
    have l2 := tw_le (c := c) (s := f) hW (by omega)
    have g1 := ih N (k + 1) f (by omega) (by omega) (by omega) hf hf2
    have g2 := ih N (k + 1) k (by omega) (by omega) (by omega) (by omega) (by omega)
    rw [s_lp_X8_when_73]
    unfold wnl
    generalize tw σ c k = A at *
    generalize tw σ c f = C at *
    rcases (by omega : w = 0 ∨ w = 1) with rfl | rfl
    · by_cases h : A ≤ C
      · rw [if_pos (Or.inl ⟨rfl, h⟩)]
        simp (disch := first | assumption | omega) only [bd_X8_when_73, f_X8_when_c83, f_X8_when_119, f_X8_when_137, gt_20, hk', l_of, n_ltT, n_ltF, n_leT, n_leF, n_eqT, n_eqF, n_neM, n_Mne, n_M0, n_Mlt, n_0leM, nI_clamp, x_in_nI, n_1, nI_add, x_at, x_bd_s, x_bv_s, ↓x_lt, decide_true, decide_false, Bool.and_self, Bool.true_and, Bool.and_true, if_true, if_false, ite_true, ite_false, ↓reduceIte, not_true_eq_false, not_false_eq_true, Nat.reduceAdd, Nat.reduceMul, Nat.reduceEqDiff, eq_self, true_and, and_true, false_and, and_false, Option.some.injEq, Prod.mk.injEq, l_0, l_1, l_2, l_3, l_4, l_5, l_6, l_7, l_8, l_9, l_10, l_100, l_160, ↓m_1, ↓m_2, ↓m_3, ↓m_4, ↓m_5, ↓m_6, ↓m_7]
        exact g2
      · rw [if_neg (by omega)]
        simp (disch := first | assumption | omega) only [bd_X8_when_73, f_X8_when_c83, f_X8_when_119, f_X8_when_137, gt_20, hk', l_of, n_ltT, n_ltF, n_leT, n_leF, n_eqT, n_eqF, n_neM, n_Mne, n_M0, n_Mlt, n_0leM, nI_clamp, x_in_nI, n_1, nI_add, x_at, x_bd_s, x_bv_s, ↓x_lt, decide_true, decide_false, Bool.and_self, Bool.true_and, Bool.and_true, if_true, if_false, ite_true, ite_false, ↓reduceIte, not_true_eq_false, not_false_eq_true, Nat.reduceAdd, Nat.reduceMul, Nat.reduceEqDiff, eq_self, true_and, and_true, false_and, and_false, Option.some.injEq, Prod.mk.injEq, l_0, l_1, l_2, l_3, l_4, l_5, l_6, l_7, l_8, l_9, l_10, l_100, l_160, ↓m_1, ↓m_2, ↓m_3, ↓m_4, ↓m_5, ↓m_6, ↓m_7]
        exact g1
    · by_cases h : C < A
      · rw [if_pos (Or.inr ⟨by omega, h⟩)]
        simp (disch := first | assumption | omega) only [bd_X8_when_73, f_X8_when_c83, f_X8_when_119, f_X8_when_137, gt_20, hk', l_of, n_ltT, n_ltF, n_leT, n_leF, n_eqT, n_eqF, n_neM, n_Mne, n_M0, n_Mlt, n_0leM, nI_clamp, x_in_nI, n_1, nI_add, x_at, x_bd_s, x_bv_s, ↓x_lt, decide_true, decide_false, Bool.and_self, Bool.true_and, Bool.and_true, if_true, if_false, ite_true, ite_false, ↓reduceIte, not_true_eq_false, not_false_eq_true, Nat.reduceAdd, Nat.reduceMul, Nat.reduceEqDiff, eq_self, true_and, and_true, false_and, and_false, Option.some.injEq, Prod.mk.injEq, l_0, l_1, l_2, l_3, l_4, l_5, l_6, l_7, l_8, l_9, l_10, l_100, l_160, ↓m_1, ↓m_2, ↓m_3, ↓m_4, ↓m_5, ↓m_6, ↓m_7]
        exact g2
      · rw [if_neg (by omega)]
        simp (disch := first | assumption | omega) only [bd_X8_when_73, f_X8_when_c83, f_X8_when_119, f_X8_when_137, gt_20, hk', l_of, n_ltT, n_ltF, n_leT, n_leF, n_eqT, n_eqF, n_neM, n_Mne, n_M0, n_Mlt, n_0leM, nI_clamp, x_in_nI, n_1, nI_add, x_at, x_bd_s, x_bv_s, ↓x_lt, decide_true, decide_false, Bool.and_self, Bool.true_and, Bool.and_true, if_true, if_false, ite_true, ite_false, ↓reduceIte, not_true_eq_false, not_false_eq_true, Nat.reduceAdd, Nat.reduceMul, Nat.reduceEqDiff, eq_self, true_and, and_true, false_and, and_false, Option.some.injEq, Prod.mk.injEq, l_0, l_1, l_2, l_3, l_4, l_5, l_6, l_7, l_8, l_9, l_10, l_100, l_160, ↓m_1, ↓m_2, ↓m_3, ↓m_4, ↓m_5, ↓m_6, ↓m_7]
        exact g1
theorem m_wnl {M : XM} {c w t : Nat} (hG : Geo L b1 b2 M) (hI : MInv σ M) (hW : WFS B σ) (hB : B ≤ 800000) (hc : c < r_s (s_now σ) 0) (hw : w ≤ 1) (ht : t ≤ 100) (d : Nat) : ∀ (N k f : Nat), d < N → k + d = t + 1 → 1 ≤ k → 1 ≤ f → f ≤ 100 →
    lp_X9_when_67 N 83 (nI c) (nI t) (nI w) (nI f) (nI k) M = some (nI (wnl σ c w d k f), M) := by
  induction d with
  | zero =>
    intro N k f hN hk hk1 hf hf2
    obtain ⟨N, rfl⟩ : ∃ i, N = i + 1 := ⟨N - 1, by omega⟩
    rw [s_lp_X9_when_67, show k = t + 1 by omega]
    simp (disch := first | assumption | omega) only [bd_X9_when_67, wnl, l_of, n_ltT, n_ltF, n_leT, n_leF, n_eqT, n_eqF, n_neM, n_Mne, n_M0, n_Mlt, n_0leM, nI_clamp, x_in_nI, n_1, nI_add, x_at, x_bd_s, x_bv_s, ↓x_lt, decide_true, decide_false, Bool.and_self, Bool.true_and, Bool.and_true, if_true, if_false, ite_true, ite_false, ↓reduceIte, not_true_eq_false, not_false_eq_true, Nat.reduceAdd, Nat.reduceMul, Nat.reduceEqDiff, eq_self, true_and, and_true, false_and, and_false, Option.some.injEq, Prod.mk.injEq, l_0, l_1, l_2, l_3, l_4, l_5, l_6, l_7, l_8, l_9, l_10, l_100, l_160, ↓m_1, ↓m_2, ↓m_3, ↓m_4, ↓m_5, ↓m_6, ↓m_7]
  | succ d ih =>
    intro N k f hN hk hk1 hf hf2
    obtain ⟨N, rfl⟩ : ∃ i, N = i + 1 := ⟨N - 1, by omega⟩
    have hk' := m_tw (s := k) hG hI hW hB hc (by omega) (by omega)
    have hf' := m_tw (s := f) hG hI hW hB hc (by omega) (by omega)
    have l1 := tw_le (c := c) (s := k) hW (by omega)
    have l2 := tw_le (c := c) (s := f) hW (by omega)
    have g1 := ih N (k + 1) f (by omega) (by omega) (by omega) hf hf2
    have g2 := ih N (k + 1) k (by omega) (by omega) (by omega) (by omega) (by omega)
    rw [s_lp_X9_when_67]
    unfold wnl
    generalize tw σ c k = A at *
    generalize tw σ c f = C at *
    rcases (by omega : w = 0 ∨ w = 1) with rfl | rfl
    · by_cases h : A ≤ C
      · rw [if_pos (Or.inl ⟨rfl, h⟩)]
        simp (disch := first | assumption | omega) only [bd_X9_when_67, f_X9_when_c77, f_X9_when_c86, f_X9_when_112, f_X9_when_116, gt_83, hk', hf', l_of, n_ltT, n_ltF, n_leT, n_leF, n_eqT, n_eqF, n_neM, n_Mne, n_M0, n_Mlt, n_0leM, nI_clamp, x_in_nI, n_1, nI_add, x_at, x_bd_s, x_bv_s, ↓x_lt, decide_true, decide_false, Bool.and_self, Bool.true_and, Bool.and_true, if_true, if_false, ite_true, ite_false, ↓reduceIte, not_true_eq_false, not_false_eq_true, Nat.reduceAdd, Nat.reduceMul, Nat.reduceEqDiff, eq_self, true_and, and_true, false_and, and_false, Option.some.injEq, Prod.mk.injEq, l_0, l_1, l_2, l_3, l_4, l_5, l_6, l_7, l_8, l_9, l_10, l_100, l_160, ↓m_1, ↓m_2, ↓m_3, ↓m_4, ↓m_5, ↓m_6, ↓m_7]
        exact g2
      · rw [if_neg (by omega)]
        simp (disch := first | assumption | omega) only [bd_X9_when_67, f_X9_when_c77, f_X9_when_c86, f_X9_when_112, f_X9_when_116, gt_83, hk', hf', l_of, n_ltT, n_ltF, n_leT, n_leF, n_eqT, n_eqF, n_neM, n_Mne, n_M0, n_Mlt, n_0leM, nI_clamp, x_in_nI, n_1, nI_add, x_at, x_bd_s, x_bv_s, ↓x_lt, decide_true, decide_false, Bool.and_self, Bool.true_and, Bool.and_true, if_true, if_false, ite_true, ite_false, ↓reduceIte, not_true_eq_false, not_false_eq_true, Nat.reduceAdd, Nat.reduceMul, Nat.reduceEqDiff, eq_self, true_and, and_true, false_and, and_false, Option.some.injEq, Prod.mk.injEq, l_0, l_1, l_2, l_3, l_4, l_5, l_6, l_7, l_8, l_9, l_10, l_100, l_160, ↓m_1, ↓m_2, ↓m_3, ↓m_4, ↓m_5, ↓m_6, ↓m_7]
        exact g1
    · by_cases h : C < A
      · rw [if_pos (Or.inr ⟨by omega, h⟩)]
        simp (disch := first | assumption | omega) only [bd_X9_when_67, f_X9_when_c77, f_X9_when_c86, f_X9_when_112, f_X9_when_116, gt_83, hk', hf', l_of, n_ltT, n_ltF, n_leT, n_leF, n_eqT, n_eqF, n_neM, n_Mne, n_M0, n_Mlt, n_0leM, nI_clamp, x_in_nI, n_1, nI_add, x_at, x_bd_s, x_bv_s, ↓x_lt, decide_true, decide_false, Bool.and_self, Bool.true_and, Bool.and_true, if_true, if_false, ite_true, ite_false, ↓reduceIte, not_true_eq_false, not_false_eq_true, Nat.reduceAdd, Nat.reduceMul, Nat.reduceEqDiff, eq_self, true_and, and_true, false_and, and_false, Option.some.injEq, Prod.mk.injEq, l_0, l_1, l_2, l_3, l_4, l_5, l_6, l_7, l_8, l_9, l_10, l_100, l_160, ↓m_1, ↓m_2, ↓m_3, ↓m_4, ↓m_5, ↓m_6, ↓m_7]
        exact g2
      · rw [if_neg (by omega)]
        simp (disch := first | assumption | omega) only [bd_X9_when_67, f_X9_when_c77, f_X9_when_c86, f_X9_when_112, f_X9_when_116, gt_83, hk', hf', l_of, n_ltT, n_ltF, n_leT, n_leF, n_eqT, n_eqF, n_neM, n_Mne, n_M0, n_Mlt, n_0leM, nI_clamp, x_in_nI, n_1, nI_add, x_at, x_bd_s, x_bv_s, ↓x_lt, decide_true, decide_false, Bool.and_self, Bool.true_and, Bool.and_true, if_true, if_false, ite_true, ite_false, ↓reduceIte, not_true_eq_false, not_false_eq_true, Nat.reduceAdd, Nat.reduceMul, Nat.reduceEqDiff, eq_self, true_and, and_true, false_and, and_false, Option.some.injEq, Prod.mk.injEq, l_0, l_1, l_2, l_3, l_4, l_5, l_6, l_7, l_8, l_9, l_10, l_100, l_160, ↓m_1, ↓m_2, ↓m_3, ↓m_4, ↓m_5, ↓m_6, ↓m_7]
        exact g1
end
def sp_when (σ : XS) (c t w : Int32) : Int32 × XS :=
  if c < nI 0 ∨ r_s (s_now σ) 0 ≤ c.toNatClampNeg then (nM 1, u_rf σ 1) else if w < nI 0 ∨ 1 < w.toNatClampNeg then (nM 5, u_rf σ 5) else if t < nI 1 ∨ 100 < t.toNatClampNeg ∨ r_s (s_now σ) 1 ≤ r_q (s_now σ) 2 c.toNatClampNeg then (nM 6, u_rf σ 6) else (nI (wnl σ c.toNatClampNeg w.toNatClampNeg (t.toNatClampNeg - 1) 2 1), σ)
theorem nI_dec {m : Int32} (h : ¬ m < nI 1) : ∃ x, x < 2147483648 ∧ 1 ≤ x ∧ m = nI x := by
  rcases i_cs m with q | ⟨x, xb, rfl⟩
  · exact absurd (by rw [n_lt1 q (by omega)]; trivial) h
  · refine ⟨x, xb, ?_, rfl⟩
    rcases Nat.lt_or_ge x 1 with q | q
    · exact absurd (by rw [n_ltT q (by omega)]; trivial) h
    · exact q
theorem oc_when {B : Nat} {σ : XS} (hW : WFS B σ) (hB : B ≤ 800000) (c t w : Int32) : OpC (f_X8_when 20 c t w) σ (sp_when σ c t w).1 (sp_when σ c t w).2 := by
  intro L b1 b2 M hG hI
  obtain ⟨⟨⟨e0, e1, e2, e3, e4, e5, e6, e7⟩, hc, ht⟩, hi, hsh, hrf, hft, hrn, htr⟩ := id hI
  show EndC L (f_X8_when 20 c t w) M (sp_when σ c t w)
  have hC := c_isC hG hI hW c
  have w0 := hW.1.1.1
  have hc_ := hc
  clear hc
  unfold sp_when
  by_cases hc : c < nI 0 ∨ r_s (s_now σ) 0 ≤ c.toNatClampNeg
  · rw [if_pos hc] at hC ⊢
    exact c_no_end hG hI (by simp (disch := first | assumption | omega) only [f_X8_when_23, f_X8_when_52, f_X8_when_137, f_X8_when_119, f_X8_when_c83, bd_X8_when_73, f_X8_when_c65, f_X8_when_c46, f_X8_when_c2, f_X8_when, gt_20, gr_20_0, gt_21, gr_21_0, gt_22, gl_22, gc_22, gct_24, gr_20_6, gt_51, gl_51, hC, c_refM, l_of, n_ltT, n_ltF, n_leT, n_leF, n_eqT, n_eqF, n_neM, n_Mne, n_M0, n_Mlt, n_0leM, nI_clamp, x_in_nI, n_1, nI_add, x_at, x_bd_s, x_bv_s, ↓x_lt, decide_true, decide_false, Bool.and_self, Bool.true_and, Bool.and_true, if_true, if_false, ite_true, ite_false, ↓reduceIte, not_true_eq_false, not_false_eq_true, Nat.reduceAdd, Nat.reduceMul, Nat.reduceEqDiff, eq_self, true_and, and_true, false_and, and_false, Option.some.injEq, Prod.mk.injEq, l_0, l_1, l_2, l_3, l_4, l_5, l_6, l_7, l_8, l_9, l_10, l_100, l_160, ↓m_1, ↓m_2, ↓m_3, ↓m_4, ↓m_5, ↓m_6, ↓m_7])
  rw [if_neg hc] at hC ⊢
  obtain ⟨j, jb, rfl⟩ : ∃ j, j < r_s (s_now σ) 0 ∧ c = nI j := by
    rcases i_cs c with q | ⟨j, jb, rfl⟩
    · exact absurd (Or.inl q) hc
    · exact ⟨j, by
        rcases Nat.lt_or_ge j (r_s (s_now σ) 0) with q | q
        · exact q
        · exact absurd (Or.inr (by rw [nI_clamp (by omega)]; exact q)) hc, rfl⟩
  rcases i_cs w with h1 | ⟨v, vb, rfl⟩
  · rw [if_pos (Or.inl h1)]
    exact c_no_end hG hI (by simp (disch := first | assumption | omega) only [f_X8_when_23, f_X8_when_52, f_X8_when_137, f_X8_when_119, f_X8_when_c83, bd_X8_when_73, f_X8_when_c65, f_X8_when_c46, f_X8_when_c2, f_X8_when, gt_20, gr_20_0, gt_21, gr_21_0, gt_22, gl_22, gc_22, gct_24, gr_20_6, gt_51, gl_51, hC, h1, c_refM, l_of, n_ltT, n_ltF, n_leT, n_leF, n_eqT, n_eqF, n_neM, n_Mne, n_M0, n_Mlt, n_0leM, nI_clamp, x_in_nI, n_1, nI_add, x_at, x_bd_s, x_bv_s, ↓x_lt, decide_true, decide_false, Bool.and_self, Bool.true_and, Bool.and_true, if_true, if_false, ite_true, ite_false, ↓reduceIte, not_true_eq_false, not_false_eq_true, Nat.reduceAdd, Nat.reduceMul, Nat.reduceEqDiff, eq_self, true_and, and_true, false_and, and_false, Option.some.injEq, Prod.mk.injEq, l_0, l_1, l_2, l_3, l_4, l_5, l_6, l_7, l_8, l_9, l_10, l_100, l_160, ↓m_1, ↓m_2, ↓m_3, ↓m_4, ↓m_5, ↓m_6, ↓m_7])
  rw [nI_clamp (show v < 2 ^ 31 by omega), nI_clamp (show j < 2 ^ 31 by omega)]
  by_cases h2 : 1 < v
  · rw [if_pos (Or.inr h2)]
    exact c_no_end hG hI (by simp (disch := first | assumption | omega) only [f_X8_when_23, f_X8_when_52, f_X8_when_137, f_X8_when_119, f_X8_when_c83, bd_X8_when_73, f_X8_when_c65, f_X8_when_c46, f_X8_when_c2, f_X8_when, gt_20, gr_20_0, gt_21, gr_21_0, gt_22, gl_22, gc_22, gct_24, gr_20_6, gt_51, gl_51, hC, h2, c_refM, l_of, n_ltT, n_ltF, n_leT, n_leF, n_eqT, n_eqF, n_neM, n_Mne, n_M0, n_Mlt, n_0leM, nI_clamp, x_in_nI, n_1, nI_add, x_at, x_bd_s, x_bv_s, ↓x_lt, decide_true, decide_false, Bool.and_self, Bool.true_and, Bool.and_true, if_true, if_false, ite_true, ite_false, ↓reduceIte, not_true_eq_false, not_false_eq_true, Nat.reduceAdd, Nat.reduceMul, Nat.reduceEqDiff, eq_self, true_and, and_true, false_and, and_false, Option.some.injEq, Prod.mk.injEq, l_0, l_1, l_2, l_3, l_4, l_5, l_6, l_7, l_8, l_9, l_10, l_100, l_160, ↓m_1, ↓m_2, ↓m_3, ↓m_4, ↓m_5, ↓m_6, ↓m_7])
  rw [if_neg (fun q => by rcases q with q | q; exact nI_pos (by omega) q; omega)]
  by_cases h3 : t < nI 1
  · rw [if_pos (Or.inl h3)]
    exact c_no_end hG hI (by simp (disch := first | assumption | omega) only [f_X8_when_23, f_X8_when_52, f_X8_when_137, f_X8_when_119, f_X8_when_c83, bd_X8_when_73, f_X8_when_c65, f_X8_when_c46, f_X8_when_c2, f_X8_when, gt_20, gr_20_0, gt_21, gr_21_0, gt_22, gl_22, gc_22, gct_24, gr_20_6, gt_51, gl_51, hC, h3, c_refM, l_of, n_ltT, n_ltF, n_leT, n_leF, n_eqT, n_eqF, n_neM, n_Mne, n_M0, n_Mlt, n_0leM, nI_clamp, x_in_nI, n_1, nI_add, x_at, x_bd_s, x_bv_s, ↓x_lt, decide_true, decide_false, Bool.and_self, Bool.true_and, Bool.and_true, if_true, if_false, ite_true, ite_false, ↓reduceIte, not_true_eq_false, not_false_eq_true, Nat.reduceAdd, Nat.reduceMul, Nat.reduceEqDiff, eq_self, true_and, and_true, false_and, and_false, Option.some.injEq, Prod.mk.injEq, l_0, l_1, l_2, l_3, l_4, l_5, l_6, l_7, l_8, l_9, l_10, l_100, l_160, ↓m_1, ↓m_2, ↓m_3, ↓m_4, ↓m_5, ↓m_6, ↓m_7])
  obtain ⟨x, xb, x1, rfl⟩ := nI_dec h3
  rw [nI_clamp (show x < 2 ^ 31 by omega)]
  by_cases h4 : 100 < x
  · rw [if_pos (Or.inr (Or.inl h4))]
    exact c_no_end hG hI (by simp (disch := first | assumption | omega) only [f_X8_when_23, f_X8_when_52, f_X8_when_137, f_X8_when_119, f_X8_when_c83, bd_X8_when_73, f_X8_when_c65, f_X8_when_c46, f_X8_when_c2, f_X8_when, gt_20, gr_20_0, gt_21, gr_21_0, gt_22, gl_22, gc_22, gct_24, gr_20_6, gt_51, gl_51, hC, h4, c_refM, l_of, n_ltT, n_ltF, n_leT, n_leF, n_eqT, n_eqF, n_neM, n_Mne, n_M0, n_Mlt, n_0leM, nI_clamp, x_in_nI, n_1, nI_add, x_at, x_bd_s, x_bv_s, ↓x_lt, decide_true, decide_false, Bool.and_self, Bool.true_and, Bool.and_true, if_true, if_false, ite_true, ite_false, ↓reduceIte, not_true_eq_false, not_false_eq_true, Nat.reduceAdd, Nat.reduceMul, Nat.reduceEqDiff, eq_self, true_and, and_true, false_and, and_false, Option.some.injEq, Prod.mk.injEq, l_0, l_1, l_2, l_3, l_4, l_5, l_6, l_7, l_8, l_9, l_10, l_100, l_160, ↓m_1, ↓m_2, ↓m_3, ↓m_4, ↓m_5, ↓m_6, ↓m_7])
  have q3 := (hc_ j (by omega)).2.2.1
  have y3 := (hW.1.2.1 j (by omega)).2.2.1
  have w2 := hW.1.1.2.2.1
  by_cases h5 : r_s (s_now σ) 1 ≤ r_q (s_now σ) 2 j
  · rw [if_pos (Or.inr (Or.inr h5))]
    exact c_no_end hG hI (by simp (disch := first | assumption | omega) only [f_X8_when_23, f_X8_when_52, f_X8_when_137, f_X8_when_119, f_X8_when_c83, bd_X8_when_73, f_X8_when_c65, f_X8_when_c46, f_X8_when_c2, f_X8_when, f_X4_isThrough, gt_20, gr_20_0, gt_21, gr_21_0, gt_22, gl_22, gc_22, gct_24, gr_20_6, gt_51, gl_51, hC, e1, q3, h5, c_refM, l_of, n_ltT, n_ltF, n_leT, n_leF, n_eqT, n_eqF, n_neM, n_Mne, n_M0, n_Mlt, n_0leM, nI_clamp, x_in_nI, n_1, nI_add, x_at, x_bd_s, x_bv_s, ↓x_lt, decide_true, decide_false, Bool.and_self, Bool.true_and, Bool.and_true, if_true, if_false, ite_true, ite_false, ↓reduceIte, not_true_eq_false, not_false_eq_true, Nat.reduceAdd, Nat.reduceMul, Nat.reduceEqDiff, eq_self, true_and, and_true, false_and, and_false, Option.some.injEq, Prod.mk.injEq, l_0, l_1, l_2, l_3, l_4, l_5, l_6, l_7, l_8, l_9, l_10, l_100, l_160, ↓m_1, ↓m_2, ↓m_3, ↓m_4, ↓m_5, ↓m_6, ↓m_7])
  rw [if_neg (fun q => by rcases q with q | q | q; exact h3 q; exact h4 q; exact h5 q)]
  have g0 := c_tw (s := 1) hG hI hW hB jb (by omega) (by omega)
  have g1 := c_wnl (w := v) (t := x) hG hI hW hB jb (by omega) (by omega) (x - 1) x_fuel 2 1 (fu (by omega)) (by omega) (by omega) (by omega) (by omega)
  refine c_id_end hG hI ?_
  simp (disch := first | assumption | omega) only [f_X8_when_23, f_X8_when_52, f_X8_when_137, f_X8_when_119, f_X8_when_c83, bd_X8_when_73, f_X8_when_c65, f_X8_when_c46, f_X8_when_c2, f_X8_when, f_X4_isThrough, gt_20, gr_20_0, gt_21, gr_21_0, gt_22, gl_22, gc_22, gct_24, gr_20_6, gt_51, gl_51, hC, e1, q3, g0, l_of, n_ltT, n_ltF, n_leT, n_leF, n_eqT, n_eqF, n_neM, n_Mne, n_M0, n_Mlt, n_0leM, nI_clamp, x_in_nI, n_1, nI_add, x_at, x_bd_s, x_bv_s, ↓x_lt, decide_true, decide_false, Bool.and_self, Bool.true_and, Bool.and_true, if_true, if_false, ite_true, ite_false, ↓reduceIte, not_true_eq_false, not_false_eq_true, Nat.reduceAdd, Nat.reduceMul, Nat.reduceEqDiff, eq_self, true_and, and_true, false_and, and_false, Option.some.injEq, Prod.mk.injEq, l_0, l_1, l_2, l_3, l_4, l_5, l_6, l_7, l_8, l_9, l_10, l_100, l_160, ↓m_1, ↓m_2, ↓m_3, ↓m_4, ↓m_5, ↓m_6, ↓m_7]
  exact g1
theorem om_when {B : Nat} {σ : XS} (hW : WFS B σ) (hB : B ≤ 800000) (c t w : Int32) : OpM (f_X9_when 83 c t w) σ (sp_when σ c t w).1 (sp_when σ c t w).2 := by
  intro L b1 b2 M hG hI hMW
  obtain ⟨⟨⟨e0, e1, e2, e3, e4, e5, e6, e7⟩, hc, ht⟩, hi, hsh, hrf, hft, hrn, htr⟩ := id hI
  show EndM L b1 b2 (f_X9_when 83 c t w) M (sp_when σ c t w)
  have hC := m_isC hG hI hW c
  have w0 := hW.1.1.1
  have hc_ := hc
  clear hc
  unfold sp_when
  by_cases hc : c < nI 0 ∨ r_s (s_now σ) 0 ≤ c.toNatClampNeg
  · rw [if_pos hc] at hC ⊢
    exact m_no_end hG hI hMW (by simp (disch := first | assumption | omega) only [f_X9_when_23, f_X9_when_54, f_X9_when_116, f_X9_when_112, f_X9_when_c86, f_X9_when_c77, bd_X9_when_67, f_X9_when_c2, f_X9_when, gt_83, gr_83_9, gt_84, gl_84, gr_83_12, gr_83_14, gt_87, gl_87, gt_89, gl_89, hC, m_noM, l_of, n_ltT, n_ltF, n_leT, n_leF, n_eqT, n_eqF, n_neM, n_Mne, n_M0, n_Mlt, n_0leM, nI_clamp, x_in_nI, n_1, nI_add, x_at, x_bd_s, x_bv_s, ↓x_lt, decide_true, decide_false, Bool.and_self, Bool.true_and, Bool.and_true, if_true, if_false, ite_true, ite_false, ↓reduceIte, not_true_eq_false, not_false_eq_true, Nat.reduceAdd, Nat.reduceMul, Nat.reduceEqDiff, eq_self, true_and, and_true, false_and, and_false, Option.some.injEq, Prod.mk.injEq, l_0, l_1, l_2, l_3, l_4, l_5, l_6, l_7, l_8, l_9, l_10, l_100, l_160, ↓m_1, ↓m_2, ↓m_3, ↓m_4, ↓m_5, ↓m_6, ↓m_7])
  rw [if_neg hc] at hC ⊢
  obtain ⟨j, jb, rfl⟩ : ∃ j, j < r_s (s_now σ) 0 ∧ c = nI j := by
    rcases i_cs c with q | ⟨j, jb, rfl⟩
    · exact absurd (Or.inl q) hc
    · exact ⟨j, by
        rcases Nat.lt_or_ge j (r_s (s_now σ) 0) with q | q
        · exact q
        · exact absurd (Or.inr (by rw [nI_clamp (by omega)]; exact q)) hc, rfl⟩
  rcases i_cs w with h1 | ⟨v, vb, rfl⟩
  · rw [if_pos (Or.inl h1)]
    exact m_no_end hG hI hMW (by simp (disch := first | assumption | omega) only [f_X9_when_23, f_X9_when_54, f_X9_when_116, f_X9_when_112, f_X9_when_c86, f_X9_when_c77, bd_X9_when_67, f_X9_when_c2, f_X9_when, gt_83, gr_83_9, gt_84, gl_84, gr_83_12, gr_83_14, gt_87, gl_87, gt_89, gl_89, hC, h1, m_noM, l_of, n_ltT, n_ltF, n_leT, n_leF, n_eqT, n_eqF, n_neM, n_Mne, n_M0, n_Mlt, n_0leM, nI_clamp, x_in_nI, n_1, nI_add, x_at, x_bd_s, x_bv_s, ↓x_lt, decide_true, decide_false, Bool.and_self, Bool.true_and, Bool.and_true, if_true, if_false, ite_true, ite_false, ↓reduceIte, not_true_eq_false, not_false_eq_true, Nat.reduceAdd, Nat.reduceMul, Nat.reduceEqDiff, eq_self, true_and, and_true, false_and, and_false, Option.some.injEq, Prod.mk.injEq, l_0, l_1, l_2, l_3, l_4, l_5, l_6, l_7, l_8, l_9, l_10, l_100, l_160, ↓m_1, ↓m_2, ↓m_3, ↓m_4, ↓m_5, ↓m_6, ↓m_7])
  rw [nI_clamp (show v < 2 ^ 31 by omega), nI_clamp (show j < 2 ^ 31 by omega)]
  by_cases h2 : 1 < v
  · rw [if_pos (Or.inr h2)]
    exact m_no_end hG hI hMW (by simp (disch := first | assumption | omega) only [f_X9_when_23, f_X9_when_54, f_X9_when_116, f_X9_when_112, f_X9_when_c86, f_X9_when_c77, bd_X9_when_67, f_X9_when_c2, f_X9_when, gt_83, gr_83_9, gt_84, gl_84, gr_83_12, gr_83_14, gt_87, gl_87, gt_89, gl_89, hC, h2, m_noM, l_of, n_ltT, n_ltF, n_leT, n_leF, n_eqT, n_eqF, n_neM, n_Mne, n_M0, n_Mlt, n_0leM, nI_clamp, x_in_nI, n_1, nI_add, x_at, x_bd_s, x_bv_s, ↓x_lt, decide_true, decide_false, Bool.and_self, Bool.true_and, Bool.and_true, if_true, if_false, ite_true, ite_false, ↓reduceIte, not_true_eq_false, not_false_eq_true, Nat.reduceAdd, Nat.reduceMul, Nat.reduceEqDiff, eq_self, true_and, and_true, false_and, and_false, Option.some.injEq, Prod.mk.injEq, l_0, l_1, l_2, l_3, l_4, l_5, l_6, l_7, l_8, l_9, l_10, l_100, l_160, ↓m_1, ↓m_2, ↓m_3, ↓m_4, ↓m_5, ↓m_6, ↓m_7])
  rw [if_neg (fun q => by rcases q with q | q; exact nI_pos (by omega) q; omega)]
  by_cases h3 : t < nI 1
  · rw [if_pos (Or.inl h3)]
    exact m_no_end hG hI hMW (by simp (disch := first | assumption | omega) only [f_X9_when_23, f_X9_when_54, f_X9_when_116, f_X9_when_112, f_X9_when_c86, f_X9_when_c77, bd_X9_when_67, f_X9_when_c2, f_X9_when, gt_83, gr_83_9, gt_84, gl_84, gr_83_12, gr_83_14, gt_87, gl_87, gt_89, gl_89, hC, h3, m_noM, l_of, n_ltT, n_ltF, n_leT, n_leF, n_eqT, n_eqF, n_neM, n_Mne, n_M0, n_Mlt, n_0leM, nI_clamp, x_in_nI, n_1, nI_add, x_at, x_bd_s, x_bv_s, ↓x_lt, decide_true, decide_false, Bool.and_self, Bool.true_and, Bool.and_true, if_true, if_false, ite_true, ite_false, ↓reduceIte, not_true_eq_false, not_false_eq_true, Nat.reduceAdd, Nat.reduceMul, Nat.reduceEqDiff, eq_self, true_and, and_true, false_and, and_false, Option.some.injEq, Prod.mk.injEq, l_0, l_1, l_2, l_3, l_4, l_5, l_6, l_7, l_8, l_9, l_10, l_100, l_160, ↓m_1, ↓m_2, ↓m_3, ↓m_4, ↓m_5, ↓m_6, ↓m_7])
  obtain ⟨x, xb, x1, rfl⟩ := nI_dec h3
  rw [nI_clamp (show x < 2 ^ 31 by omega)]
  by_cases h4 : 100 < x
  · rw [if_pos (Or.inr (Or.inl h4))]
    exact m_no_end hG hI hMW (by simp (disch := first | assumption | omega) only [f_X9_when_23, f_X9_when_54, f_X9_when_116, f_X9_when_112, f_X9_when_c86, f_X9_when_c77, bd_X9_when_67, f_X9_when_c2, f_X9_when, gt_83, gr_83_9, gt_84, gl_84, gr_83_12, gr_83_14, gt_87, gl_87, gt_89, gl_89, hC, h4, m_noM, l_of, n_ltT, n_ltF, n_leT, n_leF, n_eqT, n_eqF, n_neM, n_Mne, n_M0, n_Mlt, n_0leM, nI_clamp, x_in_nI, n_1, nI_add, x_at, x_bd_s, x_bv_s, ↓x_lt, decide_true, decide_false, Bool.and_self, Bool.true_and, Bool.and_true, if_true, if_false, ite_true, ite_false, ↓reduceIte, not_true_eq_false, not_false_eq_true, Nat.reduceAdd, Nat.reduceMul, Nat.reduceEqDiff, eq_self, true_and, and_true, false_and, and_false, Option.some.injEq, Prod.mk.injEq, l_0, l_1, l_2, l_3, l_4, l_5, l_6, l_7, l_8, l_9, l_10, l_100, l_160, ↓m_1, ↓m_2, ↓m_3, ↓m_4, ↓m_5, ↓m_6, ↓m_7])
  have q3 := (hc_ j (by omega)).2.2.1
  have y3 := (hW.1.2.1 j (by omega)).2.2.1
  have y5 := hW.1.2.2.1 j jb
  have w2 := hW.1.1.2.2.1
  have j6 : j < 6 := by omega
  by_cases h5 : r_s (s_now σ) 1 ≤ r_q (s_now σ) 2 j
  · rw [if_pos (Or.inr (Or.inr h5))]
    have h6 : r_q (s_now σ) 2 j = r_s (s_now σ) 1 := by omega
    exact m_no_end hG hI hMW (by simp (disch := first | assumption | omega) only [f_X9_when_23, f_X9_when_54, f_X9_when_116, f_X9_when_112, f_X9_when_c86, f_X9_when_c77, bd_X9_when_67, f_X9_when_c2, f_X9_when, gt_83, gr_83_9, gt_84, gl_84, gr_83_12, gr_83_14, gt_87, gl_87, gt_89, gl_89, hC, e1, q3, h6, m_noM, l_of, n_ltT, n_ltF, n_leT, n_leF, n_eqT, n_eqF, n_neM, n_Mne, n_M0, n_Mlt, n_0leM, nI_clamp, x_in_nI, n_1, nI_add, x_at, x_bd_s, x_bv_s, ↓x_lt, decide_true, decide_false, Bool.and_self, Bool.true_and, Bool.and_true, if_true, if_false, ite_true, ite_false, ↓reduceIte, not_true_eq_false, not_false_eq_true, Nat.reduceAdd, Nat.reduceMul, Nat.reduceEqDiff, eq_self, true_and, and_true, false_and, and_false, Option.some.injEq, Prod.mk.injEq, l_0, l_1, l_2, l_3, l_4, l_5, l_6, l_7, l_8, l_9, l_10, l_100, l_160, ↓m_1, ↓m_2, ↓m_3, ↓m_4, ↓m_5, ↓m_6, ↓m_7])
  rw [if_neg (fun q => by rcases q with q | q | q; exact h3 q; exact h4 q; exact h5 q)]
  have g1 := m_wnl (w := v) (t := x) hG hI hW hB jb (by omega) (by omega) (x - 1) x_fuel 2 1 (fu (by omega)) (by omega) (by omega) (by omega) (by omega)
  refine m_id_end hG hI hMW ?_
  simp (disch := first | assumption | omega) only [f_X9_when_23, f_X9_when_54, f_X9_when_116, f_X9_when_112, f_X9_when_c86, f_X9_when_c77, bd_X9_when_67, f_X9_when_c2, f_X9_when, gt_83, gr_83_9, gt_84, gl_84, gr_83_12, gr_83_14, gt_87, gl_87, gt_89, gl_89, hC, e1, q3, l_of, n_ltT, n_ltF, n_leT, n_leF, n_eqT, n_eqF, n_neM, n_Mne, n_M0, n_Mlt, n_0leM, nI_clamp, x_in_nI, n_1, nI_add, x_at, x_bd_s, x_bv_s, ↓x_lt, decide_true, decide_false, Bool.and_self, Bool.true_and, Bool.and_true, if_true, if_false, ite_true, ite_false, ↓reduceIte, not_true_eq_false, not_false_eq_true, Nat.reduceAdd, Nat.reduceMul, Nat.reduceEqDiff, eq_self, true_and, and_true, false_and, and_false, Option.some.injEq, Prod.mk.injEq, l_0, l_1, l_2, l_3, l_4, l_5, l_6, l_7, l_8, l_9, l_10, l_100, l_160, ↓m_1, ↓m_2, ↓m_3, ↓m_4, ↓m_5, ↓m_6, ↓m_7]
  exact g1
