/-! chance, median, surest -/
def su (g : Nat → Nat) : Nat → Nat → Nat → Nat
  | 0, _, f => f
  | d + 1, k, f => su g d (k + 1) (if g f < g k then k else f)
def fkS (σ : XS) (t c : Nat) : Nat := (fk (r_s (s_now σ) 3) (r_s (s_now σ) 1) (r_s (s_now σ) 2) (r_q (s_now σ) 0 c) (r_q (s_now σ) 1 c) (r_q (s_now σ) 2 c) (r_q (s_now σ) 3 c) t).2
def umS (σ : XS) (p c v m : Nat) : Option Nat := um (r_s (s_now σ) 3) (r_s (s_now σ) 1) p (r_q (s_now σ) 0 c) (r_q (s_now σ) 1 c) (r_q (s_now σ) 2 c) (r_q (s_now σ) 3 c) v m 0
theorem v01 {v : Int32} (h : v < nI 0) : v < nI 1 := by
  rw [Int32.lt_iff_toInt_lt, nI_toInt (by omega)] at h ⊢; omega
def sp_chance (σ : XS) (c t : Int32) : Int32 × XS :=
  if c < nI 0 ∨ r_s (s_now σ) 0 ≤ c.toNatClampNeg then (nM 1, u_rf σ 1) else if t < nI 0 ∨ 400 < t.toNatClampNeg then (nM 6, u_rf σ 6) else (nI (fkS σ t.toNatClampNeg c.toNatClampNeg), σ)
def sp_median (σ : XS) (c v : Int32) : Int32 × XS :=
  if c < nI 0 ∨ r_s (s_now σ) 0 ≤ c.toNatClampNeg then (nM 11, u_rf σ 1) else if v < nI 1 ∨ 1000000 < v.toNatClampNeg then (nM 16, u_rf σ 6) else (oI (umS σ (r_s (s_now σ) 2) c.toNatClampNeg v.toNatClampNeg 401), σ)
def sp_surest (σ : XS) (t : Int32) : Int32 × XS :=
  if r_s (s_now σ) 0 = 0 then (nM 5, u_rf σ 5) else if t < nI 0 ∨ 400 < t.toNatClampNeg then (nM 6, u_rf σ 6) else (nI (su (fkS σ t.toNatClampNeg) (r_s (s_now σ) 0 - 1) 1 0), σ)
section
variable {L : Nat} {b1 b2 : Bool} {σ : XS} {B : Nat} {M : XM}
theorem fkS_b (hW : WFS B σ) {t c : Nat} (hc : c < r_s (s_now σ) 0) : fkS σ t c ≤ 1000000 := by
  obtain ⟨⟨w0, w1, w2, w3, w4, w5, w6, w7⟩, wc, wl, wt⟩ := id hW.1
  exact fk_A w5 (wc c (by omega)).2.1 (wl c hc)
theorem c_chref (hG : Geo L b1 b2 M) (hI : CInv σ M) (hW : WFS B σ) (c v : Int32) : f_X8_chanceRefusal 20 c v M = some (if c < nI 0 ∨ r_s (s_now σ) 0 ≤ c.toNatClampNeg then nM 1 else if v < nI 1 ∨ 1000000 < v.toNatClampNeg then nM 6 else nI 0, M) := by
  have hC := c_isC hG hI hW c
  by_cases hb : c < nI 0 ∨ r_s (s_now σ) 0 ≤ c.toNatClampNeg
  · rw [if_pos hb] at hC ⊢
    simp (disch := first | assumption | omega) only [f_X8_chanceRefusal_c2, f_X8_chanceRefusal, gt_20, hC, l_of, n_ltT, n_ltF, n_leT, n_leF, n_eqT, n_eqF, n_neM, n_Mne, n_M0, n_Mlt, n_0leM, nI_clamp, x_in_nI, n_1, nI_add, x_at, x_bd_s, x_bv_s, ↓x_lt, decide_true, decide_false, Bool.and_self, Bool.true_and, Bool.and_true, if_true, if_false, ite_true, ite_false, ↓reduceIte, not_true_eq_false, not_false_eq_true, Nat.reduceAdd, Nat.reduceMul, Nat.reduceEqDiff, eq_self, true_and, and_true, false_and, and_false, Option.some.injEq, Prod.mk.injEq, l_0, l_1, l_2, l_3, l_4, l_5, l_6, l_7, l_8, l_9, l_10, l_100, l_160, ↓m_1, ↓m_2, ↓m_3, ↓m_4, ↓m_5, ↓m_6, ↓m_7]
  rw [if_neg hb] at hC ⊢
  by_cases hv : v < nI 1
  · rw [if_pos (Or.inl hv)]
    simp (disch := first | assumption | omega) only [f_X8_chanceRefusal_c2, f_X8_chanceRefusal, gt_20, hC, hv, l_of, n_ltT, n_ltF, n_leT, n_leF, n_eqT, n_eqF, n_neM, n_Mne, n_M0, n_Mlt, n_0leM, nI_clamp, x_in_nI, n_1, nI_add, x_at, x_bd_s, x_bv_s, ↓x_lt, decide_true, decide_false, Bool.and_self, Bool.true_and, Bool.and_true, if_true, if_false, ite_true, ite_false, ↓reduceIte, not_true_eq_false, not_false_eq_true, Nat.reduceAdd, Nat.reduceMul, Nat.reduceEqDiff, eq_self, true_and, and_true, false_and, and_false, Option.some.injEq, Prod.mk.injEq, l_0, l_1, l_2, l_3, l_4, l_5, l_6, l_7, l_8, l_9, l_10, l_100, l_160, ↓m_1, ↓m_2, ↓m_3, ↓m_4, ↓m_5, ↓m_6, ↓m_7]
  rcases i_cs v with h1 | ⟨u, ub, rfl⟩
  · exact absurd (v01 h1) hv
  rw [nI_clamp (by omega)]
  have hu : 1 ≤ u := by
    rcases Nat.eq_zero_or_pos u with q | q
    · exact absurd (by rw [q]; decide) hv
    · exact q
  by_cases h2 : 1000000 < u
  · rw [if_pos (Or.inr h2)]
    simp (disch := first | assumption | omega) only [f_X8_chanceRefusal_c2, f_X8_chanceRefusal, gt_20, hC, hv, l_1e6, l_of, n_ltT, n_ltF, n_leT, n_leF, n_eqT, n_eqF, n_neM, n_Mne, n_M0, n_Mlt, n_0leM, nI_clamp, x_in_nI, n_1, nI_add, x_at, x_bd_s, x_bv_s, ↓x_lt, decide_true, decide_false, Bool.and_self, Bool.true_and, Bool.and_true, if_true, if_false, ite_true, ite_false, ↓reduceIte, not_true_eq_false, not_false_eq_true, Nat.reduceAdd, Nat.reduceMul, Nat.reduceEqDiff, eq_self, true_and, and_true, false_and, and_false, Option.some.injEq, Prod.mk.injEq, l_0, l_1, l_2, l_3, l_4, l_5, l_6, l_7, l_8, l_9, l_10, l_100, l_160, ↓m_1, ↓m_2, ↓m_3, ↓m_4, ↓m_5, ↓m_6, ↓m_7]
  · rw [if_neg (fun q => by rcases q with q | q; exact hv q; exact h2 q)]
    simp (disch := first | assumption | omega) only [f_X8_chanceRefusal_c2, f_X8_chanceRefusal, gt_20, hC, hv, l_1e6, l_of, n_ltT, n_ltF, n_leT, n_leF, n_eqT, n_eqF, n_neM, n_Mne, n_M0, n_Mlt, n_0leM, nI_clamp, x_in_nI, n_1, nI_add, x_at, x_bd_s, x_bv_s, ↓x_lt, decide_true, decide_false, Bool.and_self, Bool.true_and, Bool.and_true, if_true, if_false, ite_true, ite_false, ↓reduceIte, not_true_eq_false, not_false_eq_true, Nat.reduceAdd, Nat.reduceMul, Nat.reduceEqDiff, eq_self, true_and, and_true, false_and, and_false, Option.some.injEq, Prod.mk.injEq, l_0, l_1, l_2, l_3, l_4, l_5, l_6, l_7, l_8, l_9, l_10, l_100, l_160, ↓m_1, ↓m_2, ↓m_3, ↓m_4, ↓m_5, ↓m_6, ↓m_7]
theorem oc_chance (hW : WFS B σ) (hB : B ≤ 800000) (c t : Int32) : OpCT (f_X8_chance 20 c t) σ (sp_chance σ c t).1 (sp_chance σ c t).2 := by
  intro L b1 b2 M hG hI hT
  show EndC L (f_X8_chance 20 c t) M (sp_chance σ c t)
  have hC := c_isC hG hI hW c
  unfold sp_chance
  by_cases hb : c < nI 0 ∨ r_s (s_now σ) 0 ≤ c.toNatClampNeg
  · rw [if_pos hb] at hC ⊢
    exact c_no_end hG hI (by simp (disch := first | assumption | omega) only [f_X8_chance_25, f_X8_chance_c2, f_X8_chance, gt_20, gr_20_6, gt_51, gl_51, hC, c_refM, l_of, n_ltT, n_ltF, n_leT, n_leF, n_eqT, n_eqF, n_neM, n_Mne, n_M0, n_Mlt, n_0leM, nI_clamp, x_in_nI, n_1, nI_add, x_at, x_bd_s, x_bv_s, ↓x_lt, decide_true, decide_false, Bool.and_self, Bool.true_and, Bool.and_true, if_true, if_false, ite_true, ite_false, ↓reduceIte, not_true_eq_false, not_false_eq_true, Nat.reduceAdd, Nat.reduceMul, Nat.reduceEqDiff, eq_self, true_and, and_true, false_and, and_false, Option.some.injEq, Prod.mk.injEq, l_0, l_1, l_2, l_3, l_4, l_5, l_6, l_7, l_8, l_9, l_10, l_100, l_160, ↓m_1, ↓m_2, ↓m_3, ↓m_4, ↓m_5, ↓m_6, ↓m_7])
  rw [if_neg hb] at hC ⊢
  obtain ⟨j, jb, rfl⟩ := isC_n hW.1.1.1 hb
  have w0 := hW.1.1.1
  rcases i_cs t with h1 | ⟨v, vb, rfl⟩
  · rw [if_pos (Or.inl h1)]
    exact c_no_end hG hI (by simp (disch := first | assumption | omega) only [f_X8_chance_25, f_X8_chance_c2, f_X8_chance, gt_20, gr_20_6, gt_51, gl_51, hC, h1, c_refM, l_of, n_ltT, n_ltF, n_leT, n_leF, n_eqT, n_eqF, n_neM, n_Mne, n_M0, n_Mlt, n_0leM, nI_clamp, x_in_nI, n_1, nI_add, x_at, x_bd_s, x_bv_s, ↓x_lt, decide_true, decide_false, Bool.and_self, Bool.true_and, Bool.and_true, if_true, if_false, ite_true, ite_false, ↓reduceIte, not_true_eq_false, not_false_eq_true, Nat.reduceAdd, Nat.reduceMul, Nat.reduceEqDiff, eq_self, true_and, and_true, false_and, and_false, Option.some.injEq, Prod.mk.injEq, l_0, l_1, l_2, l_3, l_4, l_5, l_6, l_7, l_8, l_9, l_10, l_100, l_160, ↓m_1, ↓m_2, ↓m_3, ↓m_4, ↓m_5, ↓m_6, ↓m_7])
  rw [nI_clamp (show v < 2 ^ 31 by omega), nI_clamp (show j < 2 ^ 31 by omega)]
  by_cases h2 : 400 < v
  · rw [if_pos (Or.inr h2)]
    exact c_no_end hG hI (by simp (disch := first | assumption | omega) only [f_X8_chance_25, f_X8_chance_c2, f_X8_chance, gt_20, gr_20_6, gt_51, gl_51, hC, h2, l_400, c_refM, l_of, n_ltT, n_ltF, n_leT, n_leF, n_eqT, n_eqF, n_neM, n_Mne, n_M0, n_Mlt, n_0leM, nI_clamp, x_in_nI, n_1, nI_add, x_at, x_bd_s, x_bv_s, ↓x_lt, decide_true, decide_false, Bool.and_self, Bool.true_and, Bool.and_true, if_true, if_false, ite_true, ite_false, ↓reduceIte, not_true_eq_false, not_false_eq_true, Nat.reduceAdd, Nat.reduceMul, Nat.reduceEqDiff, eq_self, true_and, and_true, false_and, and_false, Option.some.injEq, Prod.mk.injEq, l_0, l_1, l_2, l_3, l_4, l_5, l_6, l_7, l_8, l_9, l_10, l_100, l_160, ↓m_1, ↓m_2, ↓m_3, ↓m_4, ↓m_5, ↓m_6, ↓m_7])
  rw [if_neg (fun q => by rcases q with q | q; exact nI_pos (by omega) q; exact h2 q)]
  obtain ⟨M2, b1', g1, g2, g3⟩ := c_chance (t := v) hG hT hI.1 hW.1 hB jb (by omega)
  refine c_w_end g2 hI (g3.mono (fun a k q => by omega)) ?_
  simp (disch := first | assumption | omega) only [f_X8_chance_25, f_X8_chance_c2, f_X8_chance, gt_20, gr_20_0, gr_20_8, gt_55, hC, g1, l_400, fkS, l_of, n_ltT, n_ltF, n_leT, n_leF, n_eqT, n_eqF, n_neM, n_Mne, n_M0, n_Mlt, n_0leM, nI_clamp, x_in_nI, n_1, nI_add, x_at, x_bd_s, x_bv_s, ↓x_lt, decide_true, decide_false, Bool.and_self, Bool.true_and, Bool.and_true, if_true, if_false, ite_true, ite_false, ↓reduceIte, not_true_eq_false, not_false_eq_true, Nat.reduceAdd, Nat.reduceMul, Nat.reduceEqDiff, eq_self, true_and, and_true, false_and, and_false, Option.some.injEq, Prod.mk.injEq, l_0, l_1, l_2, l_3, l_4, l_5, l_6, l_7, l_8, l_9, l_10, l_100, l_160, ↓m_1, ↓m_2, ↓m_3, ↓m_4, ↓m_5, ↓m_6, ↓m_7]
theorem om_chance (hW : WFS B σ) (hB : B ≤ 800000) (c t : Int32) : OpM (f_X9_chance 83 c t) σ (sp_chance σ c t).1 (sp_chance σ c t).2 := by
  intro L b1 b2 M hG hI hMW
  obtain ⟨⟨⟨e0, e1, e2, e3, e4, e5, e6, e7⟩, hc, ht⟩, hi, hsh, hrf, hft, hrn, htr⟩ := id hI
  show EndM L b1 b2 (f_X9_chance 83 c t) M (sp_chance σ c t)
  have hC := m_isC hG hI hW c
  obtain ⟨⟨w0, w1, w2, w3, w4, w5, w6, w7⟩, wc, wl, wt⟩ := id hW.1
  unfold sp_chance
  by_cases hb : c < nI 0 ∨ r_s (s_now σ) 0 ≤ c.toNatClampNeg
  · rw [if_pos hb] at hC ⊢
    exact m_no_end hG hI hMW (by simp (disch := first | assumption | omega) only [f_X9_chance_34, f_X9_chance_c2, f_X9_chance, gt_83, gr_83_9, gt_84, gl_84, hC, m_noM, l_of, n_ltT, n_ltF, n_leT, n_leF, n_eqT, n_eqF, n_neM, n_Mne, n_M0, n_Mlt, n_0leM, nI_clamp, x_in_nI, n_1, nI_add, x_at, x_bd_s, x_bv_s, ↓x_lt, decide_true, decide_false, Bool.and_self, Bool.true_and, Bool.and_true, if_true, if_false, ite_true, ite_false, ↓reduceIte, not_true_eq_false, not_false_eq_true, Nat.reduceAdd, Nat.reduceMul, Nat.reduceEqDiff, eq_self, true_and, and_true, false_and, and_false, Option.some.injEq, Prod.mk.injEq, l_0, l_1, l_2, l_3, l_4, l_5, l_6, l_7, l_8, l_9, l_10, l_100, l_160, ↓m_1, ↓m_2, ↓m_3, ↓m_4, ↓m_5, ↓m_6, ↓m_7])
  rw [if_neg hb] at hC ⊢
  obtain ⟨j, jb, rfl⟩ := isC_n w0 hb
  rcases i_cs t with h1 | ⟨v, vb, rfl⟩
  · rw [if_pos (Or.inl h1)]
    exact m_no_end hG hI hMW (by simp (disch := first | assumption | omega) only [f_X9_chance_34, f_X9_chance_c2, f_X9_chance, gt_83, gr_83_9, gt_84, gl_84, hC, h1, m_noM, l_of, n_ltT, n_ltF, n_leT, n_leF, n_eqT, n_eqF, n_neM, n_Mne, n_M0, n_Mlt, n_0leM, nI_clamp, x_in_nI, n_1, nI_add, x_at, x_bd_s, x_bv_s, ↓x_lt, decide_true, decide_false, Bool.and_self, Bool.true_and, Bool.and_true, if_true, if_false, ite_true, ite_false, ↓reduceIte, not_true_eq_false, not_false_eq_true, Nat.reduceAdd, Nat.reduceMul, Nat.reduceEqDiff, eq_self, true_and, and_true, false_and, and_false, Option.some.injEq, Prod.mk.injEq, l_0, l_1, l_2, l_3, l_4, l_5, l_6, l_7, l_8, l_9, l_10, l_100, l_160, ↓m_1, ↓m_2, ↓m_3, ↓m_4, ↓m_5, ↓m_6, ↓m_7])
  rw [nI_clamp (show v < 2 ^ 31 by omega), nI_clamp (show j < 2 ^ 31 by omega)]
  by_cases h2 : 400 < v
  · rw [if_pos (Or.inr h2)]
    exact m_no_end hG hI hMW (by simp (disch := first | assumption | omega) only [f_X9_chance_34, f_X9_chance_c2, f_X9_chance, gt_83, gr_83_9, gt_84, gl_84, hC, h2, l_400, m_noM, l_of, n_ltT, n_ltF, n_leT, n_leF, n_eqT, n_eqF, n_neM, n_Mne, n_M0, n_Mlt, n_0leM, nI_clamp, x_in_nI, n_1, nI_add, x_at, x_bd_s, x_bv_s, ↓x_lt, decide_true, decide_false, Bool.and_self, Bool.true_and, Bool.and_true, if_true, if_false, ite_true, ite_false, ↓reduceIte, not_true_eq_false, not_false_eq_true, Nat.reduceAdd, Nat.reduceMul, Nat.reduceEqDiff, eq_self, true_and, and_true, false_and, and_false, Option.some.injEq, Prod.mk.injEq, l_0, l_1, l_2, l_3, l_4, l_5, l_6, l_7, l_8, l_9, l_10, l_100, l_160, ↓m_1, ↓m_2, ↓m_3, ↓m_4, ↓m_5, ↓m_6, ↓m_7])
  rw [if_neg (fun q => by rcases q with q | q; exact nI_pos (by omega) q; exact h2 q)]
  obtain ⟨q1, q2, q3, q4, q5⟩ := hc j (by omega)
  obtain ⟨y1, y2, y3, y4⟩ := wc j (by omega)
  obtain ⟨M2, g1, g2, g3⟩ := m_chance (L := L) (b1 := b1) (b2 := b2) (t := v) (show j < 6 by omega) w2 w5 y1 y2 w3 w4 (wl j jb) (by omega) (by omega) hG e1 e2 e3 q1 q2 q3 q5
  refine m_w_end g2 hI hMW (g3.mono (fun a k q => by omega)) ?_
  simp (disch := first | assumption | omega) only [f_X9_chance_34, f_X9_chance_c2, f_X9_chance, gt_83, hC, g1, l_400, fkS, l_of, n_ltT, n_ltF, n_leT, n_leF, n_eqT, n_eqF, n_neM, n_Mne, n_M0, n_Mlt, n_0leM, nI_clamp, x_in_nI, n_1, nI_add, x_at, x_bd_s, x_bv_s, ↓x_lt, decide_true, decide_false, Bool.and_self, Bool.true_and, Bool.and_true, if_true, if_false, ite_true, ite_false, ↓reduceIte, not_true_eq_false, not_false_eq_true, Nat.reduceAdd, Nat.reduceMul, Nat.reduceEqDiff, eq_self, true_and, and_true, false_and, and_false, Option.some.injEq, Prod.mk.injEq, l_0, l_1, l_2, l_3, l_4, l_5, l_6, l_7, l_8, l_9, l_10, l_100, l_160, ↓m_1, ↓m_2, ↓m_3, ↓m_4, ↓m_5, ↓m_6, ↓m_7]
theorem oc_median (hW : WFS B σ) (hB : B ≤ 800000) (c v : Int32) : OpCT (f_X8_median 20 c v) σ (sp_median σ c v).1 (sp_median σ c v).2 := by
  intro L b1 b2 M hG hI hT
  show EndC L (f_X8_median 20 c v) M (sp_median σ c v)
  have hC := c_chref hG hI hW c v
  have e3 := hI.1.1.2.2.1
  obtain ⟨⟨w0, w1, w2, w3, w4, w5, w6, w7⟩, wc, wl, wt⟩ := id hW.1
  unfold sp_median
  by_cases hb : c < nI 0 ∨ r_s (s_now σ) 0 ≤ c.toNatClampNeg
  · rw [if_pos hb] at hC ⊢
    exact c_no_end hG hI (by simp (disch := first | assumption | omega) only [f_X8_median_c13, f_X8_median_c3, f_X8_median, gt_20, gr_20_6, gt_51, gl_51, hC, c_refM, n_sub10, l_of, n_ltT, n_ltF, n_leT, n_leF, n_eqT, n_eqF, n_neM, n_Mne, n_M0, n_Mlt, n_0leM, nI_clamp, x_in_nI, n_1, nI_add, x_at, x_bd_s, x_bv_s, ↓x_lt, decide_true, decide_false, Bool.and_self, Bool.true_and, Bool.and_true, if_true, if_false, ite_true, ite_false, ↓reduceIte, not_true_eq_false, not_false_eq_true, Nat.reduceAdd, Nat.reduceMul, Nat.reduceEqDiff, eq_self, true_and, and_true, false_and, and_false, Option.some.injEq, Prod.mk.injEq, l_0, l_1, l_2, l_3, l_4, l_5, l_6, l_7, l_8, l_9, l_10, l_100, l_160, ↓m_1, ↓m_2, ↓m_3, ↓m_4, ↓m_5, ↓m_6, ↓m_7])
  rw [if_neg hb] at hC ⊢
  by_cases hv : v < nI 1 ∨ 1000000 < v.toNatClampNeg
  · rw [if_pos hv] at hC ⊢
    exact c_no_end hG hI (by simp (disch := first | assumption | omega) only [f_X8_median_c13, f_X8_median_c3, f_X8_median, gt_20, gr_20_6, gt_51, gl_51, hC, c_refM, n_sub10, l_of, n_ltT, n_ltF, n_leT, n_leF, n_eqT, n_eqF, n_neM, n_Mne, n_M0, n_Mlt, n_0leM, nI_clamp, x_in_nI, n_1, nI_add, x_at, x_bd_s, x_bv_s, ↓x_lt, decide_true, decide_false, Bool.and_self, Bool.true_and, Bool.and_true, if_true, if_false, ite_true, ite_false, ↓reduceIte, not_true_eq_false, not_false_eq_true, Nat.reduceAdd, Nat.reduceMul, Nat.reduceEqDiff, eq_self, true_and, and_true, false_and, and_false, Option.some.injEq, Prod.mk.injEq, l_0, l_1, l_2, l_3, l_4, l_5, l_6, l_7, l_8, l_9, l_10, l_100, l_160, ↓m_1, ↓m_2, ↓m_3, ↓m_4, ↓m_5, ↓m_6, ↓m_7])
  rw [if_neg hv] at hC ⊢
  obtain ⟨j, jb, rfl⟩ := isC_n w0 hb
  rcases i_cs v with h1 | ⟨u, ub, rfl⟩
  · exact absurd (Or.inl (v01 h1)) hv
  rw [nI_clamp (show u < 2 ^ 31 by omega)] at hv ⊢
  rw [nI_clamp (show j < 2 ^ 31 by omega)]
  obtain ⟨M2, b1', g1, g2, g3⟩ := c_median (v := u) (m := 400) hG hT hI.1 hW.1 hB jb (Nat.le_of_not_lt (fun q => hv (Or.inr q))) w3 w4 (by omega)
  refine c_w_end g2 hI (g3.mono (fun a k q => by omega)) ?_
  simp (disch := first | assumption | omega) only [f_X8_median_c13, f_X8_median_c3, f_X8_median, gt_20, gr_20_0, gr_20_8, gt_21, gt_55, hC, e3, l_400, g1, umS, l_of, n_ltT, n_ltF, n_leT, n_leF, n_eqT, n_eqF, n_neM, n_Mne, n_M0, n_Mlt, n_0leM, nI_clamp, x_in_nI, n_1, nI_add, x_at, x_bd_s, x_bv_s, ↓x_lt, decide_true, decide_false, Bool.and_self, Bool.true_and, Bool.and_true, if_true, if_false, ite_true, ite_false, ↓reduceIte, not_true_eq_false, not_false_eq_true, Nat.reduceAdd, Nat.reduceMul, Nat.reduceEqDiff, eq_self, true_and, and_true, false_and, and_false, Option.some.injEq, Prod.mk.injEq, l_0, l_1, l_2, l_3, l_4, l_5, l_6, l_7, l_8, l_9, l_10, l_100, l_160, ↓m_1, ↓m_2, ↓m_3, ↓m_4, ↓m_5, ↓m_6, ↓m_7]
theorem om_median (hW : WFS B σ) (hB : B ≤ 800000) (c v : Int32) : OpM (f_X9_median 83 c v) σ (sp_median σ c v).1 (sp_median σ c v).2 := by
  intro L b1 b2 M hG hI hMW
  obtain ⟨⟨⟨e0, e1, e2, e3, e4, e5, e6, e7⟩, hc, ht⟩, hi, hsh, hrf, hft, hrn, htr⟩ := id hI
  show EndM L b1 b2 (f_X9_median 83 c v) M (sp_median σ c v)
  have hC := m_isC hG hI hW c
  obtain ⟨⟨w0, w1, w2, w3, w4, w5, w6, w7⟩, wc, wl, wt⟩ := id hW.1
  unfold sp_median
  by_cases hb : c < nI 0 ∨ r_s (s_now σ) 0 ≤ c.toNatClampNeg
  · rw [if_pos hb] at hC ⊢
    exact m_no_end hG hI hMW (by simp (disch := first | assumption | omega) only [f_X9_median_34, f_X9_median_c2, f_X9_median, gt_83, gr_83_9, gt_84, gl_84, hC, m_noTen, l_of, n_ltT, n_ltF, n_leT, n_leF, n_eqT, n_eqF, n_neM, n_Mne, n_M0, n_Mlt, n_0leM, nI_clamp, x_in_nI, n_1, nI_add, x_at, x_bd_s, x_bv_s, ↓x_lt, decide_true, decide_false, Bool.and_self, Bool.true_and, Bool.and_true, if_true, if_false, ite_true, ite_false, ↓reduceIte, not_true_eq_false, not_false_eq_true, Nat.reduceAdd, Nat.reduceMul, Nat.reduceEqDiff, eq_self, true_and, and_true, false_and, and_false, Option.some.injEq, Prod.mk.injEq, l_0, l_1, l_2, l_3, l_4, l_5, l_6, l_7, l_8, l_9, l_10, l_100, l_160, ↓m_1, ↓m_2, ↓m_3, ↓m_4, ↓m_5, ↓m_6, ↓m_7])
  rw [if_neg hb] at hC ⊢
  obtain ⟨j, jb, rfl⟩ := isC_n w0 hb
  by_cases hv1 : v < nI 1
  · rw [if_pos (Or.inl hv1)]
    exact m_no_end hG hI hMW (by simp (disch := first | assumption | omega) only [f_X9_median_34, f_X9_median_c2, f_X9_median, gt_83, gr_83_9, gt_84, gl_84, hC, hv1, m_noTen, l_of, n_ltT, n_ltF, n_leT, n_leF, n_eqT, n_eqF, n_neM, n_Mne, n_M0, n_Mlt, n_0leM, nI_clamp, x_in_nI, n_1, nI_add, x_at, x_bd_s, x_bv_s, ↓x_lt, decide_true, decide_false, Bool.and_self, Bool.true_and, Bool.and_true, if_true, if_false, ite_true, ite_false, ↓reduceIte, not_true_eq_false, not_false_eq_true, Nat.reduceAdd, Nat.reduceMul, Nat.reduceEqDiff, eq_self, true_and, and_true, false_and, and_false, Option.some.injEq, Prod.mk.injEq, l_0, l_1, l_2, l_3, l_4, l_5, l_6, l_7, l_8, l_9, l_10, l_100, l_160, ↓m_1, ↓m_2, ↓m_3, ↓m_4, ↓m_5, ↓m_6, ↓m_7])
  rcases i_cs v with h1 | ⟨u, ub, rfl⟩
  · exact absurd (v01 h1) hv1
  rw [nI_clamp (show u < 2 ^ 31 by omega), nI_clamp (show j < 2 ^ 31 by omega)]
  by_cases h2 : 1000000 < u
  · rw [if_pos (Or.inr h2)]
    exact m_no_end hG hI hMW (by simp (disch := first | assumption | omega) only [f_X9_median_34, f_X9_median_c2, f_X9_median, gt_83, gr_83_9, gt_84, gl_84, hC, hv1, h2, l_1e6, m_noTen, l_of, n_ltT, n_ltF, n_leT, n_leF, n_eqT, n_eqF, n_neM, n_Mne, n_M0, n_Mlt, n_0leM, nI_clamp, x_in_nI, n_1, nI_add, x_at, x_bd_s, x_bv_s, ↓x_lt, decide_true, decide_false, Bool.and_self, Bool.true_and, Bool.and_true, if_true, if_false, ite_true, ite_false, ↓reduceIte, not_true_eq_false, not_false_eq_true, Nat.reduceAdd, Nat.reduceMul, Nat.reduceEqDiff, eq_self, true_and, and_true, false_and, and_false, Option.some.injEq, Prod.mk.injEq, l_0, l_1, l_2, l_3, l_4, l_5, l_6, l_7, l_8, l_9, l_10, l_100, l_160, ↓m_1, ↓m_2, ↓m_3, ↓m_4, ↓m_5, ↓m_6, ↓m_7])
  rw [if_neg (fun q => by rcases q with q | q; exact hv1 q; exact h2 q)]
  obtain ⟨q1, q2, q3, q4, q5⟩ := hc j (by omega)
  obtain ⟨y1, y2, y3, y4⟩ := wc j (by omega)
  obtain ⟨M2, g1, g2, g3⟩ := m_median (L := L) (b1 := b1) (b2 := b2) (v := u) (show j < 6 by omega) w2 w5 y1 y2 w3 w4 (wl j jb) (by omega) (by omega) hG e1 e2 e3 q1 q2 q3 q5
  refine m_w_end g2 hI hMW (g3.mono (fun a k q => by omega)) ?_
  simp (disch := first | assumption | omega) only [f_X9_median_34, f_X9_median_c2, f_X9_median, gt_83, hC, g1, hv1, l_1e6, umS, l_of, n_ltT, n_ltF, n_leT, n_leF, n_eqT, n_eqF, n_neM, n_Mne, n_M0, n_Mlt, n_0leM, nI_clamp, x_in_nI, n_1, nI_add, x_at, x_bd_s, x_bv_s, ↓x_lt, decide_true, decide_false, Bool.and_self, Bool.true_and, Bool.and_true, if_true, if_false, ite_true, ite_false, ↓reduceIte, not_true_eq_false, not_false_eq_true, Nat.reduceAdd, Nat.reduceMul, Nat.reduceEqDiff, eq_self, true_and, and_true, false_and, and_false, Option.some.injEq, Prod.mk.injEq, l_0, l_1, l_2, l_3, l_4, l_5, l_6, l_7, l_8, l_9, l_10, l_100, l_160, ↓m_1, ↓m_2, ↓m_3, ↓m_4, ↓m_5, ↓m_6, ↓m_7]
/-! the surest -/
theorem c_sur {t : Nat} (hW : WFS B σ) (hB : B ≤ 800000) (ht : t ≤ 400) (d : Nat) : ∀ (F k f : Nat) (b1 : Bool) (M : XM), d < F → Geo L b1 b2 M → CT M → CR 21 (s_now σ) M → f < k → k + d = r_s (s_now σ) 0 →
    ∃ M' b1', lp_X8_surest_42 F 20 (nI t) (nI f) (nI (fkS σ t f)) (nI k) M = some (nI (su (fkS σ t) d k f), M') ∧ Geo L b1' b2 M' ∧ Fr PX M M' := by
  have w0 := hW.1.1.1
  induction d with
  | zero =>
    intro F k f b1 M hF hG hT hR hf hk
    obtain ⟨F, rfl⟩ : ∃ i, F = i + 1 := ⟨F - 1, by omega⟩
    have e0 := hR.1.1
    refine ⟨M, b1, ?_, hG, Fr.rf⟩
    rw [s_lp_X8_surest_42]
    simp (disch := first | assumption | omega) only [bd_X8_surest_42, gt_20, gr_20_0, gt_21, e0, su, l_of, n_ltT, n_ltF, n_leT, n_leF, n_eqT, n_eqF, n_neM, n_Mne, n_M0, n_Mlt, n_0leM, nI_clamp, x_in_nI, n_1, nI_add, x_at, x_bd_s, x_bv_s, ↓x_lt, decide_true, decide_false, Bool.and_self, Bool.true_and, Bool.and_true, if_true, if_false, ite_true, ite_false, ↓reduceIte, not_true_eq_false, not_false_eq_true, Nat.reduceAdd, Nat.reduceMul, Nat.reduceEqDiff, eq_self, true_and, and_true, false_and, and_false, Option.some.injEq, Prod.mk.injEq, l_0, l_1, l_2, l_3, l_4, l_5, l_6, l_7, l_8, l_9, l_10, l_100, l_160, ↓m_1, ↓m_2, ↓m_3, ↓m_4, ↓m_5, ↓m_6, ↓m_7]
  | succ d ih =>
    intro F k f b1 M hF hG hT hR hf hk
    obtain ⟨F, rfl⟩ : ∃ i, F = i + 1 := ⟨F - 1, by omega⟩
    have e0 := hR.1.1
    have z1 := fkS_b hW (t := t) (c := f) (by omega)
    have z2 := fkS_b hW (t := t) (c := k) (by omega)
    obtain ⟨M1, b1', g1, g2, g3⟩ := c_chance (t := t) hG hT hR hW.1 hB (show k < r_s (s_now σ) 0 by omega) ht
    obtain ⟨M2, b1'', u1, u2, u3⟩ := ih F (k + 1) (if fkS σ t f < fkS σ t k then k else f) b1' M1 (by omega) g2 (hT.ag (g3.agr (fun a k h1 h2 q => by omega))) (hR.ag (g3.agr (fun a k h1 h2 q => by omega))) (by split <;> omega) (by omega)
    refine ⟨M2, b1'', ?_, u2, g3.tr u3⟩
    have g1 : f_X1_behind 55 21 (nI k) (nI t) M = some (nI (fkS σ t k), M1) := g1
    rw [s_lp_X8_surest_42]
    by_cases q : fkS σ t f < fkS σ t k
    · rw [if_pos q] at u1
      simp (disch := first | assumption | omega) only [bd_X8_surest_42, f_X8_surest_c65, f_X8_surest_85, gt_20, gr_20_0, gr_20_8, gt_21, gt_55, e0, g1, su, q, l_of, n_ltT, n_ltF, n_leT, n_leF, n_eqT, n_eqF, n_neM, n_Mne, n_M0, n_Mlt, n_0leM, nI_clamp, x_in_nI, n_1, nI_add, x_at, x_bd_s, x_bv_s, ↓x_lt, decide_true, decide_false, Bool.and_self, Bool.true_and, Bool.and_true, if_true, if_false, ite_true, ite_false, ↓reduceIte, not_true_eq_false, not_false_eq_true, Nat.reduceAdd, Nat.reduceMul, Nat.reduceEqDiff, eq_self, true_and, and_true, false_and, and_false, Option.some.injEq, Prod.mk.injEq, l_0, l_1, l_2, l_3, l_4, l_5, l_6, l_7, l_8, l_9, l_10, l_100, l_160, ↓m_1, ↓m_2, ↓m_3, ↓m_4, ↓m_5, ↓m_6, ↓m_7]
      exact u1
    · rw [if_neg q] at u1
      simp (disch := first | assumption | omega) only [bd_X8_surest_42, f_X8_surest_c65, f_X8_surest_85, gt_20, gr_20_0, gr_20_8, gt_21, gt_55, e0, g1, su, q, l_of, n_ltT, n_ltF, n_leT, n_leF, n_eqT, n_eqF, n_neM, n_Mne, n_M0, n_Mlt, n_0leM, nI_clamp, x_in_nI, n_1, nI_add, x_at, x_bd_s, x_bv_s, ↓x_lt, decide_true, decide_false, Bool.and_self, Bool.true_and, Bool.and_true, if_true, if_false, ite_true, ite_false, ↓reduceIte, not_true_eq_false, not_false_eq_true, Nat.reduceAdd, Nat.reduceMul, Nat.reduceEqDiff, eq_self, true_and, and_true, false_and, and_false, Option.some.injEq, Prod.mk.injEq, l_0, l_1, l_2, l_3, l_4, l_5, l_6, l_7, l_8, l_9, l_10, l_100, l_160, ↓m_1, ↓m_2, ↓m_3, ↓m_4, ↓m_5, ↓m_6, ↓m_7]
      exact u1
theorem m_sur {t : Nat} (hW : WFS B σ) (hB : B ≤ 800000) (ht : t ≤ 400) (d : Nat) : ∀ (F k f : Nat) (M : XM), d < F → Geo L b1 b2 M → MR (s_now σ) M → f < k → k + d = r_s (s_now σ) 0 →
    ∃ M', lp_X9_surest_39 F 83 (nI t) (nI f) (nI (fkS σ t f)) (nI k) M = some (nI (su (fkS σ t) d k f), M') ∧ Geo L b1 b2 M' ∧ Fr PP M M' := by
  obtain ⟨⟨w0, w1, w2, w3, w4, w5, w6, w7⟩, wc, wl, wt⟩ := id hW.1
  induction d with
  | zero =>
    intro F k f M hF hG hR hf hk
    obtain ⟨F, rfl⟩ : ∃ i, F = i + 1 := ⟨F - 1, by omega⟩
    have e0 := hR.1.1
    refine ⟨M, ?_, hG, Fr.rf⟩
    rw [s_lp_X9_surest_39]
    simp (disch := first | assumption | omega) only [bd_X9_surest_39, gt_83, e0, su, l_of, n_ltT, n_ltF, n_leT, n_leF, n_eqT, n_eqF, n_neM, n_Mne, n_M0, n_Mlt, n_0leM, nI_clamp, x_in_nI, n_1, nI_add, x_at, x_bd_s, x_bv_s, ↓x_lt, decide_true, decide_false, Bool.and_self, Bool.true_and, Bool.and_true, if_true, if_false, ite_true, ite_false, ↓reduceIte, not_true_eq_false, not_false_eq_true, Nat.reduceAdd, Nat.reduceMul, Nat.reduceEqDiff, eq_self, true_and, and_true, false_and, and_false, Option.some.injEq, Prod.mk.injEq, l_0, l_1, l_2, l_3, l_4, l_5, l_6, l_7, l_8, l_9, l_10, l_100, l_160, ↓m_1, ↓m_2, ↓m_3, ↓m_4, ↓m_5, ↓m_6, ↓m_7]
  | succ d ih =>
    intro F k f M hF hG hR hf hk
    obtain ⟨F, rfl⟩ : ∃ i, F = i + 1 := ⟨F - 1, by omega⟩
    obtain ⟨⟨e0, e1, e2, e3, e4, e5, e6, e7⟩, hc, -⟩ := id hR
    have z1 := fkS_b hW (t := t) (c := f) (by omega)
    have z2 := fkS_b hW (t := t) (c := k) (by omega)
    obtain ⟨q1, q2, q3, q4, q5⟩ := hc k (by omega)
    obtain ⟨y1, y2, y3, y4⟩ := wc k (by omega)
    obtain ⟨M1, g1, g2, g3⟩ := m_chance (L := L) (b1 := b1) (b2 := b2) (t := t) (show k < 6 by omega) w2 w5 y1 y2 w3 w4 (wl k (by omega)) (by omega) ht hG e1 e2 e3 q1 q2 q3 q5
    obtain ⟨M2, u1, u2, u3⟩ := ih F (k + 1) (if fkS σ t f < fkS σ t k then k else f) M1 (by omega) g2 (hR.ag (fun a j h => g3.1 _ _ (by omega))) (by split <;> omega) (by omega)
    refine ⟨M2, ?_, u2, g3.tr u3⟩
    have g1 : f_X9_chanceOf 83 (nI k) (nI t) M = some (nI (fkS σ t k), M1) := g1
    rw [s_lp_X9_surest_39]
    by_cases q : fkS σ t f < fkS σ t k
    · rw [if_pos q] at u1
      simp (disch := first | assumption | omega) only [bd_X9_surest_39, f_X9_surest_c52, f_X9_surest_72, gt_83, e0, g1, su, q, l_of, n_ltT, n_ltF, n_leT, n_leF, n_eqT, n_eqF, n_neM, n_Mne, n_M0, n_Mlt, n_0leM, nI_clamp, x_in_nI, n_1, nI_add, x_at, x_bd_s, x_bv_s, ↓x_lt, decide_true, decide_false, Bool.and_self, Bool.true_and, Bool.and_true, if_true, if_false, ite_true, ite_false, ↓reduceIte, not_true_eq_false, not_false_eq_true, Nat.reduceAdd, Nat.reduceMul, Nat.reduceEqDiff, eq_self, true_and, and_true, false_and, and_false, Option.some.injEq, Prod.mk.injEq, l_0, l_1, l_2, l_3, l_4, l_5, l_6, l_7, l_8, l_9, l_10, l_100, l_160, ↓m_1, ↓m_2, ↓m_3, ↓m_4, ↓m_5, ↓m_6, ↓m_7]
      exact u1
    · rw [if_neg q] at u1
      simp (disch := first | assumption | omega) only [bd_X9_surest_39, f_X9_surest_c52, f_X9_surest_72, gt_83, e0, g1, su, q, l_of, n_ltT, n_ltF, n_leT, n_leF, n_eqT, n_eqF, n_neM, n_Mne, n_M0, n_Mlt, n_0leM, nI_clamp, x_in_nI, n_1, nI_add, x_at, x_bd_s, x_bv_s, ↓x_lt, decide_true, decide_false, Bool.and_self, Bool.true_and, Bool.and_true, if_true, if_false, ite_true, ite_false, ↓reduceIte, not_true_eq_false, not_false_eq_true, Nat.reduceAdd, Nat.reduceMul, Nat.reduceEqDiff, eq_self, true_and, and_true, false_and, and_false, Option.some.injEq, Prod.mk.injEq, l_0, l_1, l_2, l_3, l_4, l_5, l_6, l_7, l_8, l_9, l_10, l_100, l_160, ↓m_1, ↓m_2, ↓m_3, ↓m_4, ↓m_5, ↓m_6, ↓m_7]
      exact u1
theorem oc_surest (hW : WFS B σ) (hB : B ≤ 800000) (t : Int32) : OpCT (f_X8_surest 20 t) σ (sp_surest σ t).1 (sp_surest σ t).2 := by
  intro L b1 b2 M hG hI hT
  show EndC L (f_X8_surest 20 t) M (sp_surest σ t)
  have e0 := hI.1.1.1
  have w0 := hW.1.1.1
  unfold sp_surest
  by_cases h0 : r_s (s_now σ) 0 = 0
  · rw [if_pos h0]
    rw [h0] at e0
    exact c_no_end hG hI (by simp (disch := first | assumption | omega) only [f_X8_surest, f_X8_surest_28, gt_20, gr_20_0, gt_21, e0, c_refM, l_of, n_ltT, n_ltF, n_leT, n_leF, n_eqT, n_eqF, n_neM, n_Mne, n_M0, n_Mlt, n_0leM, nI_clamp, x_in_nI, n_1, nI_add, x_at, x_bd_s, x_bv_s, ↓x_lt, decide_true, decide_false, Bool.and_self, Bool.true_and, Bool.and_true, if_true, if_false, ite_true, ite_false, ↓reduceIte, not_true_eq_false, not_false_eq_true, Nat.reduceAdd, Nat.reduceMul, Nat.reduceEqDiff, eq_self, true_and, and_true, false_and, and_false, Option.some.injEq, Prod.mk.injEq, l_0, l_1, l_2, l_3, l_4, l_5, l_6, l_7, l_8, l_9, l_10, l_100, l_160, ↓m_1, ↓m_2, ↓m_3, ↓m_4, ↓m_5, ↓m_6, ↓m_7])
  rw [if_neg h0]
  rcases i_cs t with h1 | ⟨v, vb, rfl⟩
  · rw [if_pos (Or.inl h1)]
    exact c_no_end hG hI (by simp (disch := first | assumption | omega) only [f_X8_surest, f_X8_surest_28, gt_20, gr_20_0, gt_21, e0, h0, h1, c_refM, l_of, n_ltT, n_ltF, n_leT, n_leF, n_eqT, n_eqF, n_neM, n_Mne, n_M0, n_Mlt, n_0leM, nI_clamp, x_in_nI, n_1, nI_add, x_at, x_bd_s, x_bv_s, ↓x_lt, decide_true, decide_false, Bool.and_self, Bool.true_and, Bool.and_true, if_true, if_false, ite_true, ite_false, ↓reduceIte, not_true_eq_false, not_false_eq_true, Nat.reduceAdd, Nat.reduceMul, Nat.reduceEqDiff, eq_self, true_and, and_true, false_and, and_false, Option.some.injEq, Prod.mk.injEq, l_0, l_1, l_2, l_3, l_4, l_5, l_6, l_7, l_8, l_9, l_10, l_100, l_160, ↓m_1, ↓m_2, ↓m_3, ↓m_4, ↓m_5, ↓m_6, ↓m_7])
  rw [nI_clamp (show v < 2 ^ 31 by omega)]
  by_cases h2 : 400 < v
  · rw [if_pos (Or.inr h2)]
    exact c_no_end hG hI (by simp (disch := first | assumption | omega) only [f_X8_surest, f_X8_surest_28, gt_20, gr_20_0, gt_21, e0, h0, h2, l_400, c_refM, l_of, n_ltT, n_ltF, n_leT, n_leF, n_eqT, n_eqF, n_neM, n_Mne, n_M0, n_Mlt, n_0leM, nI_clamp, x_in_nI, n_1, nI_add, x_at, x_bd_s, x_bv_s, ↓x_lt, decide_true, decide_false, Bool.and_self, Bool.true_and, Bool.and_true, if_true, if_false, ite_true, ite_false, ↓reduceIte, not_true_eq_false, not_false_eq_true, Nat.reduceAdd, Nat.reduceMul, Nat.reduceEqDiff, eq_self, true_and, and_true, false_and, and_false, Option.some.injEq, Prod.mk.injEq, l_0, l_1, l_2, l_3, l_4, l_5, l_6, l_7, l_8, l_9, l_10, l_100, l_160, ↓m_1, ↓m_2, ↓m_3, ↓m_4, ↓m_5, ↓m_6, ↓m_7])
  rw [if_neg (fun q => by rcases q with q | q; exact nI_pos (by omega) q; exact h2 q)]
  obtain ⟨M1, b1', g1, g2, g3⟩ := c_chance (t := v) hG hT hI.1 hW.1 hB (show 0 < r_s (s_now σ) 0 by omega) (by omega)
  obtain ⟨M2, b1'', u1, u2, u3⟩ := c_sur (L := L) (b2 := b2) (t := v) hW hB (by omega) (r_s (s_now σ) 0 - 1) 999999 1 0 b1' M1 (by omega) g2 (hT.ag (g3.agr (fun a k h1 h2 q => by omega))) (hI.1.ag (g3.agr (fun a k h1 h2 q => by omega))) (by omega) (by omega)
  have g1 : f_X1_behind 55 21 (nI 0) (nI v) M = some (nI (fkS σ v 0), M1) := g1
  refine c_w_end u2 hI ((g3.tr u3).mono (fun a k q => by omega)) ?_
  have hf : x_fuel = 999999 + 1 := rfl
  have zb := fkS_b hW (t := v) (c := 0) (by omega)
  have z : lp_X8_surest_42 x_fuel 20 (nI v) (nI 0) (nM 1) (nI 0) M = lp_X8_surest_42 999999 20 (nI v) (nI 0) (nI (fkS σ v 0)) (nI 1) M1 := by
    rw [hf, s_lp_X8_surest_42]
    simp (disch := first | assumption | omega) only [bd_X8_surest_42, f_X8_surest_c65, f_X8_surest_85, gt_20, gr_20_0, gr_20_8, gt_21, gt_55, e0, h0, g1, n_MltT, l_of, n_ltT, n_ltF, n_leT, n_leF, n_eqT, n_eqF, n_neM, n_Mne, n_M0, n_Mlt, n_0leM, nI_clamp, x_in_nI, n_1, nI_add, x_at, x_bd_s, x_bv_s, ↓x_lt, decide_true, decide_false, Bool.and_self, Bool.true_and, Bool.and_true, if_true, if_false, ite_true, ite_false, ↓reduceIte, not_true_eq_false, not_false_eq_true, Nat.reduceAdd, Nat.reduceMul, Nat.reduceEqDiff, eq_self, true_and, and_true, false_and, and_false, Option.some.injEq, Prod.mk.injEq, l_0, l_1, l_2, l_3, l_4, l_5, l_6, l_7, l_8, l_9, l_10, l_100, l_160, ↓m_1, ↓m_2, ↓m_3, ↓m_4, ↓m_5, ↓m_6, ↓m_7]
  simp (disch := first | assumption | omega) only [f_X8_surest, gt_20, gr_20_0, gt_21, e0, h0, l_400, l_of, n_ltT, n_ltF, n_leT, n_leF, n_eqT, n_eqF, n_neM, n_Mne, n_M0, n_Mlt, n_0leM, nI_clamp, x_in_nI, n_1, nI_add, x_at, x_bd_s, x_bv_s, ↓x_lt, decide_true, decide_false, Bool.and_self, Bool.true_and, Bool.and_true, if_true, if_false, ite_true, ite_false, ↓reduceIte, not_true_eq_false, not_false_eq_true, Nat.reduceAdd, Nat.reduceMul, Nat.reduceEqDiff, eq_self, true_and, and_true, false_and, and_false, Option.some.injEq, Prod.mk.injEq, l_0, l_1, l_2, l_3, l_4, l_5, l_6, l_7, l_8, l_9, l_10, l_100, l_160, ↓m_1, ↓m_2, ↓m_3, ↓m_4, ↓m_5, ↓m_6, ↓m_7]
  exact z.trans u1
theorem om_surest (hW : WFS B σ) (hB : B ≤ 800000) (t : Int32) : OpM (f_X9_surest 83 t) σ (sp_surest σ t).1 (sp_surest σ t).2 := by
  intro L b1 b2 M hG hI hMW
  obtain ⟨⟨⟨e0, e1, e2, e3, e4, e5, e6, e7⟩, hc, ht⟩, hi, hsh, hrf, hft, hrn, htr⟩ := id hI
  show EndM L b1 b2 (f_X9_surest 83 t) M (sp_surest σ t)
  obtain ⟨⟨w0, w1, w2, w3, w4, w5, w6, w7⟩, wc, wl, wt⟩ := id hW.1
  unfold sp_surest
  by_cases h0 : r_s (s_now σ) 0 = 0
  · rw [if_pos h0]
    rw [h0] at e0
    exact m_no_end hG hI hMW (by simp (disch := first | assumption | omega) only [f_X9_surest, f_X9_surest_25, gt_83, gr_83_9, gt_84, gl_84, e0, m_noM, l_of, n_ltT, n_ltF, n_leT, n_leF, n_eqT, n_eqF, n_neM, n_Mne, n_M0, n_Mlt, n_0leM, nI_clamp, x_in_nI, n_1, nI_add, x_at, x_bd_s, x_bv_s, ↓x_lt, decide_true, decide_false, Bool.and_self, Bool.true_and, Bool.and_true, if_true, if_false, ite_true, ite_false, ↓reduceIte, not_true_eq_false, not_false_eq_true, Nat.reduceAdd, Nat.reduceMul, Nat.reduceEqDiff, eq_self, true_and, and_true, false_and, and_false, Option.some.injEq, Prod.mk.injEq, l_0, l_1, l_2, l_3, l_4, l_5, l_6, l_7, l_8, l_9, l_10, l_100, l_160, ↓m_1, ↓m_2, ↓m_3, ↓m_4, ↓m_5, ↓m_6, ↓m_7])
  rw [if_neg h0]
  rcases i_cs t with h1 | ⟨v, vb, rfl⟩
  · rw [if_pos (Or.inl h1)]
    exact m_no_end hG hI hMW (by simp (disch := first | assumption | omega) only [f_X9_surest, f_X9_surest_25, gt_83, gr_83_9, gt_84, gl_84, e0, h0, h1, m_noM, l_of, n_ltT, n_ltF, n_leT, n_leF, n_eqT, n_eqF, n_neM, n_Mne, n_M0, n_Mlt, n_0leM, nI_clamp, x_in_nI, n_1, nI_add, x_at, x_bd_s, x_bv_s, ↓x_lt, decide_true, decide_false, Bool.and_self, Bool.true_and, Bool.and_true, if_true, if_false, ite_true, ite_false, ↓reduceIte, not_true_eq_false, not_false_eq_true, Nat.reduceAdd, Nat.reduceMul, Nat.reduceEqDiff, eq_self, true_and, and_true, false_and, and_false, Option.some.injEq, Prod.mk.injEq, l_0, l_1, l_2, l_3, l_4, l_5, l_6, l_7, l_8, l_9, l_10, l_100, l_160, ↓m_1, ↓m_2, ↓m_3, ↓m_4, ↓m_5, ↓m_6, ↓m_7])
  rw [nI_clamp (show v < 2 ^ 31 by omega)]
  by_cases h2 : 400 < v
  · rw [if_pos (Or.inr h2)]
    exact m_no_end hG hI hMW (by simp (disch := first | assumption | omega) only [f_X9_surest, f_X9_surest_25, gt_83, gr_83_9, gt_84, gl_84, e0, h0, h2, l_400, m_noM, l_of, n_ltT, n_ltF, n_leT, n_leF, n_eqT, n_eqF, n_neM, n_Mne, n_M0, n_Mlt, n_0leM, nI_clamp, x_in_nI, n_1, nI_add, x_at, x_bd_s, x_bv_s, ↓x_lt, decide_true, decide_false, Bool.and_self, Bool.true_and, Bool.and_true, if_true, if_false, ite_true, ite_false, ↓reduceIte, not_true_eq_false, not_false_eq_true, Nat.reduceAdd, Nat.reduceMul, Nat.reduceEqDiff, eq_self, true_and, and_true, false_and, and_false, Option.some.injEq, Prod.mk.injEq, l_0, l_1, l_2, l_3, l_4, l_5, l_6, l_7, l_8, l_9, l_10, l_100, l_160, ↓m_1, ↓m_2, ↓m_3, ↓m_4, ↓m_5, ↓m_6, ↓m_7])
  rw [if_neg (fun q => by rcases q with q | q; exact nI_pos (by omega) q; exact h2 q)]
  obtain ⟨q1, q2, q3, q4, q5⟩ := hc 0 (by omega)
  obtain ⟨y1, y2, y3, y4⟩ := wc 0 (by omega)
  obtain ⟨M1, g1, g2, g3⟩ := m_chance (L := L) (b1 := b1) (b2 := b2) (c := 0) (t := v) (by omega) w2 w5 y1 y2 w3 w4 (wl 0 (by omega)) (by omega) (by omega) hG e1 e2 e3 q1 q2 q3 q5
  obtain ⟨M2, u1, u2, u3⟩ := m_sur (L := L) (b1 := b1) (b2 := b2) (t := v) hW hB (by omega) (r_s (s_now σ) 0 - 1) 999999 1 0 M1 (by omega) g2 (hI.1.ag (fun a j h => g3.1 _ _ (by omega))) (by omega) (by omega)
  have g1 : f_X9_chanceOf 83 (nI 0) (nI v) M = some (nI (fkS σ v 0), M1) := g1
  refine m_w_end u2 hI hMW ((g3.tr u3).mono (fun a k q => by omega)) ?_
  have hf : x_fuel = 999999 + 1 := rfl
  have zb := fkS_b hW (t := v) (c := 0) (by omega)
  have z : lp_X9_surest_39 x_fuel 83 (nI v) (nI 0) (nM 1) (nI 0) M = lp_X9_surest_39 999999 83 (nI v) (nI 0) (nI (fkS σ v 0)) (nI 1) M1 := by
    rw [hf, s_lp_X9_surest_39]
    simp (disch := first | assumption | omega) only [bd_X9_surest_39, f_X9_surest_c52, f_X9_surest_72, gt_83, e0, h0, g1, n_MltT, l_of, n_ltT, n_ltF, n_leT, n_leF, n_eqT, n_eqF, n_neM, n_Mne, n_M0, n_Mlt, n_0leM, nI_clamp, x_in_nI, n_1, nI_add, x_at, x_bd_s, x_bv_s, ↓x_lt, decide_true, decide_false, Bool.and_self, Bool.true_and, Bool.and_true, if_true, if_false, ite_true, ite_false, ↓reduceIte, not_true_eq_false, not_false_eq_true, Nat.reduceAdd, Nat.reduceMul, Nat.reduceEqDiff, eq_self, true_and, and_true, false_and, and_false, Option.some.injEq, Prod.mk.injEq, l_0, l_1, l_2, l_3, l_4, l_5, l_6, l_7, l_8, l_9, l_10, l_100, l_160, ↓m_1, ↓m_2, ↓m_3, ↓m_4, ↓m_5, ↓m_6, ↓m_7]
  simp (disch := first | assumption | omega) only [f_X9_surest, gt_83, e0, h0, l_400, l_of, n_ltT, n_ltF, n_leT, n_leF, n_eqT, n_eqF, n_neM, n_Mne, n_M0, n_Mlt, n_0leM, nI_clamp, x_in_nI, n_1, nI_add, x_at, x_bd_s, x_bv_s, ↓x_lt, decide_true, decide_false, Bool.and_self, Bool.true_and, Bool.and_true, if_true, if_false, ite_true, ite_false, ↓reduceIte, not_true_eq_false, not_false_eq_true, Nat.reduceAdd, Nat.reduceMul, Nat.reduceEqDiff, eq_self, true_and, and_true, false_and, and_false, Option.some.injEq, Prod.mk.injEq, l_0, l_1, l_2, l_3, l_4, l_5, l_6, l_7, l_8, l_9, l_10, l_100, l_160, ↓m_1, ↓m_2, ↓m_3, ↓m_4, ↓m_5, ↓m_6, ↓m_7]
  exact z.trans u1
end
