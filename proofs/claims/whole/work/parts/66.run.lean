
def wr (σ : XS) (c k m : Nat) : Nat → WK := ws (r_s (s_now σ) 1) (r_s (s_now σ) 2) (r_q (s_now σ) 0 c) (r_q (s_now σ) 1 c) m (ea σ k) (r_q (s_now σ) 2 c, r_off (s_now σ) c, r_q (s_now σ) 3 c, 0)
def wt (σ : XS) (c k m : Nat) : Option Nat := thu (r_s (s_now σ) 1) (r_s (s_now σ) 2) (r_q (s_now σ) 0 c) (r_q (s_now σ) 1 c) m (ea σ k) (r_q (s_now σ) 2 c, r_off (s_now σ) c, r_q (s_now σ) 3 c, 0) 401 0
/-- the first that is refused of a COUNTER and a part of a ROW -/
def qc (σ : XS) (c s n : Int32) : Nat := if c < nI 0 ∨ r_s (s_now σ) 0 ≤ c.toNatClampNeg then 1 else pr σ s n
def okS (σ : XS) (s n : Int32) : Bool := decide (n.toNatClampNeg ≤ 40) && ascr σ s.toNatClampNeg n.toNatClampNeg 0
theorem qc_le (σ : XS) (c s n : Int32) : qc σ c s n ≤ 5 := by
  have := pr_le σ s n
  unfold qc; split <;> omega
theorem qc_0 {σ : XS} {c s n : Int32} (h : qc σ c s n = 0) : ∃ j k m, c = nI j ∧ j < r_s (s_now σ) 0 ∧ s = nI k ∧ k < 8 ∧ s_sh σ 0 k = 1 ∧ n = nI m ∧ m < 2147483648 ∧ m ≤ s_sh σ 2 k ∧ pr σ s n = 0 := by
  unfold qc at h
  rcases i_cs c with h1 | ⟨j, jb, rfl⟩
  · rw [if_pos (Or.inl h1)] at h; omega
  · rw [nI_clamp (by omega)] at h
    split at h
    · omega
    · next h2 =>
      obtain ⟨k, m, e1, e2, e3, e4, e5, e6⟩ := pr_0 h
      exact ⟨j, k, m, rfl, by omega, e1, e2, e3, e4, e5, e6, h⟩
section
variable {L : Nat} {b1 b2 : Bool} {M : XM} {σ : XS} {B : Nat}
theorem c_isC (hG : Geo L b1 b2 M) (hI : CInv σ M) (hW : WFS B σ) (c : Int32) : f_X8_isCounter 20 c M = some (if c < nI 0 ∨ r_s (s_now σ) 0 ≤ c.toNatClampNeg then nI 0 else nI 1, M) := by
  have e0 := hI.1.1.1
  have w0 := hW.1.1.1
  rcases i_cs c with h1 | ⟨k, kb, rfl⟩
  · rw [if_pos (Or.inl h1)]
    simp (disch := first | assumption | omega) only [f_X8_isCounter, gt_20, gr_20_0, gt_21, h1, l_of, n_ltT, n_ltF, n_leT, n_leF, n_eqT, n_eqF, n_neM, n_Mne, n_M0, n_Mlt, n_0leM, nI_clamp, x_in_nI, n_1, nI_add, x_at, x_bd_s, x_bv_s, ↓x_lt, decide_true, decide_false, Bool.and_self, Bool.true_and, Bool.and_true, if_true, if_false, ite_true, ite_false, ↓reduceIte, not_true_eq_false, not_false_eq_true, Nat.reduceAdd, Nat.reduceMul, Nat.reduceEqDiff, eq_self, true_and, and_true, false_and, and_false, Option.some.injEq, Prod.mk.injEq, l_0, l_1, l_2, l_3, l_4, l_5, l_6, l_7, l_8, l_9, l_10, l_100, l_160, ↓m_1, ↓m_2, ↓m_3, ↓m_4, ↓m_5, ↓m_6, ↓m_7]
  · rw [nI_clamp (by omega)]
    by_cases h2 : r_s (s_now σ) 0 ≤ k
    · rw [if_pos (Or.inr h2)]
      simp (disch := first | assumption | omega) only [f_X8_isCounter, gt_20, gr_20_0, gt_21, e0, h2, l_of, n_ltT, n_ltF, n_leT, n_leF, n_eqT, n_eqF, n_neM, n_Mne, n_M0, n_Mlt, n_0leM, nI_clamp, x_in_nI, n_1, nI_add, x_at, x_bd_s, x_bv_s, ↓x_lt, decide_true, decide_false, Bool.and_self, Bool.true_and, Bool.and_true, if_true, if_false, ite_true, ite_false, ↓reduceIte, not_true_eq_false, not_false_eq_true, Nat.reduceAdd, Nat.reduceMul, Nat.reduceEqDiff, eq_self, true_and, and_true, false_and, and_false, Option.some.injEq, Prod.mk.injEq, l_0, l_1, l_2, l_3, l_4, l_5, l_6, l_7, l_8, l_9, l_10, l_100, l_160, ↓m_1, ↓m_2, ↓m_3, ↓m_4, ↓m_5, ↓m_6, ↓m_7]
    · rw [if_neg (fun q => by
        rcases q with q | q
        · exact nI_pos (by omega) q
        · exact h2 q)]
      simp (disch := first | assumption | omega) only [f_X8_isCounter, gt_20, gr_20_0, gt_21, e0, l_of, n_ltT, n_ltF, n_leT, n_leF, n_eqT, n_eqF, n_neM, n_Mne, n_M0, n_Mlt, n_0leM, nI_clamp, x_in_nI, n_1, nI_add, x_at, x_bd_s, x_bv_s, ↓x_lt, decide_true, decide_false, Bool.and_self, Bool.true_and, Bool.and_true, if_true, if_false, ite_true, ite_false, ↓reduceIte, not_true_eq_false, not_false_eq_true, Nat.reduceAdd, Nat.reduceMul, Nat.reduceEqDiff, eq_self, true_and, and_true, false_and, and_false, Option.some.injEq, Prod.mk.injEq, l_0, l_1, l_2, l_3, l_4, l_5, l_6, l_7, l_8, l_9, l_10, l_100, l_160, ↓m_1, ↓m_2, ↓m_3, ↓m_4, ↓m_5, ↓m_6, ↓m_7]
theorem m_isC (hG : Geo L b1 b2 M) (hI : MInv σ M) (hW : WFS B σ) (c : Int32) : f_X9_isCounter 83 c M = some (if c < nI 0 ∨ r_s (s_now σ) 0 ≤ c.toNatClampNeg then nI 0 else nI 1, M) := by
  have e0 := hI.1.1.1
  have w0 := hW.1.1.1
  rcases i_cs c with h1 | ⟨k, kb, rfl⟩
  · rw [if_pos (Or.inl h1)]
    simp (disch := first | assumption | omega) only [f_X9_isCounter, gt_83, h1, l_of, n_ltT, n_ltF, n_leT, n_leF, n_eqT, n_eqF, n_neM, n_Mne, n_M0, n_Mlt, n_0leM, nI_clamp, x_in_nI, n_1, nI_add, x_at, x_bd_s, x_bv_s, ↓x_lt, decide_true, decide_false, Bool.and_self, Bool.true_and, Bool.and_true, if_true, if_false, ite_true, ite_false, ↓reduceIte, not_true_eq_false, not_false_eq_true, Nat.reduceAdd, Nat.reduceMul, Nat.reduceEqDiff, eq_self, true_and, and_true, false_and, and_false, Option.some.injEq, Prod.mk.injEq, l_0, l_1, l_2, l_3, l_4, l_5, l_6, l_7, l_8, l_9, l_10, l_100, l_160, ↓m_1, ↓m_2, ↓m_3, ↓m_4, ↓m_5, ↓m_6, ↓m_7]
  · rw [nI_clamp (by omega)]
    by_cases h2 : r_s (s_now σ) 0 ≤ k
    · rw [if_pos (Or.inr h2)]
      simp (disch := first | assumption | omega) only [f_X9_isCounter, gt_83, e0, h2, l_of, n_ltT, n_ltF, n_leT, n_leF, n_eqT, n_eqF, n_neM, n_Mne, n_M0, n_Mlt, n_0leM, nI_clamp, x_in_nI, n_1, nI_add, x_at, x_bd_s, x_bv_s, ↓x_lt, decide_true, decide_false, Bool.and_self, Bool.true_and, Bool.and_true, if_true, if_false, ite_true, ite_false, ↓reduceIte, not_true_eq_false, not_false_eq_true, Nat.reduceAdd, Nat.reduceMul, Nat.reduceEqDiff, eq_self, true_and, and_true, false_and, and_false, Option.some.injEq, Prod.mk.injEq, l_0, l_1, l_2, l_3, l_4, l_5, l_6, l_7, l_8, l_9, l_10, l_100, l_160, ↓m_1, ↓m_2, ↓m_3, ↓m_4, ↓m_5, ↓m_6, ↓m_7]
    · rw [if_neg (fun q => by
        rcases q with q | q
        · exact nI_pos (by omega) q
        · exact h2 q)]
      simp (disch := first | assumption | omega) only [f_X9_isCounter, gt_83, e0, l_of, n_ltT, n_ltF, n_leT, n_leF, n_eqT, n_eqF, n_neM, n_Mne, n_M0, n_Mlt, n_0leM, nI_clamp, x_in_nI, n_1, nI_add, x_at, x_bd_s, x_bv_s, ↓x_lt, decide_true, decide_false, Bool.and_self, Bool.true_and, Bool.and_true, if_true, if_false, ite_true, ite_false, ↓reduceIte, not_true_eq_false, not_false_eq_true, Nat.reduceAdd, Nat.reduceMul, Nat.reduceEqDiff, eq_self, true_and, and_true, false_and, and_false, Option.some.injEq, Prod.mk.injEq, l_0, l_1, l_2, l_3, l_4, l_5, l_6, l_7, l_8, l_9, l_10, l_100, l_160, ↓m_1, ↓m_2, ↓m_3, ↓m_4, ↓m_5, ↓m_6, ↓m_7]
theorem m_isS (σ : XS) (s n : Int32) (hG : Geo L b1 b2 M) : (f_X9_isShelf 83 s M = some (nI 0, M) ∧ pr σ s n = 1) ∨ f_X9_isShelf 83 s M = some (nI 1, M) := by
  rcases i_cs s with h1 | ⟨k, kb, rfl⟩
  · refine Or.inl ⟨by simp (disch := first | assumption | omega) only [f_X9_isShelf, h1, l_of, n_ltT, n_ltF, n_leT, n_leF, n_eqT, n_eqF, n_neM, n_Mne, n_M0, n_Mlt, n_0leM, nI_clamp, x_in_nI, n_1, nI_add, x_at, x_bd_s, x_bv_s, ↓x_lt, decide_true, decide_false, Bool.and_self, Bool.true_and, Bool.and_true, if_true, if_false, ite_true, ite_false, ↓reduceIte, not_true_eq_false, not_false_eq_true, Nat.reduceAdd, Nat.reduceMul, Nat.reduceEqDiff, eq_self, true_and, and_true, false_and, and_false, Option.some.injEq, Prod.mk.injEq, l_0, l_1, l_2, l_3, l_4, l_5, l_6, l_7, l_8, l_9, l_10, l_100, l_160, ↓m_1, ↓m_2, ↓m_3, ↓m_4, ↓m_5, ↓m_6, ↓m_7], ?_⟩
    have q : pq σ s s = 1 := by unfold pq; rw [if_pos (Or.inl h1)]
    unfold pr; rw [if_neg (by omega), q]
  · by_cases h2 : 8 ≤ k
    · refine Or.inl ⟨by simp (disch := first | assumption | omega) only [f_X9_isShelf, h2, l_of, n_ltT, n_ltF, n_leT, n_leF, n_eqT, n_eqF, n_neM, n_Mne, n_M0, n_Mlt, n_0leM, nI_clamp, x_in_nI, n_1, nI_add, x_at, x_bd_s, x_bv_s, ↓x_lt, decide_true, decide_false, Bool.and_self, Bool.true_and, Bool.and_true, if_true, if_false, ite_true, ite_false, ↓reduceIte, not_true_eq_false, not_false_eq_true, Nat.reduceAdd, Nat.reduceMul, Nat.reduceEqDiff, eq_self, true_and, and_true, false_and, and_false, Option.some.injEq, Prod.mk.injEq, l_0, l_1, l_2, l_3, l_4, l_5, l_6, l_7, l_8, l_9, l_10, l_100, l_160, ↓m_1, ↓m_2, ↓m_3, ↓m_4, ↓m_5, ↓m_6, ↓m_7], ?_⟩
      have q : pq σ (nI k) (nI k) = 1 := by unfold pq; rw [nI_clamp (by omega), if_pos (Or.inr (Or.inl h2))]
      unfold pr; rw [if_neg (by omega), q]
    · exact Or.inr (by simp (disch := first | assumption | omega) only [f_X9_isShelf, h2, l_of, n_ltT, n_ltF, n_leT, n_leF, n_eqT, n_eqF, n_neM, n_Mne, n_M0, n_Mlt, n_0leM, nI_clamp, x_in_nI, n_1, nI_add, x_at, x_bd_s, x_bv_s, ↓x_lt, decide_true, decide_false, Bool.and_self, Bool.true_and, Bool.and_true, if_true, if_false, ite_true, ite_false, ↓reduceIte, not_true_eq_false, not_false_eq_true, Nat.reduceAdd, Nat.reduceMul, Nat.reduceEqDiff, eq_self, true_and, and_true, false_and, and_false, Option.some.injEq, Prod.mk.injEq, l_0, l_1, l_2, l_3, l_4, l_5, l_6, l_7, l_8, l_9, l_10, l_100, l_160, ↓m_1, ↓m_2, ↓m_3, ↓m_4, ↓m_5, ↓m_6, ↓m_7])
theorem c_are {k m : Nat} (hG : Geo L b1 b2 M) (hI : CInv σ M) (hW : WFS B σ) (hk : k < 8) (h1 : s_sh σ 0 k = 1) (hm : m ≤ s_sh σ 2 k) : f_X8_areSeconds 20 (nI k) (nI m) M = some (if okS σ (nI k) (nI m) = true then nI 1 else nI 0, M) := by
  obtain ⟨p1, p2, p3, p4⟩ := (hI.2.2.1 k hk).2.1 h1
  obtain ⟨z1, z2⟩ := (hW.2.2.1 k hk).2.1 h1
  have q := c_asec (z := s_sh σ 2 k) hG hk z2 hm p3 p4 m x_fuel 0 (fu (by omega)) (by omega)
  unfold okS
  rw [nI_clamp (by omega), nI_clamp (by omega)]
  by_cases h4 : m ≤ 40
  · rw [decide_eq_true h4, Bool.true_and]
    simp (disch := first | assumption | omega) only [f_X8_areSeconds, l_40, l_of, n_ltT, n_ltF, n_leT, n_leF, n_eqT, n_eqF, n_neM, n_Mne, n_M0, n_Mlt, n_0leM, nI_clamp, x_in_nI, n_1, nI_add, x_at, x_bd_s, x_bv_s, ↓x_lt, decide_true, decide_false, Bool.and_self, Bool.true_and, Bool.and_true, if_true, if_false, ite_true, ite_false, ↓reduceIte, not_true_eq_false, not_false_eq_true, Nat.reduceAdd, Nat.reduceMul, Nat.reduceEqDiff, eq_self, true_and, and_true, false_and, and_false, Option.some.injEq, Prod.mk.injEq, l_0, l_1, l_2, l_3, l_4, l_5, l_6, l_7, l_8, l_9, l_10, l_100, l_160, ↓m_1, ↓m_2, ↓m_3, ↓m_4, ↓m_5, ↓m_6, ↓m_7]
    exact q
  · rw [decide_eq_false h4, Bool.false_and]
    simp (disch := first | assumption | omega) only [f_X8_areSeconds, l_40, l_of, n_ltT, n_ltF, n_leT, n_leF, n_eqT, n_eqF, n_neM, n_Mne, n_M0, n_Mlt, n_0leM, nI_clamp, x_in_nI, n_1, nI_add, x_at, x_bd_s, x_bv_s, ↓x_lt, decide_true, decide_false, Bool.and_self, Bool.true_and, Bool.and_true, if_true, if_false, ite_true, ite_false, ↓reduceIte, not_true_eq_false, not_false_eq_true, Nat.reduceAdd, Nat.reduceMul, Nat.reduceEqDiff, eq_self, true_and, and_true, false_and, and_false, Option.some.injEq, Prod.mk.injEq, l_0, l_1, l_2, l_3, l_4, l_5, l_6, l_7, l_8, l_9, l_10, l_100, l_160, ↓m_1, ↓m_2, ↓m_3, ↓m_4, ↓m_5, ↓m_6, ↓m_7, Bool.false_eq_true]
theorem m_are {k m : Nat} (hG : Geo L b1 b2 M) (hI : MInv σ M) (hW : WFS B σ) (hk : k < 8) (h1 : s_sh σ 0 k = 1) (hm : m ≤ s_sh σ 2 k) (h4 : m ≤ 40) : f_X9_areSeconds 83 (nI k) (nI m) M = some (if okS σ (nI k) (nI m) = true then nI 1 else nI 0, M) := by
  obtain ⟨p1, p2, p3⟩ := (hI.2.2.1 k hk).2.1 h1
  obtain ⟨z1, z2⟩ := (hW.2.2.1 k hk).2.1 h1
  have q := m_asec (m := m) hG hk (by omega) p3 m x_fuel 0 (fu (by omega)) (by omega)
  unfold okS
  rw [nI_clamp (by omega), nI_clamp (by omega), decide_eq_true h4, Bool.true_and]
  exact q
/-- SECONDS refused, the class -/
theorem c_secs (hG : Geo L b1 b2 M) (hI : CInv σ M) (hW : WFS B σ) (s n : Int32) : f_X8_secondsRefusal 20 s n M = some (rz (if pr σ s n = 0 then (if okS σ s n = true then 0 else 6) else pr σ s n), M) := by
  have hp := c_part hG hI hW s n
  have hl := pr_le σ s n
  by_cases h0 : pr σ s n = 0
  · rw [if_pos h0]
    rw [h0, rz_0] at hp
    obtain ⟨k, m, rfl, k8, k1, rfl, mb, hm⟩ := pr_0 h0
    have ha := c_are hG hI hW k8 k1 hm
    by_cases hk : okS σ (nI k) (nI m) = true
    · rw [if_pos hk] at ha ⊢
      simp (disch := first | assumption | omega) only [f_X8_secondsRefusal_c16, f_X8_secondsRefusal_c3, f_X8_secondsRefusal, gt_20, hp, ha, rz, l_of, n_ltT, n_ltF, n_leT, n_leF, n_eqT, n_eqF, n_neM, n_Mne, n_M0, n_Mlt, n_0leM, nI_clamp, x_in_nI, n_1, nI_add, x_at, x_bd_s, x_bv_s, ↓x_lt, decide_true, decide_false, Bool.and_self, Bool.true_and, Bool.and_true, if_true, if_false, ite_true, ite_false, ↓reduceIte, not_true_eq_false, not_false_eq_true, Nat.reduceAdd, Nat.reduceMul, Nat.reduceEqDiff, eq_self, true_and, and_true, false_and, and_false, Option.some.injEq, Prod.mk.injEq, l_0, l_1, l_2, l_3, l_4, l_5, l_6, l_7, l_8, l_9, l_10, l_100, l_160, ↓m_1, ↓m_2, ↓m_3, ↓m_4, ↓m_5, ↓m_6, ↓m_7]
    · rw [if_neg hk] at ha ⊢
      simp (disch := first | assumption | omega) only [f_X8_secondsRefusal_c16, f_X8_secondsRefusal_c3, f_X8_secondsRefusal, gt_20, hp, ha, rz, l_of, n_ltT, n_ltF, n_leT, n_leF, n_eqT, n_eqF, n_neM, n_Mne, n_M0, n_Mlt, n_0leM, nI_clamp, x_in_nI, n_1, nI_add, x_at, x_bd_s, x_bv_s, ↓x_lt, decide_true, decide_false, Bool.and_self, Bool.true_and, Bool.and_true, if_true, if_false, ite_true, ite_false, ↓reduceIte, not_true_eq_false, not_false_eq_true, Nat.reduceAdd, Nat.reduceMul, Nat.reduceEqDiff, eq_self, true_and, and_true, false_and, and_false, Option.some.injEq, Prod.mk.injEq, l_0, l_1, l_2, l_3, l_4, l_5, l_6, l_7, l_8, l_9, l_10, l_100, l_160, ↓m_1, ↓m_2, ↓m_3, ↓m_4, ↓m_5, ↓m_6, ↓m_7]
  · rw [if_neg h0]
    rw [rz_s h0] at hp ⊢
    simp (disch := first | assumption | omega) only [f_X8_secondsRefusal_c16, f_X8_secondsRefusal_c3, f_X8_secondsRefusal, gt_20, hp, l_of, n_ltT, n_ltF, n_leT, n_leF, n_eqT, n_eqF, n_neM, n_Mne, n_M0, n_Mlt, n_0leM, nI_clamp, x_in_nI, n_1, nI_add, x_at, x_bd_s, x_bv_s, ↓x_lt, decide_true, decide_false, Bool.and_self, Bool.true_and, Bool.and_true, if_true, if_false, ite_true, ite_false, ↓reduceIte, not_true_eq_false, not_false_eq_true, Nat.reduceAdd, Nat.reduceMul, Nat.reduceEqDiff, eq_self, true_and, and_true, false_and, and_false, Option.some.injEq, Prod.mk.injEq, l_0, l_1, l_2, l_3, l_4, l_5, l_6, l_7, l_8, l_9, l_10, l_100, l_160, ↓m_1, ↓m_2, ↓m_3, ↓m_4, ↓m_5, ↓m_6, ↓m_7]
theorem c_wrun {j k m : Nat} (hG : Geo L b1 b2 M) (hI : CInv σ M) (hW : WFS B σ) (hB : B ≤ 800000) (hj : j < r_s (s_now σ) 0) (hk : k < 8) (h1 : s_sh σ 0 k = 1) (hm : m ≤ s_sh σ 2 k) (h4 : m ≤ 40) :
    ∃ M', f_X7_begin 52 21 (nI j) (67 + 2 * k) (nI m) M = some M' ∧ Geo L b1 b2 M' ∧ CWk (r_s (s_now σ) 1) (r_s (s_now σ) 2) (r_q (s_now σ) 0 j) (r_q (s_now σ) 1 j) m (ea σ k) 0 (wr σ j k m 0) M' ∧ Fr PW M M' ∧ WB (r_s (s_now σ) 1) m B (r_q (s_now σ) 2 j, r_off (s_now σ) j, r_q (s_now σ) 3 j, 0) := by
  obtain ⟨p1, p2, p3, p4⟩ := (hI.2.2.1 k hk).2.1 h1
  obtain ⟨z1, z2⟩ := (hW.2.2.1 k hk).2.1 h1
  have w0 := hW.1.1.1
  obtain ⟨M1, g1, g2, g3, g4⟩ := c_wbegin (c := j) hG hI.1 hW.1 (by omega) hk z2 hm h4 p3 p4
  exact ⟨M1, g1, g2, g3, g4, hW.1.2.2.1 j hj, (hW.1.2.1 j (by omega)).2.2.2, Nat.zero_le _⟩
theorem c_wthr {j k m : Nat} (hG : Geo L b1 b2 M) (hI : CInv σ M) (hW : WFS B σ) (hB : B ≤ 800000) (hj : j < r_s (s_now σ) 0) (hk : k < 8) (h1 : s_sh σ 0 k = 1) (hm : m ≤ s_sh σ 2 k) (h4 : m ≤ 40) :
    ∃ M1 M', f_X7_begin 52 21 (nI j) (67 + 2 * k) (nI m) M = some M1 ∧ Geo L b1 b2 M1 ∧ f_X7_untilThrough 52 M1 = some (oI (wt σ j k m), M') ∧ Geo L b1 b2 M' ∧ Fr PW M M' := by
  obtain ⟨M1, g1, g2, g3, g4, g5⟩ := c_wrun hG hI hW hB hj hk h1 hm h4
  obtain ⟨⟨w0, w1, w2, w3, w4, w5, w6, w7⟩, wc, wl, wtt⟩ := id hW.1
  obtain ⟨y1, y2, y3, y4⟩ := wc j (by omega)
  obtain ⟨M2, k1, k2, k3⟩ := c_thu_lp (L := L) (b1 := b1) (b2 := b2) g5 (by omega) h4 w2 y1 y2 w3 w4 401 x_fuel 0 M1 (fu (by omega)) g2 g3 (by omega)
  exact ⟨M1, M2, g1, g2, k1, k2, g4.tr k3⟩
theorem m_wthr {j k m : Nat} (hG : Geo L b1 b2 M) (hI : MInv σ M) (hW : WFS B σ) (hB : B ≤ 800000) (hj : j < r_s (s_now σ) 0) (hk : k < 8) (h1 : s_sh σ 0 k = 1) (hm : m ≤ s_sh σ 2 k) (h4 : m ≤ 40) :
    ∃ M', f_X9_throughBy 83 (nI j) (nI k) (nI m) M = some (oI (wt σ j k m), M') ∧ Geo L b1 b2 M' ∧ Fr PG M M' := by
  obtain ⟨p1, p2, p3⟩ := (hI.2.2.1 k hk).2.1 h1
  have w0 := hW.1.1.1
  have hR := hI.1
  obtain ⟨M1, g1, g2, g3, g4⟩ := m_begins (c := j) hG hI.1 (by omega)
  obtain ⟨M2, k1, k2, k3⟩ := m_thu_lp (L := L) (b1 := b1) (b2 := b2) (σ := σ) (h := B) (k := k) (m := m) (c := j) (w := (r_q (s_now σ) 2 j, r_off (s_now σ) j, r_q (s_now σ) 3 j, 0)) hW.1 ⟨hW.1.2.2.1 j hj, (hW.1.2.1 j (by omega)).2.2.2, Nat.zero_le _⟩ (by omega) (by omega) hk h4 401 x_fuel 0 M1 (fu (by omega)) g2 (hR.ag2 (fun a j q => g4.1 _ _ (by omega))) (fun i hi => (g4.2 _ _).trans (p3 i hi)) g3 (by omega)
  refine ⟨M2, ?_, k2, g4.tr k3⟩
  simp (disch := first | assumption | omega) only [f_X9_throughBy, f_X9_throughBy_c2, gt_83, g1, l_of, n_ltT, n_ltF, n_leT, n_leF, n_eqT, n_eqF, n_neM, n_Mne, n_M0, n_Mlt, n_0leM, nI_clamp, x_in_nI, n_1, nI_add, x_at, x_bd_s, x_bv_s, ↓x_lt, decide_true, decide_false, Bool.and_self, Bool.true_and, Bool.and_true, if_true, if_false, ite_true, ite_false, ↓reduceIte, not_true_eq_false, not_false_eq_true, Nat.reduceAdd, Nat.reduceMul, Nat.reduceEqDiff, eq_self, true_and, and_true, false_and, and_false, Option.some.injEq, Prod.mk.injEq, l_0, l_1, l_2, l_3, l_4, l_5, l_6, l_7, l_8, l_9, l_10, l_100, l_160, ↓m_1, ↓m_2, ↓m_3, ↓m_4, ↓m_5, ↓m_6, ↓m_7]
  exact k1
end
theorem c_w_end {L : Nat} {b1 b2 : Bool} {M M' : XM} {σ : XS} {α : Type} {f : XM → Option (α × XM)} {r : α} (hG : Geo L b1 b2 M') (hI : CInv σ M) (hF : Fr (fun a _ => 39 ≤ a ∧ a < 51 ∨ 52 ≤ a ∧ a < 65) M M') (he : f M = some (r, M')) : EndC L f M (r, σ) :=
  ⟨M', b1, b2, he, hG, hI.fr hF (fun a k q r => by omega), hF.agr (fun a k h1 h2 q => by omega), hF.agr (fun a k h1 h2 q => by omega)⟩
theorem m_w_end {L : Nat} {b1 b2 : Bool} {M M' : XM} {σ : XS} {α : Type} {f : XM → Option (α × XM)} {r : α} (hG : Geo L b1 b2 M') (hI : MInv σ M) (hMW : MW M) (hF : Fr (fun a k => a = 83 ∧ 9 ≤ k ∧ k < 40 ∨ a = 96 ∨ a = 98 ∨ a = 99 ∨ 101 ≤ a ∧ a < 104) M M') (he : f M = some (r, M')) : EndM L b1 b2 f M (r, σ) :=
  ⟨M', he, hG, hI.fr hF (fun a k q r => by omega), hMW.ag (hF.agr (fun a k h1 h2 q => by omega)), hF.agr (fun a k h1 h2 q => by omega)⟩
def sp_through (σ : XS) (c s n : Int32) : Int32 × XS :=
  if qc σ c s n = 0 then (if okS σ s n = true then (oI (wt σ c.toNatClampNeg s.toNatClampNeg n.toNatClampNeg), σ) else (nM 16, u_rf σ 6)) else (nM (qc σ c s n + 10), u_rf σ (qc σ c s n))
def sp_run (σ : XS) (c s n t w : Int32) : Int32 × XS :=
  if qc σ c s n = 0 then (if w < nI 0 ∨ 2 < w.toNatClampNeg then (nM 5, u_rf σ 5) else if t < nI 0 ∨ 400 < t.toNatClampNeg ∨ okS σ s n = false then (nM 6, u_rf σ 6) else (ra w.toNatClampNeg (wr σ c.toNatClampNeg s.toNatClampNeg n.toNatClampNeg t.toNatClampNeg), σ)) else (nM (qc σ c s n), u_rf σ (qc σ c s n))
theorem oc_through {B : Nat} {σ : XS} (hW : WFS B σ) (hB : B ≤ 800000) (c s n : Int32) : OpC (f_X8_through 20 c s n) σ (sp_through σ c s n).1 (sp_through σ c s n).2 := by
  intro L b1 b2 M hG hI
  obtain ⟨⟨⟨e0, e1, e2, e3, e4, e5, e6, e7⟩, hc, ht⟩, hi, hsh, hrf, hft, hrn, htr⟩ := id hI
  show EndC L (f_X8_through 20 c s n) M (sp_through σ c s n)
  have hC := c_isC hG hI hW c
  have hS := c_secs hG hI hW s n
  have hl := qc_le σ c s n
  unfold sp_through
  by_cases h0 : qc σ c s n = 0
  · rw [if_pos h0]
    obtain ⟨j, k, m, rfl, hj, rfl, k8, k1, rfl, mb, hm, hp⟩ := qc_0 h0
    have hx : j < 6 := by have := hW.1.1.1; omega
    rw [nI_clamp (by omega), if_neg (fun q => by rcases q with q | q; exact nI_pos (by omega) q; omega)] at hC
    rw [if_pos hp] at hS
    by_cases h1 : okS σ (nI k) (nI m) = true
    · rw [if_pos h1] at hS ⊢
      rw [rz_0] at hS
      have h4 : m ≤ 40 := by
        unfold okS at h1
        rw [nI_clamp (show m < 2 ^ 31 by omega)] at h1
        exact of_decide_eq_true (Bool.and_eq_true_iff.mp h1).1
      obtain ⟨M1, M2, g1, g2, g3, g4, g5⟩ := c_wthr hG hI hW hB hj k8 k1 hm h4
      rw [nI_clamp (by omega), nI_clamp (by omega), nI_clamp (by omega)]
      refine c_w_end g4 hI (g5.mono (fun a k q => by omega)) ?_
      simp (disch := first | assumption | omega) only [f_X8_through_c51, f_X8_through_c28, f_X8_through_18, f_X8_through_c11, f_X8_through_c2, f_X8_through, gt_20, gr_20_0, gr_20_5, gr_20_7, gt_21, gt_50, gl_50, gs_50, gst_67, gt_52, gr_20_6, gt_51, gl_51, hC, hS, g1, g3, l_of, n_ltT, n_ltF, n_leT, n_leF, n_eqT, n_eqF, n_neM, n_Mne, n_M0, n_Mlt, n_0leM, nI_clamp, x_in_nI, n_1, nI_add, x_at, x_bd_s, x_bv_s, ↓x_lt, decide_true, decide_false, Bool.and_self, Bool.true_and, Bool.and_true, if_true, if_false, ite_true, ite_false, ↓reduceIte, not_true_eq_false, not_false_eq_true, Nat.reduceAdd, Nat.reduceMul, Nat.reduceEqDiff, eq_self, true_and, and_true, false_and, and_false, Option.some.injEq, Prod.mk.injEq, l_0, l_1, l_2, l_3, l_4, l_5, l_6, l_7, l_8, l_9, l_10, l_100, l_160, ↓m_1, ↓m_2, ↓m_3, ↓m_4, ↓m_5, ↓m_6, ↓m_7]
    · rw [if_neg h1] at hS ⊢
      exact c_no_end hG hI (by simp (disch := first | assumption | omega) only [f_X8_through_c51, f_X8_through_c28, f_X8_through_18, f_X8_through_c11, f_X8_through_c2, f_X8_through, gt_20, gr_20_0, gr_20_5, gr_20_7, gt_21, gt_50, gl_50, gs_50, gst_67, gt_52, gr_20_6, gt_51, gl_51, hC, hS, c_refM, n_sub10, rz, l_of, n_ltT, n_ltF, n_leT, n_leF, n_eqT, n_eqF, n_neM, n_Mne, n_M0, n_Mlt, n_0leM, nI_clamp, x_in_nI, n_1, nI_add, x_at, x_bd_s, x_bv_s, ↓x_lt, decide_true, decide_false, Bool.and_self, Bool.true_and, Bool.and_true, if_true, if_false, ite_true, ite_false, ↓reduceIte, not_true_eq_false, not_false_eq_true, Nat.reduceAdd, Nat.reduceMul, Nat.reduceEqDiff, eq_self, true_and, and_true, false_and, and_false, Option.some.injEq, Prod.mk.injEq, l_0, l_1, l_2, l_3, l_4, l_5, l_6, l_7, l_8, l_9, l_10, l_100, l_160, ↓m_1, ↓m_2, ↓m_3, ↓m_4, ↓m_5, ↓m_6, ↓m_7])
  · rw [if_neg h0]
    by_cases hc : c < nI 0 ∨ r_s (s_now σ) 0 ≤ c.toNatClampNeg
    · have e : qc σ c s n = 1 := by unfold qc; rw [if_pos hc]
      rw [if_pos hc] at hC
      rw [e]
      exact c_no_end hG hI (by simp (disch := first | assumption | omega) only [f_X8_through_c51, f_X8_through_c28, f_X8_through_18, f_X8_through_c11, f_X8_through_c2, f_X8_through, gt_20, gr_20_0, gr_20_5, gr_20_7, gt_21, gt_50, gl_50, gs_50, gst_67, gt_52, gr_20_6, gt_51, gl_51, hC, c_refM, n_sub10, l_of, n_ltT, n_ltF, n_leT, n_leF, n_eqT, n_eqF, n_neM, n_Mne, n_M0, n_Mlt, n_0leM, nI_clamp, x_in_nI, n_1, nI_add, x_at, x_bd_s, x_bv_s, ↓x_lt, decide_true, decide_false, Bool.and_self, Bool.true_and, Bool.and_true, if_true, if_false, ite_true, ite_false, ↓reduceIte, not_true_eq_false, not_false_eq_true, Nat.reduceAdd, Nat.reduceMul, Nat.reduceEqDiff, eq_self, true_and, and_true, false_and, and_false, Option.some.injEq, Prod.mk.injEq, l_0, l_1, l_2, l_3, l_4, l_5, l_6, l_7, l_8, l_9, l_10, l_100, l_160, ↓m_1, ↓m_2, ↓m_3, ↓m_4, ↓m_5, ↓m_6, ↓m_7])
    · have e : qc σ c s n = pr σ s n := by unfold qc; rw [if_neg hc]
      rw [if_neg hc] at hC
      rw [e] at h0 hl ⊢
      rw [if_neg h0, rz_s h0] at hS
      exact c_no_end hG hI (by simp (disch := first | assumption | omega) only [f_X8_through_c51, f_X8_through_c28, f_X8_through_18, f_X8_through_c11, f_X8_through_c2, f_X8_through, gt_20, gr_20_0, gr_20_5, gr_20_7, gt_21, gt_50, gl_50, gs_50, gst_67, gt_52, gr_20_6, gt_51, gl_51, hC, hS, c_refM, n_sub10, l_of, n_ltT, n_ltF, n_leT, n_leF, n_eqT, n_eqF, n_neM, n_Mne, n_M0, n_Mlt, n_0leM, nI_clamp, x_in_nI, n_1, nI_add, x_at, x_bd_s, x_bv_s, ↓x_lt, decide_true, decide_false, Bool.and_self, Bool.true_and, Bool.and_true, if_true, if_false, ite_true, ite_false, ↓reduceIte, not_true_eq_false, not_false_eq_true, Nat.reduceAdd, Nat.reduceMul, Nat.reduceEqDiff, eq_self, true_and, and_true, false_and, and_false, Option.some.injEq, Prod.mk.injEq, l_0, l_1, l_2, l_3, l_4, l_5, l_6, l_7, l_8, l_9, l_10, l_100, l_160, ↓m_1, ↓m_2, ↓m_3, ↓m_4, ↓m_5, ↓m_6, ↓m_7])
theorem om_through {B : Nat} {σ : XS} (hW : WFS B σ) (hB : B ≤ 800000) (c s n : Int32) : OpM (f_X9_through 83 c s n) σ (sp_through σ c s n).1 (sp_through σ c s n).2 := by
  intro L b1 b2 M hG hI hMW
  obtain ⟨⟨⟨e0, e1, e2, e3, e4, e5, e6, e7⟩, hc, ht⟩, hi, hsh, hrf, hft, hrn, htr⟩ := id hI
  show EndM L b1 b2 (f_X9_through 83 c s n) M (sp_through σ c s n)
  have hC := m_isC hG hI hW c
  have hS := m_bars hG hI hW s n
  have hl := qc_le σ c s n
  unfold sp_through
  by_cases h0 : qc σ c s n = 0
  · rw [if_pos h0]
    obtain ⟨j, k, m, rfl, hj, rfl, k8, k1, rfl, mb, hm, hp⟩ := qc_0 h0
    have hx : j < 6 := by have := hW.1.1.1; omega
    have hs : f_X9_isShelf 83 (nI k) M = some (nI 1, M) := by simp (disch := first | assumption | omega) only [f_X9_isShelf, l_of, n_ltT, n_ltF, n_leT, n_leF, n_eqT, n_eqF, n_neM, n_Mne, n_M0, n_Mlt, n_0leM, nI_clamp, x_in_nI, n_1, nI_add, x_at, x_bd_s, x_bv_s, ↓x_lt, decide_true, decide_false, Bool.and_self, Bool.true_and, Bool.and_true, if_true, if_false, ite_true, ite_false, ↓reduceIte, not_true_eq_false, not_false_eq_true, Nat.reduceAdd, Nat.reduceMul, Nat.reduceEqDiff, eq_self, true_and, and_true, false_and, and_false, Option.some.injEq, Prod.mk.injEq, l_0, l_1, l_2, l_3, l_4, l_5, l_6, l_7, l_8, l_9, l_10, l_100, l_160, ↓m_1, ↓m_2, ↓m_3, ↓m_4, ↓m_5, ↓m_6, ↓m_7]
    rw [nI_clamp (by omega), if_neg (fun q => by rcases q with q | q; exact nI_pos (by omega) q; omega)] at hC
    rw [hp, rz_0] at hS
    by_cases h4 : m ≤ 40
    · have ha := m_are hG hI hW k8 k1 hm h4
      by_cases h1 : okS σ (nI k) (nI m) = true
      · rw [if_pos h1] at ha ⊢
        obtain ⟨M2, g1, g2, g3⟩ := m_wthr hG hI hW hB hj k8 k1 hm h4
        rw [nI_clamp (by omega), nI_clamp (by omega), nI_clamp (by omega)]
        refine m_w_end g2 hI hMW (g3.mono (fun a k q => by omega)) ?_
        simp (disch := first | assumption | omega) only [f_X9_through_52, f_X9_through_48, f_X9_through_c42, f_X9_through_26, f_X9_through_c23, f_X9_through_20, f_X9_through_c10, f_X9_through_c2, f_X9_through, gt_83, gr_83_9, gt_84, gl_84, hs, hC, hS, ha, g1, l_40, l_of, n_ltT, n_ltF, n_leT, n_leF, n_eqT, n_eqF, n_neM, n_Mne, n_M0, n_Mlt, n_0leM, nI_clamp, x_in_nI, n_1, nI_add, x_at, x_bd_s, x_bv_s, ↓x_lt, decide_true, decide_false, Bool.and_self, Bool.true_and, Bool.and_true, if_true, if_false, ite_true, ite_false, ↓reduceIte, not_true_eq_false, not_false_eq_true, Nat.reduceAdd, Nat.reduceMul, Nat.reduceEqDiff, eq_self, true_and, and_true, false_and, and_false, Option.some.injEq, Prod.mk.injEq, l_0, l_1, l_2, l_3, l_4, l_5, l_6, l_7, l_8, l_9, l_10, l_100, l_160, ↓m_1, ↓m_2, ↓m_3, ↓m_4, ↓m_5, ↓m_6, ↓m_7]
      · rw [if_neg h1] at ha ⊢
        exact m_no_end hG hI hMW (by simp (disch := first | assumption | omega) only [f_X9_through_52, f_X9_through_48, f_X9_through_c42, f_X9_through_26, f_X9_through_c23, f_X9_through_20, f_X9_through_c10, f_X9_through_c2, f_X9_through, gt_83, gr_83_9, gt_84, gl_84, hs, hC, hS, ha, m_noTen, l_40, l_of, n_ltT, n_ltF, n_leT, n_leF, n_eqT, n_eqF, n_neM, n_Mne, n_M0, n_Mlt, n_0leM, nI_clamp, x_in_nI, n_1, nI_add, x_at, x_bd_s, x_bv_s, ↓x_lt, decide_true, decide_false, Bool.and_self, Bool.true_and, Bool.and_true, if_true, if_false, ite_true, ite_false, ↓reduceIte, not_true_eq_false, not_false_eq_true, Nat.reduceAdd, Nat.reduceMul, Nat.reduceEqDiff, eq_self, true_and, and_true, false_and, and_false, Option.some.injEq, Prod.mk.injEq, l_0, l_1, l_2, l_3, l_4, l_5, l_6, l_7, l_8, l_9, l_10, l_100, l_160, ↓m_1, ↓m_2, ↓m_3, ↓m_4, ↓m_5, ↓m_6, ↓m_7])
    · have h1 : ¬ okS σ (nI k) (nI m) = true := fun q => by
        unfold okS at q
        rw [nI_clamp (show m < 2 ^ 31 by omega)] at q
        exact h4 (of_decide_eq_true (Bool.and_eq_true_iff.mp q).1)
      rw [if_neg h1]
      exact m_no_end hG hI hMW (by simp (disch := first | assumption | omega) only [f_X9_through_52, f_X9_through_48, f_X9_through_c42, f_X9_through_26, f_X9_through_c23, f_X9_through_20, f_X9_through_c10, f_X9_through_c2, f_X9_through, gt_83, gr_83_9, gt_84, gl_84, hs, hC, hS, m_noTen, l_40, l_of, n_ltT, n_ltF, n_leT, n_leF, n_eqT, n_eqF, n_neM, n_Mne, n_M0, n_Mlt, n_0leM, nI_clamp, x_in_nI, n_1, nI_add, x_at, x_bd_s, x_bv_s, ↓x_lt, decide_true, decide_false, Bool.and_self, Bool.true_and, Bool.and_true, if_true, if_false, ite_true, ite_false, ↓reduceIte, not_true_eq_false, not_false_eq_true, Nat.reduceAdd, Nat.reduceMul, Nat.reduceEqDiff, eq_self, true_and, and_true, false_and, and_false, Option.some.injEq, Prod.mk.injEq, l_0, l_1, l_2, l_3, l_4, l_5, l_6, l_7, l_8, l_9, l_10, l_100, l_160, ↓m_1, ↓m_2, ↓m_3, ↓m_4, ↓m_5, ↓m_6, ↓m_7])
  · rw [if_neg h0]
    by_cases hc : c < nI 0 ∨ r_s (s_now σ) 0 ≤ c.toNatClampNeg
    · have e : qc σ c s n = 1 := by unfold qc; rw [if_pos hc]
      rw [if_pos hc] at hC
      rw [e]
      rcases m_isS σ s n hG with ⟨hs, hp⟩ | hs
      · rw [hp, rz_s (by omega)] at hS
        exact m_no_end hG hI hMW (by simp (disch := first | assumption | omega) only [f_X9_through_52, f_X9_through_48, f_X9_through_c42, f_X9_through_26, f_X9_through_c23, f_X9_through_20, f_X9_through_c10, f_X9_through_c2, f_X9_through, gt_83, gr_83_9, gt_84, gl_84, hs, hC, hS, m_noTen, l_of, n_ltT, n_ltF, n_leT, n_leF, n_eqT, n_eqF, n_neM, n_Mne, n_M0, n_Mlt, n_0leM, nI_clamp, x_in_nI, n_1, nI_add, x_at, x_bd_s, x_bv_s, ↓x_lt, decide_true, decide_false, Bool.and_self, Bool.true_and, Bool.and_true, if_true, if_false, ite_true, ite_false, ↓reduceIte, not_true_eq_false, not_false_eq_true, Nat.reduceAdd, Nat.reduceMul, Nat.reduceEqDiff, eq_self, true_and, and_true, false_and, and_false, Option.some.injEq, Prod.mk.injEq, l_0, l_1, l_2, l_3, l_4, l_5, l_6, l_7, l_8, l_9, l_10, l_100, l_160, ↓m_1, ↓m_2, ↓m_3, ↓m_4, ↓m_5, ↓m_6, ↓m_7])
      · exact m_no_end hG hI hMW (by simp (disch := first | assumption | omega) only [f_X9_through_52, f_X9_through_48, f_X9_through_c42, f_X9_through_26, f_X9_through_c23, f_X9_through_20, f_X9_through_c10, f_X9_through_c2, f_X9_through, gt_83, gr_83_9, gt_84, gl_84, hs, hC, m_noTen, l_of, n_ltT, n_ltF, n_leT, n_leF, n_eqT, n_eqF, n_neM, n_Mne, n_M0, n_Mlt, n_0leM, nI_clamp, x_in_nI, n_1, nI_add, x_at, x_bd_s, x_bv_s, ↓x_lt, decide_true, decide_false, Bool.and_self, Bool.true_and, Bool.and_true, if_true, if_false, ite_true, ite_false, ↓reduceIte, not_true_eq_false, not_false_eq_true, Nat.reduceAdd, Nat.reduceMul, Nat.reduceEqDiff, eq_self, true_and, and_true, false_and, and_false, Option.some.injEq, Prod.mk.injEq, l_0, l_1, l_2, l_3, l_4, l_5, l_6, l_7, l_8, l_9, l_10, l_100, l_160, ↓m_1, ↓m_2, ↓m_3, ↓m_4, ↓m_5, ↓m_6, ↓m_7])
    · have e : qc σ c s n = pr σ s n := by unfold qc; rw [if_neg hc]
      rw [if_neg hc] at hC
      rw [e] at h0 hl ⊢
      rw [rz_s h0] at hS
      rcases m_isS σ s n hG with ⟨hs, hp⟩ | hs
      · exact m_no_end hG hI hMW (by simp (disch := first | assumption | omega) only [f_X9_through_52, f_X9_through_48, f_X9_through_c42, f_X9_through_26, f_X9_through_c23, f_X9_through_20, f_X9_through_c10, f_X9_through_c2, f_X9_through, gt_83, gr_83_9, gt_84, gl_84, hs, hC, hS, m_noTen, l_of, n_ltT, n_ltF, n_leT, n_leF, n_eqT, n_eqF, n_neM, n_Mne, n_M0, n_Mlt, n_0leM, nI_clamp, x_in_nI, n_1, nI_add, x_at, x_bd_s, x_bv_s, ↓x_lt, decide_true, decide_false, Bool.and_self, Bool.true_and, Bool.and_true, if_true, if_false, ite_true, ite_false, ↓reduceIte, not_true_eq_false, not_false_eq_true, Nat.reduceAdd, Nat.reduceMul, Nat.reduceEqDiff, eq_self, true_and, and_true, false_and, and_false, Option.some.injEq, Prod.mk.injEq, l_0, l_1, l_2, l_3, l_4, l_5, l_6, l_7, l_8, l_9, l_10, l_100, l_160, ↓m_1, ↓m_2, ↓m_3, ↓m_4, ↓m_5, ↓m_6, ↓m_7])
      · exact m_no_end hG hI hMW (by simp (disch := first | assumption | omega) only [f_X9_through_52, f_X9_through_48, f_X9_through_c42, f_X9_through_26, f_X9_through_c23, f_X9_through_20, f_X9_through_c10, f_X9_through_c2, f_X9_through, gt_83, gr_83_9, gt_84, gl_84, hs, hC, hS, m_noTen, l_of, n_ltT, n_ltF, n_leT, n_leF, n_eqT, n_eqF, n_neM, n_Mne, n_M0, n_Mlt, n_0leM, nI_clamp, x_in_nI, n_1, nI_add, x_at, x_bd_s, x_bv_s, ↓x_lt, decide_true, decide_false, Bool.and_self, Bool.true_and, Bool.and_true, if_true, if_false, ite_true, ite_false, ↓reduceIte, not_true_eq_false, not_false_eq_true, Nat.reduceAdd, Nat.reduceMul, Nat.reduceEqDiff, eq_self, true_and, and_true, false_and, and_false, Option.some.injEq, Prod.mk.injEq, l_0, l_1, l_2, l_3, l_4, l_5, l_6, l_7, l_8, l_9, l_10, l_100, l_160, ↓m_1, ↓m_2, ↓m_3, ↓m_4, ↓m_5, ↓m_6, ↓m_7])
theorem oc_run {B : Nat} {σ : XS} (hW : WFS B σ) (hB : B ≤ 800000) (c s n t w : Int32) : OpC (f_X8_run 20 c s n t w) σ (sp_run σ c s n t w).1 (sp_run σ c s n t w).2 := by
  intro L b1 b2 M hG hI
  obtain ⟨⟨⟨e0, e1, e2, e3, e4, e5, e6, e7⟩, hc, ht⟩, hi, hsh, hrf, hft, hrn, htr⟩ := id hI
  show EndC L (f_X8_run 20 c s n t w) M (sp_run σ c s n t w)
  have hC := c_isC hG hI hW c
  have hS := c_part hG hI hW s n
  have hl := qc_le σ c s n
  unfold sp_run
  by_cases h0 : qc σ c s n = 0
  · rw [if_pos h0]
    obtain ⟨j, k, m, rfl, hj, rfl, k8, k1, rfl, mb, hm, hp⟩ := qc_0 h0
    obtain ⟨⟨w0, w1, w2, w3, w4, w5, w6, w7⟩, wc, wl, wtt⟩ := id hW.1
    have hx : j < 6 := by omega
    obtain ⟨y1, y2, y3, y4⟩ := wc j hx
    rw [nI_clamp (by omega), if_neg (fun q => by rcases q with q | q; exact nI_pos (by omega) q; omega)] at hC
    rw [hp, rz_0] at hS
    rcases i_cs w with h1 | ⟨v, vb, rfl⟩
    · rw [if_pos (Or.inl h1)]
      exact c_no_end hG hI (by simp (disch := first | assumption | omega) only [f_X8_run_c116, bd_X8_run_105, f_X8_run_c99, f_X8_run_71, f_X8_run_67, f_X8_run_c61, f_X8_run_40, f_X8_run_36, f_X8_run_18, f_X8_run_c11, f_X8_run_c2, f_X8_run, gt_20, gr_20_0, gr_20_5, gr_20_7, gt_21, gt_50, gl_50, gs_50, gst_67, gt_52, gr_20_6, gt_51, gl_51, hC, hS, h1, c_refM, l_of, n_ltT, n_ltF, n_leT, n_leF, n_eqT, n_eqF, n_neM, n_Mne, n_M0, n_Mlt, n_0leM, nI_clamp, x_in_nI, n_1, nI_add, x_at, x_bd_s, x_bv_s, ↓x_lt, decide_true, decide_false, Bool.and_self, Bool.true_and, Bool.and_true, if_true, if_false, ite_true, ite_false, ↓reduceIte, not_true_eq_false, not_false_eq_true, Nat.reduceAdd, Nat.reduceMul, Nat.reduceEqDiff, eq_self, true_and, and_true, false_and, and_false, Option.some.injEq, Prod.mk.injEq, l_0, l_1, l_2, l_3, l_4, l_5, l_6, l_7, l_8, l_9, l_10, l_100, l_160, ↓m_1, ↓m_2, ↓m_3, ↓m_4, ↓m_5, ↓m_6, ↓m_7])
    by_cases h2 : 2 < v
    · rw [nI_clamp (show v < 2 ^ 31 by omega), if_pos (Or.inr h2)]
      exact c_no_end hG hI (by simp (disch := first | assumption | omega) only [f_X8_run_c116, bd_X8_run_105, f_X8_run_c99, f_X8_run_71, f_X8_run_67, f_X8_run_c61, f_X8_run_40, f_X8_run_36, f_X8_run_18, f_X8_run_c11, f_X8_run_c2, f_X8_run, gt_20, gr_20_0, gr_20_5, gr_20_7, gt_21, gt_50, gl_50, gs_50, gst_67, gt_52, gr_20_6, gt_51, gl_51, hC, hS, h2, c_refM, l_of, n_ltT, n_ltF, n_leT, n_leF, n_eqT, n_eqF, n_neM, n_Mne, n_M0, n_Mlt, n_0leM, nI_clamp, x_in_nI, n_1, nI_add, x_at, x_bd_s, x_bv_s, ↓x_lt, decide_true, decide_false, Bool.and_self, Bool.true_and, Bool.and_true, if_true, if_false, ite_true, ite_false, ↓reduceIte, not_true_eq_false, not_false_eq_true, Nat.reduceAdd, Nat.reduceMul, Nat.reduceEqDiff, eq_self, true_and, and_true, false_and, and_false, Option.some.injEq, Prod.mk.injEq, l_0, l_1, l_2, l_3, l_4, l_5, l_6, l_7, l_8, l_9, l_10, l_100, l_160, ↓m_1, ↓m_2, ↓m_3, ↓m_4, ↓m_5, ↓m_6, ↓m_7])
    rw [nI_clamp (show v < 2 ^ 31 by omega), if_neg (fun q => by rcases q with q | q; exact nI_pos (by omega) q; omega)]
    rcases i_cs t with h3 | ⟨u, ub, rfl⟩
    · rw [if_pos (Or.inl h3)]
      exact c_no_end hG hI (by simp (disch := first | assumption | omega) only [f_X8_run_c116, bd_X8_run_105, f_X8_run_c99, f_X8_run_71, f_X8_run_67, f_X8_run_c61, f_X8_run_40, f_X8_run_36, f_X8_run_18, f_X8_run_c11, f_X8_run_c2, f_X8_run, gt_20, gr_20_0, gr_20_5, gr_20_7, gt_21, gt_50, gl_50, gs_50, gst_67, gt_52, gr_20_6, gt_51, gl_51, hC, hS, h3, c_refM, l_of, n_ltT, n_ltF, n_leT, n_leF, n_eqT, n_eqF, n_neM, n_Mne, n_M0, n_Mlt, n_0leM, nI_clamp, x_in_nI, n_1, nI_add, x_at, x_bd_s, x_bv_s, ↓x_lt, decide_true, decide_false, Bool.and_self, Bool.true_and, Bool.and_true, if_true, if_false, ite_true, ite_false, ↓reduceIte, not_true_eq_false, not_false_eq_true, Nat.reduceAdd, Nat.reduceMul, Nat.reduceEqDiff, eq_self, true_and, and_true, false_and, and_false, Option.some.injEq, Prod.mk.injEq, l_0, l_1, l_2, l_3, l_4, l_5, l_6, l_7, l_8, l_9, l_10, l_100, l_160, ↓m_1, ↓m_2, ↓m_3, ↓m_4, ↓m_5, ↓m_6, ↓m_7])
    by_cases h4 : 400 < u
    · rw [nI_clamp (show u < 2 ^ 31 by omega), if_pos (Or.inr (Or.inl h4))]
      exact c_no_end hG hI (by simp (disch := first | assumption | omega) only [f_X8_run_c116, bd_X8_run_105, f_X8_run_c99, f_X8_run_71, f_X8_run_67, f_X8_run_c61, f_X8_run_40, f_X8_run_36, f_X8_run_18, f_X8_run_c11, f_X8_run_c2, f_X8_run, gt_20, gr_20_0, gr_20_5, gr_20_7, gt_21, gt_50, gl_50, gs_50, gst_67, gt_52, gr_20_6, gt_51, gl_51, hC, hS, h4, l_400, c_refM, l_of, n_ltT, n_ltF, n_leT, n_leF, n_eqT, n_eqF, n_neM, n_Mne, n_M0, n_Mlt, n_0leM, nI_clamp, x_in_nI, n_1, nI_add, x_at, x_bd_s, x_bv_s, ↓x_lt, decide_true, decide_false, Bool.and_self, Bool.true_and, Bool.and_true, if_true, if_false, ite_true, ite_false, ↓reduceIte, not_true_eq_false, not_false_eq_true, Nat.reduceAdd, Nat.reduceMul, Nat.reduceEqDiff, eq_self, true_and, and_true, false_and, and_false, Option.some.injEq, Prod.mk.injEq, l_0, l_1, l_2, l_3, l_4, l_5, l_6, l_7, l_8, l_9, l_10, l_100, l_160, ↓m_1, ↓m_2, ↓m_3, ↓m_4, ↓m_5, ↓m_6, ↓m_7])
    have ha := c_are hG hI hW k8 k1 hm
    rw [nI_clamp (show u < 2 ^ 31 by omega)]
    by_cases h5 : okS σ (nI k) (nI m) = true
    · rw [if_neg (fun q => by rcases q with q | q | q; exact nI_pos (by omega) q; omega; rw [h5] at q; cases q)]
      rw [if_pos h5] at ha
      have h6 : m ≤ 40 := by
        unfold okS at h5
        rw [nI_clamp (show m < 2 ^ 31 by omega)] at h5
        exact of_decide_eq_true (Bool.and_eq_true_iff.mp h5).1
      obtain ⟨M1, g1, g2, g3, g4, g5⟩ := c_wrun hG hI hW hB hj k8 k1 hm h6
      obtain ⟨M2, k1', k2, k3⟩ := c_run_lp (L := L) (b1 := b1) (b2 := b2) g5 (by omega) h6 w2 y1 y2 w3 w4 (t := u) (v := v) (by omega) (by omega) u x_fuel 0 M1 (fu (by omega)) g2 g3 (by omega)
      rw [nI_clamp (by omega), nI_clamp (by omega), nI_clamp (by omega)]
      refine c_w_end k2 hI ((g4.tr k3).mono (fun a k q => by omega)) ?_
      simp (disch := first | assumption | omega) only [f_X8_run_c116, bd_X8_run_105, f_X8_run_c99, f_X8_run_71, f_X8_run_67, f_X8_run_c61, f_X8_run_40, f_X8_run_36, f_X8_run_18, f_X8_run_c11, f_X8_run_c2, f_X8_run, gt_20, gr_20_0, gr_20_5, gr_20_7, gt_21, gt_50, gl_50, gs_50, gst_67, gt_52, gr_20_6, gt_51, gl_51, hC, hS, ha, g1, l_400, l_of, n_ltT, n_ltF, n_leT, n_leF, n_eqT, n_eqF, n_neM, n_Mne, n_M0, n_Mlt, n_0leM, nI_clamp, x_in_nI, n_1, nI_add, x_at, x_bd_s, x_bv_s, ↓x_lt, decide_true, decide_false, Bool.and_self, Bool.true_and, Bool.and_true, if_true, if_false, ite_true, ite_false, ↓reduceIte, not_true_eq_false, not_false_eq_true, Nat.reduceAdd, Nat.reduceMul, Nat.reduceEqDiff, eq_self, true_and, and_true, false_and, and_false, Option.some.injEq, Prod.mk.injEq, l_0, l_1, l_2, l_3, l_4, l_5, l_6, l_7, l_8, l_9, l_10, l_100, l_160, ↓m_1, ↓m_2, ↓m_3, ↓m_4, ↓m_5, ↓m_6, ↓m_7]
      exact k1'
    · rw [if_neg h5] at ha
      rw [if_pos (Or.inr (Or.inr (by cases hq : okS σ (nI k) (nI m) with | true => exact absurd hq h5 | false => rfl)))]
      exact c_no_end hG hI (by simp (disch := first | assumption | omega) only [f_X8_run_c116, bd_X8_run_105, f_X8_run_c99, f_X8_run_71, f_X8_run_67, f_X8_run_c61, f_X8_run_40, f_X8_run_36, f_X8_run_18, f_X8_run_c11, f_X8_run_c2, f_X8_run, gt_20, gr_20_0, gr_20_5, gr_20_7, gt_21, gt_50, gl_50, gs_50, gst_67, gt_52, gr_20_6, gt_51, gl_51, hC, hS, ha, l_400, c_refM, l_of, n_ltT, n_ltF, n_leT, n_leF, n_eqT, n_eqF, n_neM, n_Mne, n_M0, n_Mlt, n_0leM, nI_clamp, x_in_nI, n_1, nI_add, x_at, x_bd_s, x_bv_s, ↓x_lt, decide_true, decide_false, Bool.and_self, Bool.true_and, Bool.and_true, if_true, if_false, ite_true, ite_false, ↓reduceIte, not_true_eq_false, not_false_eq_true, Nat.reduceAdd, Nat.reduceMul, Nat.reduceEqDiff, eq_self, true_and, and_true, false_and, and_false, Option.some.injEq, Prod.mk.injEq, l_0, l_1, l_2, l_3, l_4, l_5, l_6, l_7, l_8, l_9, l_10, l_100, l_160, ↓m_1, ↓m_2, ↓m_3, ↓m_4, ↓m_5, ↓m_6, ↓m_7])
  · rw [if_neg h0]
    by_cases hc : c < nI 0 ∨ r_s (s_now σ) 0 ≤ c.toNatClampNeg
    · have e : qc σ c s n = 1 := by unfold qc; rw [if_pos hc]
      rw [if_pos hc] at hC
      rw [e]
      exact c_no_end hG hI (by simp (disch := first | assumption | omega) only [f_X8_run_c116, bd_X8_run_105, f_X8_run_c99, f_X8_run_71, f_X8_run_67, f_X8_run_c61, f_X8_run_40, f_X8_run_36, f_X8_run_18, f_X8_run_c11, f_X8_run_c2, f_X8_run, gt_20, gr_20_0, gr_20_5, gr_20_7, gt_21, gt_50, gl_50, gs_50, gst_67, gt_52, gr_20_6, gt_51, gl_51, hC, c_refM, l_of, n_ltT, n_ltF, n_leT, n_leF, n_eqT, n_eqF, n_neM, n_Mne, n_M0, n_Mlt, n_0leM, nI_clamp, x_in_nI, n_1, nI_add, x_at, x_bd_s, x_bv_s, ↓x_lt, decide_true, decide_false, Bool.and_self, Bool.true_and, Bool.and_true, if_true, if_false, ite_true, ite_false, ↓reduceIte, not_true_eq_false, not_false_eq_true, Nat.reduceAdd, Nat.reduceMul, Nat.reduceEqDiff, eq_self, true_and, and_true, false_and, and_false, Option.some.injEq, Prod.mk.injEq, l_0, l_1, l_2, l_3, l_4, l_5, l_6, l_7, l_8, l_9, l_10, l_100, l_160, ↓m_1, ↓m_2, ↓m_3, ↓m_4, ↓m_5, ↓m_6, ↓m_7])
    · have e : qc σ c s n = pr σ s n := by unfold qc; rw [if_neg hc]
      rw [if_neg hc] at hC
      rw [e] at h0 hl ⊢
      rw [rz_s h0] at hS
      exact c_no_end hG hI (by simp (disch := first | assumption | omega) only [f_X8_run_c116, bd_X8_run_105, f_X8_run_c99, f_X8_run_71, f_X8_run_67, f_X8_run_c61, f_X8_run_40, f_X8_run_36, f_X8_run_18, f_X8_run_c11, f_X8_run_c2, f_X8_run, gt_20, gr_20_0, gr_20_5, gr_20_7, gt_21, gt_50, gl_50, gs_50, gst_67, gt_52, gr_20_6, gt_51, gl_51, hC, hS, c_refM, l_of, n_ltT, n_ltF, n_leT, n_leF, n_eqT, n_eqF, n_neM, n_Mne, n_M0, n_Mlt, n_0leM, nI_clamp, x_in_nI, n_1, nI_add, x_at, x_bd_s, x_bv_s, ↓x_lt, decide_true, decide_false, Bool.and_self, Bool.true_and, Bool.and_true, if_true, if_false, ite_true, ite_false, ↓reduceIte, not_true_eq_false, not_false_eq_true, Nat.reduceAdd, Nat.reduceMul, Nat.reduceEqDiff, eq_self, true_and, and_true, false_and, and_false, Option.some.injEq, Prod.mk.injEq, l_0, l_1, l_2, l_3, l_4, l_5, l_6, l_7, l_8, l_9, l_10, l_100, l_160, ↓m_1, ↓m_2, ↓m_3, ↓m_4, ↓m_5, ↓m_6, ↓m_7])
theorem om_run {B : Nat} {σ : XS} (hW : WFS B σ) (hB : B ≤ 800000) (c s n t w : Int32) : OpM (f_X9_run 83 c s n t w) σ (sp_run σ c s n t w).1 (sp_run σ c s n t w).2 := by
  intro L b1 b2 M hG hI hMW
  obtain ⟨⟨⟨e0, e1, e2, e3, e4, e5, e6, e7⟩, hc, ht⟩, hi, hsh, hrf, hft, hrn, htr⟩ := id hI
  show EndM L b1 b2 (f_X9_run 83 c s n t w) M (sp_run σ c s n t w)
  have hC := m_isC hG hI hW c
  have hS := m_bars hG hI hW s n
  have hl := qc_le σ c s n
  unfold sp_run
  by_cases h0 : qc σ c s n = 0
  · rw [if_pos h0]
    obtain ⟨j, k, m, rfl, hj, rfl, k8, k1, rfl, mb, hm, hp⟩ := qc_0 h0
    have hx : j < 6 := by have := hW.1.1.1; omega
    have hs : f_X9_isShelf 83 (nI k) M = some (nI 1, M) := by simp (disch := first | assumption | omega) only [f_X9_isShelf, l_of, n_ltT, n_ltF, n_leT, n_leF, n_eqT, n_eqF, n_neM, n_Mne, n_M0, n_Mlt, n_0leM, nI_clamp, x_in_nI, n_1, nI_add, x_at, x_bd_s, x_bv_s, ↓x_lt, decide_true, decide_false, Bool.and_self, Bool.true_and, Bool.and_true, if_true, if_false, ite_true, ite_false, ↓reduceIte, not_true_eq_false, not_false_eq_true, Nat.reduceAdd, Nat.reduceMul, Nat.reduceEqDiff, eq_self, true_and, and_true, false_and, and_false, Option.some.injEq, Prod.mk.injEq, l_0, l_1, l_2, l_3, l_4, l_5, l_6, l_7, l_8, l_9, l_10, l_100, l_160, ↓m_1, ↓m_2, ↓m_3, ↓m_4, ↓m_5, ↓m_6, ↓m_7]
    rw [nI_clamp (by omega), if_neg (fun q => by rcases q with q | q; exact nI_pos (by omega) q; omega)] at hC
    rw [hp, rz_0] at hS
    rcases i_cs w with h1 | ⟨v, vb, rfl⟩
    · rw [if_pos (Or.inl h1)]
      exact m_no_end hG hI hMW (by simp (disch := first | assumption | omega) only [f_X9_run_c118, bd_X9_run_105, f_X9_run_c99, f_X9_run_85, f_X9_run_81, f_X9_run_c75, f_X9_run_48, f_X9_run_44, f_X9_run_26, f_X9_run_c23, f_X9_run_20, f_X9_run_c10, f_X9_run_c2, f_X9_run, gt_83, gr_83_9, gt_84, gl_84, hs, hC, hS, h1, m_noM, l_of, n_ltT, n_ltF, n_leT, n_leF, n_eqT, n_eqF, n_neM, n_Mne, n_M0, n_Mlt, n_0leM, nI_clamp, x_in_nI, n_1, nI_add, x_at, x_bd_s, x_bv_s, ↓x_lt, decide_true, decide_false, Bool.and_self, Bool.true_and, Bool.and_true, if_true, if_false, ite_true, ite_false, ↓reduceIte, not_true_eq_false, not_false_eq_true, Nat.reduceAdd, Nat.reduceMul, Nat.reduceEqDiff, eq_self, true_and, and_true, false_and, and_false, Option.some.injEq, Prod.mk.injEq, l_0, l_1, l_2, l_3, l_4, l_5, l_6, l_7, l_8, l_9, l_10, l_100, l_160, ↓m_1, ↓m_2, ↓m_3, ↓m_4, ↓m_5, ↓m_6, ↓m_7])
    by_cases h2 : 2 < v
    · rw [nI_clamp (show v < 2 ^ 31 by omega), if_pos (Or.inr h2)]
      exact m_no_end hG hI hMW (by simp (disch := first | assumption | omega) only [f_X9_run_c118, bd_X9_run_105, f_X9_run_c99, f_X9_run_85, f_X9_run_81, f_X9_run_c75, f_X9_run_48, f_X9_run_44, f_X9_run_26, f_X9_run_c23, f_X9_run_20, f_X9_run_c10, f_X9_run_c2, f_X9_run, gt_83, gr_83_9, gt_84, gl_84, hs, hC, hS, h2, m_noM, l_of, n_ltT, n_ltF, n_leT, n_leF, n_eqT, n_eqF, n_neM, n_Mne, n_M0, n_Mlt, n_0leM, nI_clamp, x_in_nI, n_1, nI_add, x_at, x_bd_s, x_bv_s, ↓x_lt, decide_true, decide_false, Bool.and_self, Bool.true_and, Bool.and_true, if_true, if_false, ite_true, ite_false, ↓reduceIte, not_true_eq_false, not_false_eq_true, Nat.reduceAdd, Nat.reduceMul, Nat.reduceEqDiff, eq_self, true_and, and_true, false_and, and_false, Option.some.injEq, Prod.mk.injEq, l_0, l_1, l_2, l_3, l_4, l_5, l_6, l_7, l_8, l_9, l_10, l_100, l_160, ↓m_1, ↓m_2, ↓m_3, ↓m_4, ↓m_5, ↓m_6, ↓m_7])
    rw [nI_clamp (show v < 2 ^ 31 by omega), if_neg (fun q => by rcases q with q | q; exact nI_pos (by omega) q; omega)]
    by_cases h6 : 40 < m
    · have h5 : okS σ (nI k) (nI m) = false := by
        unfold okS
        rw [nI_clamp (show m < 2 ^ 31 by omega), decide_eq_false (by omega), Bool.false_and]
      rw [if_pos (Or.inr (Or.inr h5))]
      exact m_no_end hG hI hMW (by simp (disch := first | assumption | omega) only [f_X9_run_c118, bd_X9_run_105, f_X9_run_c99, f_X9_run_85, f_X9_run_81, f_X9_run_c75, f_X9_run_48, f_X9_run_44, f_X9_run_26, f_X9_run_c23, f_X9_run_20, f_X9_run_c10, f_X9_run_c2, f_X9_run, gt_83, gr_83_9, gt_84, gl_84, hs, hC, hS, h6, l_40, m_noM, l_of, n_ltT, n_ltF, n_leT, n_leF, n_eqT, n_eqF, n_neM, n_Mne, n_M0, n_Mlt, n_0leM, nI_clamp, x_in_nI, n_1, nI_add, x_at, x_bd_s, x_bv_s, ↓x_lt, decide_true, decide_false, Bool.and_self, Bool.true_and, Bool.and_true, if_true, if_false, ite_true, ite_false, ↓reduceIte, not_true_eq_false, not_false_eq_true, Nat.reduceAdd, Nat.reduceMul, Nat.reduceEqDiff, eq_self, true_and, and_true, false_and, and_false, Option.some.injEq, Prod.mk.injEq, l_0, l_1, l_2, l_3, l_4, l_5, l_6, l_7, l_8, l_9, l_10, l_100, l_160, ↓m_1, ↓m_2, ↓m_3, ↓m_4, ↓m_5, ↓m_6, ↓m_7])
    rcases i_cs t with h3 | ⟨u, ub, rfl⟩
    · rw [if_pos (Or.inl h3)]
      exact m_no_end hG hI hMW (by simp (disch := first | assumption | omega) only [f_X9_run_c118, bd_X9_run_105, f_X9_run_c99, f_X9_run_85, f_X9_run_81, f_X9_run_c75, f_X9_run_48, f_X9_run_44, f_X9_run_26, f_X9_run_c23, f_X9_run_20, f_X9_run_c10, f_X9_run_c2, f_X9_run, gt_83, gr_83_9, gt_84, gl_84, hs, hC, hS, h3, l_40, m_noM, l_of, n_ltT, n_ltF, n_leT, n_leF, n_eqT, n_eqF, n_neM, n_Mne, n_M0, n_Mlt, n_0leM, nI_clamp, x_in_nI, n_1, nI_add, x_at, x_bd_s, x_bv_s, ↓x_lt, decide_true, decide_false, Bool.and_self, Bool.true_and, Bool.and_true, if_true, if_false, ite_true, ite_false, ↓reduceIte, not_true_eq_false, not_false_eq_true, Nat.reduceAdd, Nat.reduceMul, Nat.reduceEqDiff, eq_self, true_and, and_true, false_and, and_false, Option.some.injEq, Prod.mk.injEq, l_0, l_1, l_2, l_3, l_4, l_5, l_6, l_7, l_8, l_9, l_10, l_100, l_160, ↓m_1, ↓m_2, ↓m_3, ↓m_4, ↓m_5, ↓m_6, ↓m_7])
    by_cases h4 : 400 < u
    · rw [nI_clamp (show u < 2 ^ 31 by omega), if_pos (Or.inr (Or.inl h4))]
      exact m_no_end hG hI hMW (by simp (disch := first | assumption | omega) only [f_X9_run_c118, bd_X9_run_105, f_X9_run_c99, f_X9_run_85, f_X9_run_81, f_X9_run_c75, f_X9_run_48, f_X9_run_44, f_X9_run_26, f_X9_run_c23, f_X9_run_20, f_X9_run_c10, f_X9_run_c2, f_X9_run, gt_83, gr_83_9, gt_84, gl_84, hs, hC, hS, h4, l_40, l_400, m_noM, l_of, n_ltT, n_ltF, n_leT, n_leF, n_eqT, n_eqF, n_neM, n_Mne, n_M0, n_Mlt, n_0leM, nI_clamp, x_in_nI, n_1, nI_add, x_at, x_bd_s, x_bv_s, ↓x_lt, decide_true, decide_false, Bool.and_self, Bool.true_and, Bool.and_true, if_true, if_false, ite_true, ite_false, ↓reduceIte, not_true_eq_false, not_false_eq_true, Nat.reduceAdd, Nat.reduceMul, Nat.reduceEqDiff, eq_self, true_and, and_true, false_and, and_false, Option.some.injEq, Prod.mk.injEq, l_0, l_1, l_2, l_3, l_4, l_5, l_6, l_7, l_8, l_9, l_10, l_100, l_160, ↓m_1, ↓m_2, ↓m_3, ↓m_4, ↓m_5, ↓m_6, ↓m_7])
    have ha := m_are hG hI hW k8 k1 hm (by omega)
    rw [nI_clamp (show u < 2 ^ 31 by omega)]
    by_cases h5 : okS σ (nI k) (nI m) = true
    · rw [if_neg (fun q => by rcases q with q | q | q; exact nI_pos (by omega) q; omega; rw [h5] at q; cases q)]
      rw [if_pos h5] at ha
      obtain ⟨p1, p2, p3⟩ := (hI.2.2.1 k k8).2.1 k1
      have hR := hI.1
      obtain ⟨M1, g1, g2, g3, g4⟩ := m_begins (c := j) hG hI.1 (by omega)
      obtain ⟨M2, k1', k2, k3⟩ := m_run_lp (L := L) (b1 := b1) (b2 := b2) (σ := σ) (h := B) (k := k) (m := m) (c := j) (w := (r_q (s_now σ) 2 j, r_off (s_now σ) j, r_q (s_now σ) 3 j, 0)) hW.1 ⟨hW.1.2.2.1 j hj, (hW.1.2.1 j (by omega)).2.2.2, Nat.zero_le _⟩ (by omega) (by omega) k8 (by omega) (t := u) (v := v) (by omega) (by omega) u x_fuel 0 M1 (fu (by omega)) g2 (hR.ag2 (fun a j q => g4.1 _ _ (by omega))) (fun i hi => (g4.2 _ _).trans (p3 i hi)) g3 (by omega)
      rw [nI_clamp (by omega), nI_clamp (by omega), nI_clamp (by omega)]
      refine m_w_end k2 hI hMW ((g4.tr k3).mono (fun a k q => by omega)) ?_
      simp (disch := first | assumption | omega) only [f_X9_run_c118, bd_X9_run_105, f_X9_run_c99, f_X9_run_85, f_X9_run_81, f_X9_run_c75, f_X9_run_48, f_X9_run_44, f_X9_run_26, f_X9_run_c23, f_X9_run_20, f_X9_run_c10, f_X9_run_c2, f_X9_run, gt_83, gr_83_9, gt_84, gl_84, hs, hC, hS, ha, g1, l_40, l_400, l_of, n_ltT, n_ltF, n_leT, n_leF, n_eqT, n_eqF, n_neM, n_Mne, n_M0, n_Mlt, n_0leM, nI_clamp, x_in_nI, n_1, nI_add, x_at, x_bd_s, x_bv_s, ↓x_lt, decide_true, decide_false, Bool.and_self, Bool.true_and, Bool.and_true, if_true, if_false, ite_true, ite_false, ↓reduceIte, not_true_eq_false, not_false_eq_true, Nat.reduceAdd, Nat.reduceMul, Nat.reduceEqDiff, eq_self, true_and, and_true, false_and, and_false, Option.some.injEq, Prod.mk.injEq, l_0, l_1, l_2, l_3, l_4, l_5, l_6, l_7, l_8, l_9, l_10, l_100, l_160, ↓m_1, ↓m_2, ↓m_3, ↓m_4, ↓m_5, ↓m_6, ↓m_7]
      exact k1'
    · rw [if_neg h5] at ha
      rw [if_pos (Or.inr (Or.inr (by cases hq : okS σ (nI k) (nI m) with | true => exact absurd hq h5 | false => rfl)))]
      exact m_no_end hG hI hMW (by simp (disch := first | assumption | omega) only [f_X9_run_c118, bd_X9_run_105, f_X9_run_c99, f_X9_run_85, f_X9_run_81, f_X9_run_c75, f_X9_run_48, f_X9_run_44, f_X9_run_26, f_X9_run_c23, f_X9_run_20, f_X9_run_c10, f_X9_run_c2, f_X9_run, gt_83, gr_83_9, gt_84, gl_84, hs, hC, hS, ha, l_40, l_400, m_noM, l_of, n_ltT, n_ltF, n_leT, n_leF, n_eqT, n_eqF, n_neM, n_Mne, n_M0, n_Mlt, n_0leM, nI_clamp, x_in_nI, n_1, nI_add, x_at, x_bd_s, x_bv_s, ↓x_lt, decide_true, decide_false, Bool.and_self, Bool.true_and, Bool.and_true, if_true, if_false, ite_true, ite_false, ↓reduceIte, not_true_eq_false, not_false_eq_true, Nat.reduceAdd, Nat.reduceMul, Nat.reduceEqDiff, eq_self, true_and, and_true, false_and, and_false, Option.some.injEq, Prod.mk.injEq, l_0, l_1, l_2, l_3, l_4, l_5, l_6, l_7, l_8, l_9, l_10, l_100, l_160, ↓m_1, ↓m_2, ↓m_3, ↓m_4, ↓m_5, ↓m_6, ↓m_7])
  · rw [if_neg h0]
    by_cases hc : c < nI 0 ∨ r_s (s_now σ) 0 ≤ c.toNatClampNeg
    · have e : qc σ c s n = 1 := by unfold qc; rw [if_pos hc]
      rw [if_pos hc] at hC
      rw [e]
      rcases m_isS σ s n hG with ⟨hs, hp⟩ | hs
      · rw [hp, rz_s (by omega)] at hS
        exact m_no_end hG hI hMW (by simp (disch := first | assumption | omega) only [f_X9_run_c118, bd_X9_run_105, f_X9_run_c99, f_X9_run_85, f_X9_run_81, f_X9_run_c75, f_X9_run_48, f_X9_run_44, f_X9_run_26, f_X9_run_c23, f_X9_run_20, f_X9_run_c10, f_X9_run_c2, f_X9_run, gt_83, gr_83_9, gt_84, gl_84, hs, hC, hS, m_noM, l_of, n_ltT, n_ltF, n_leT, n_leF, n_eqT, n_eqF, n_neM, n_Mne, n_M0, n_Mlt, n_0leM, nI_clamp, x_in_nI, n_1, nI_add, x_at, x_bd_s, x_bv_s, ↓x_lt, decide_true, decide_false, Bool.and_self, Bool.true_and, Bool.and_true, if_true, if_false, ite_true, ite_false, ↓reduceIte, not_true_eq_false, not_false_eq_true, Nat.reduceAdd, Nat.reduceMul, Nat.reduceEqDiff, eq_self, true_and, and_true, false_and, and_false, Option.some.injEq, Prod.mk.injEq, l_0, l_1, l_2, l_3, l_4, l_5, l_6, l_7, l_8, l_9, l_10, l_100, l_160, ↓m_1, ↓m_2, ↓m_3, ↓m_4, ↓m_5, ↓m_6, ↓m_7])
      · exact m_no_end hG hI hMW (by simp (disch := first | assumption | omega) only [f_X9_run_c118, bd_X9_run_105, f_X9_run_c99, f_X9_run_85, f_X9_run_81, f_X9_run_c75, f_X9_run_48, f_X9_run_44, f_X9_run_26, f_X9_run_c23, f_X9_run_20, f_X9_run_c10, f_X9_run_c2, f_X9_run, gt_83, gr_83_9, gt_84, gl_84, hs, hC, m_noM, l_of, n_ltT, n_ltF, n_leT, n_leF, n_eqT, n_eqF, n_neM, n_Mne, n_M0, n_Mlt, n_0leM, nI_clamp, x_in_nI, n_1, nI_add, x_at, x_bd_s, x_bv_s, ↓x_lt, decide_true, decide_false, Bool.and_self, Bool.true_and, Bool.and_true, if_true, if_false, ite_true, ite_false, ↓reduceIte, not_true_eq_false, not_false_eq_true, Nat.reduceAdd, Nat.reduceMul, Nat.reduceEqDiff, eq_self, true_and, and_true, false_and, and_false, Option.some.injEq, Prod.mk.injEq, l_0, l_1, l_2, l_3, l_4, l_5, l_6, l_7, l_8, l_9, l_10, l_100, l_160, ↓m_1, ↓m_2, ↓m_3, ↓m_4, ↓m_5, ↓m_6, ↓m_7])
    · have e : qc σ c s n = pr σ s n := by unfold qc; rw [if_neg hc]
      rw [if_neg hc] at hC
      rw [e] at h0 hl ⊢
      rw [rz_s h0] at hS
      rcases m_isS σ s n hG with ⟨hs, hp⟩ | hs
      · exact m_no_end hG hI hMW (by simp (disch := first | assumption | omega) only [f_X9_run_c118, bd_X9_run_105, f_X9_run_c99, f_X9_run_85, f_X9_run_81, f_X9_run_c75, f_X9_run_48, f_X9_run_44, f_X9_run_26, f_X9_run_c23, f_X9_run_20, f_X9_run_c10, f_X9_run_c2, f_X9_run, gt_83, gr_83_9, gt_84, gl_84, hs, hC, hS, m_noM, l_of, n_ltT, n_ltF, n_leT, n_leF, n_eqT, n_eqF, n_neM, n_Mne, n_M0, n_Mlt, n_0leM, nI_clamp, x_in_nI, n_1, nI_add, x_at, x_bd_s, x_bv_s, ↓x_lt, decide_true, decide_false, Bool.and_self, Bool.true_and, Bool.and_true, if_true, if_false, ite_true, ite_false, ↓reduceIte, not_true_eq_false, not_false_eq_true, Nat.reduceAdd, Nat.reduceMul, Nat.reduceEqDiff, eq_self, true_and, and_true, false_and, and_false, Option.some.injEq, Prod.mk.injEq, l_0, l_1, l_2, l_3, l_4, l_5, l_6, l_7, l_8, l_9, l_10, l_100, l_160, ↓m_1, ↓m_2, ↓m_3, ↓m_4, ↓m_5, ↓m_6, ↓m_7])
      · exact m_no_end hG hI hMW (by simp (disch := first | assumption | omega) only [f_X9_run_c118, bd_X9_run_105, f_X9_run_c99, f_X9_run_85, f_X9_run_81, f_X9_run_c75, f_X9_run_48, f_X9_run_44, f_X9_run_26, f_X9_run_c23, f_X9_run_20, f_X9_run_c10, f_X9_run_c2, f_X9_run, gt_83, gr_83_9, gt_84, gl_84, hs, hC, hS, m_noM, l_of, n_ltT, n_ltF, n_leT, n_leF, n_eqT, n_eqF, n_neM, n_Mne, n_M0, n_Mlt, n_0leM, nI_clamp, x_in_nI, n_1, nI_add, x_at, x_bd_s, x_bv_s, ↓x_lt, decide_true, decide_false, Bool.and_self, Bool.true_and, Bool.and_true, if_true, if_false, ite_true, ite_false, ↓reduceIte, not_true_eq_false, not_false_eq_true, Nat.reduceAdd, Nat.reduceMul, Nat.reduceEqDiff, eq_self, true_and, and_true, false_and, and_false, Option.some.injEq, Prod.mk.injEq, l_0, l_1, l_2, l_3, l_4, l_5, l_6, l_7, l_8, l_9, l_10, l_100, l_160, ↓m_1, ↓m_2, ↓m_3, ↓m_4, ↓m_5, ↓m_6, ↓m_7])
