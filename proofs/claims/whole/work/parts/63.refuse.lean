/-! what is refused of a ROW, of a part of it, of SECONDS -/
def rz (k : Nat) : Int32 := if k = 0 then nI 0 else nM k
def pq (σ : XS) (p q : Int32) : Nat :=
  if p < nI 0 ∨ 8 ≤ p.toNatClampNeg ∨ q < nI 0 ∨ 8 ≤ q.toNatClampNeg then 1 else if s_sh σ 0 p.toNatClampNeg = 2 ∨ s_sh σ 0 q.toNatClampNeg = 2 then 2 else if s_sh σ 0 p.toNatClampNeg = 1 ∧ s_sh σ 0 q.toNatClampNeg = 1 then 0 else 3
def pr (σ : XS) (s n : Int32) : Nat := if pq σ s s = 0 then (if n < nI 0 then 4 else if s_sh σ 2 s.toNatClampNeg < n.toNatClampNeg then 5 else 0) else pq σ s s
theorem pq_le (σ : XS) (p q : Int32) : pq σ p q ≤ 3 := by
  unfold pq; repeat' split
  all_goals omega
theorem pr_le (σ : XS) (s n : Int32) : pr σ s n ≤ 5 := by
  have := pq_le σ s s
  unfold pr; repeat' split
  all_goals omega
theorem pq_0 {σ : XS} {p q : Int32} (h : pq σ p q = 0) : ∃ k l, p = nI k ∧ k < 8 ∧ s_sh σ 0 k = 1 ∧ q = nI l ∧ l < 8 ∧ s_sh σ 0 l = 1 := by
  unfold pq at h
  rcases i_cs p with h1 | ⟨k, kb, rfl⟩
  · rw [if_pos (Or.inl h1)] at h; omega
  rcases i_cs q with h2 | ⟨l, lb, rfl⟩
  · rw [if_pos (Or.inr (Or.inr (Or.inl h2)))] at h; omega
  rw [nI_clamp (by omega), nI_clamp (by omega)] at h
  split at h
  · omega
  · next h3 =>
    split at h
    · omega
    · split at h
      · next h4 =>
        have hk : ¬ 8 ≤ k := fun z => h3 (Or.inr (Or.inl z))
        have hl : ¬ 8 ≤ l := fun z => h3 (Or.inr (Or.inr (Or.inr z)))
        exact ⟨k, l, rfl, by omega, h4.1, rfl, by omega, h4.2⟩
      · omega
theorem pr_0 {σ : XS} {s n : Int32} (h : pr σ s n = 0) : ∃ k m, s = nI k ∧ k < 8 ∧ s_sh σ 0 k = 1 ∧ n = nI m ∧ m < 2147483648 ∧ m ≤ s_sh σ 2 k := by
  unfold pr at h
  split at h
  · next h0 =>
    obtain ⟨k, l, e1, k8, k1, -⟩ := pq_0 h0
    subst e1
    rw [nI_clamp (by omega)] at h
    rcases i_cs n with h1 | ⟨m, mb, rfl⟩
    · rw [if_pos h1] at h; omega
    · rw [nI_clamp (by omega)] at h
      split at h
      · omega
      · split at h
        · omega
        · exact ⟨k, m, rfl, k8, k1, rfl, mb, by omega⟩
  · omega
section
variable {L : Nat} {b1 b2 : Bool} {M : XM} {σ : XS} {B : Nat}
set_option maxHeartbeats 800000 in
theorem c_rows (hG : Geo L b1 b2 M) (hI : CInv σ M) (hW : WFS B σ) (p q : Int32) : f_X8_rowsRefusal 20 p q M = some (rz (pq σ p q), M) := by
  have hsh := hI.2.2.1
  unfold pq
  rcases i_cs p with h1 | ⟨k, kb, rfl⟩
  · rw [if_pos (Or.inl h1)]
    simp (disch := first | assumption | omega) only [f_X8_rowsRefusal_c61, f_X8_rowsRefusal_c49, f_X8_rowsRefusal_c34, f_X8_rowsRefusal_c22, f_X8_rowsRefusal_c8, f_X8_rowsRefusal_c1, f_X8_rowsRefusal, f_X8_isShelf, h1, rz, l_of, n_ltT, n_ltF, n_leT, n_leF, n_eqT, n_eqF, n_neM, n_Mne, n_M0, n_Mlt, n_0leM, nI_clamp, x_in_nI, n_1, nI_add, x_at, x_bd_s, x_bv_s, ↓x_lt, decide_true, decide_false, Bool.and_self, Bool.true_and, Bool.and_true, if_true, if_false, ite_true, ite_false, ↓reduceIte, not_true_eq_false, not_false_eq_true, Nat.reduceAdd, Nat.reduceMul, Nat.reduceEqDiff, eq_self, true_and, and_true, false_and, and_false, Option.some.injEq, Prod.mk.injEq, l_0, l_1, l_2, l_3, l_4, l_5, l_6, l_7, l_8, l_9, l_10, l_100, l_160, ↓m_1, ↓m_2, ↓m_3, ↓m_4, ↓m_5, ↓m_6, ↓m_7]
  by_cases h2 : 8 ≤ k
  · rw [nI_clamp (by omega), if_pos (Or.inr (Or.inl h2))]
    simp (disch := first | assumption | omega) only [f_X8_rowsRefusal_c61, f_X8_rowsRefusal_c49, f_X8_rowsRefusal_c34, f_X8_rowsRefusal_c22, f_X8_rowsRefusal_c8, f_X8_rowsRefusal_c1, f_X8_rowsRefusal, f_X8_isShelf, h2, rz, l_of, n_ltT, n_ltF, n_leT, n_leF, n_eqT, n_eqF, n_neM, n_Mne, n_M0, n_Mlt, n_0leM, nI_clamp, x_in_nI, n_1, nI_add, x_at, x_bd_s, x_bv_s, ↓x_lt, decide_true, decide_false, Bool.and_self, Bool.true_and, Bool.and_true, if_true, if_false, ite_true, ite_false, ↓reduceIte, not_true_eq_false, not_false_eq_true, Nat.reduceAdd, Nat.reduceMul, Nat.reduceEqDiff, eq_self, true_and, and_true, false_and, and_false, Option.some.injEq, Prod.mk.injEq, l_0, l_1, l_2, l_3, l_4, l_5, l_6, l_7, l_8, l_9, l_10, l_100, l_160, ↓m_1, ↓m_2, ↓m_3, ↓m_4, ↓m_5, ↓m_6, ↓m_7]
  rcases i_cs q with h3 | ⟨l, lb, rfl⟩
  · rw [if_pos (Or.inr (Or.inr (Or.inl h3)))]
    simp (disch := first | assumption | omega) only [f_X8_rowsRefusal_c61, f_X8_rowsRefusal_c49, f_X8_rowsRefusal_c34, f_X8_rowsRefusal_c22, f_X8_rowsRefusal_c8, f_X8_rowsRefusal_c1, f_X8_rowsRefusal, f_X8_isShelf, h2, h3, rz, l_of, n_ltT, n_ltF, n_leT, n_leF, n_eqT, n_eqF, n_neM, n_Mne, n_M0, n_Mlt, n_0leM, nI_clamp, x_in_nI, n_1, nI_add, x_at, x_bd_s, x_bv_s, ↓x_lt, decide_true, decide_false, Bool.and_self, Bool.true_and, Bool.and_true, if_true, if_false, ite_true, ite_false, ↓reduceIte, not_true_eq_false, not_false_eq_true, Nat.reduceAdd, Nat.reduceMul, Nat.reduceEqDiff, eq_self, true_and, and_true, false_and, and_false, Option.some.injEq, Prod.mk.injEq, l_0, l_1, l_2, l_3, l_4, l_5, l_6, l_7, l_8, l_9, l_10, l_100, l_160, ↓m_1, ↓m_2, ↓m_3, ↓m_4, ↓m_5, ↓m_6, ↓m_7]
  by_cases h4 : 8 ≤ l
  · rw [nI_clamp (by omega), nI_clamp (by omega), if_pos (Or.inr (Or.inr (Or.inr h4)))]
    simp (disch := first | assumption | omega) only [f_X8_rowsRefusal_c61, f_X8_rowsRefusal_c49, f_X8_rowsRefusal_c34, f_X8_rowsRefusal_c22, f_X8_rowsRefusal_c8, f_X8_rowsRefusal_c1, f_X8_rowsRefusal, f_X8_isShelf, h2, h4, rz, l_of, n_ltT, n_ltF, n_leT, n_leF, n_eqT, n_eqF, n_neM, n_Mne, n_M0, n_Mlt, n_0leM, nI_clamp, x_in_nI, n_1, nI_add, x_at, x_bd_s, x_bv_s, ↓x_lt, decide_true, decide_false, Bool.and_self, Bool.true_and, Bool.and_true, if_true, if_false, ite_true, ite_false, ↓reduceIte, not_true_eq_false, not_false_eq_true, Nat.reduceAdd, Nat.reduceMul, Nat.reduceEqDiff, eq_self, true_and, and_true, false_and, and_false, Option.some.injEq, Prod.mk.injEq, l_0, l_1, l_2, l_3, l_4, l_5, l_6, l_7, l_8, l_9, l_10, l_100, l_160, ↓m_1, ↓m_2, ↓m_3, ↓m_4, ↓m_5, ↓m_6, ↓m_7]
  rw [nI_clamp (by omega), nI_clamp (by omega), if_neg (fun z => by
    rcases z with z | z | z | z
    · exact nI_pos (by omega) z
    · exact h2 z
    · exact nI_pos (by omega) z
    · exact h4 z)]
  obtain ⟨kg0, kg1, kg2⟩ := hsh k (by omega)
  obtain ⟨lg0, lg1, lg2⟩ := hsh l (by omega)
  have kv := (hW.2.2.1 k (by omega)).1
  have lv := (hW.2.2.1 l (by omega)).1
  have kw := (hW.2.2.1 k (by omega)).2.2
  have lw := (hW.2.2.1 l (by omega)).2.2
  have kx := (hW.2.2.1 k (by omega)).2.1
  have lx := (hW.2.2.1 l (by omega)).2.1
  have w0 := hW.1.1.1
  rcases (by omega : s_sh σ 0 k = 0 ∨ s_sh σ 0 k = 1 ∨ s_sh σ 0 k = 2) with u | u | u
  · obtain ⟨p1, p2, p3⟩ := kg0 u
    rcases (by omega : s_sh σ 0 l = 0 ∨ s_sh σ 0 l = 1 ∨ s_sh σ 0 l = 2) with v | v | v
    · obtain ⟨q1, q2, q3⟩ := lg0 v
      simp (disch := first | assumption | omega) only [f_X8_rowsRefusal_c61, f_X8_rowsRefusal_c49, f_X8_rowsRefusal_c34, f_X8_rowsRefusal_c22, f_X8_rowsRefusal_c8, f_X8_rowsRefusal_c1, f_X8_rowsRefusal, f_X8_isShelf, f_X6_hasRow, f_X6_hasCounter, gt_20, gr_20_5, gt_50, gl_50, gs_50, gst_67, p1, p2, q1, q2, u, v, rz, l_of, n_ltT, n_ltF, n_leT, n_leF, n_eqT, n_eqF, n_neM, n_Mne, n_M0, n_Mlt, n_0leM, nI_clamp, x_in_nI, n_1, nI_add, x_at, x_bd_s, x_bv_s, ↓x_lt, decide_true, decide_false, Bool.and_self, Bool.true_and, Bool.and_true, if_true, if_false, ite_true, ite_false, ↓reduceIte, not_true_eq_false, not_false_eq_true, Nat.reduceAdd, Nat.reduceMul, Nat.reduceEqDiff, eq_self, true_and, and_true, false_and, and_false, Option.some.injEq, Prod.mk.injEq, l_0, l_1, l_2, l_3, l_4, l_5, l_6, l_7, l_8, l_9, l_10, l_100, l_160, ↓m_1, ↓m_2, ↓m_3, ↓m_4, ↓m_5, ↓m_6, ↓m_7, or_self, and_self]
    · obtain ⟨q1, q2, q3, q4⟩ := lg1 v
      simp (disch := first | assumption | omega) only [f_X8_rowsRefusal_c61, f_X8_rowsRefusal_c49, f_X8_rowsRefusal_c34, f_X8_rowsRefusal_c22, f_X8_rowsRefusal_c8, f_X8_rowsRefusal_c1, f_X8_rowsRefusal, f_X8_isShelf, f_X6_hasRow, f_X6_hasCounter, gt_20, gr_20_5, gt_50, gl_50, gs_50, gst_67, p1, p2, q1, q2, u, v, rz, l_of, n_ltT, n_ltF, n_leT, n_leF, n_eqT, n_eqF, n_neM, n_Mne, n_M0, n_Mlt, n_0leM, nI_clamp, x_in_nI, n_1, nI_add, x_at, x_bd_s, x_bv_s, ↓x_lt, decide_true, decide_false, Bool.and_self, Bool.true_and, Bool.and_true, if_true, if_false, ite_true, ite_false, ↓reduceIte, not_true_eq_false, not_false_eq_true, Nat.reduceAdd, Nat.reduceMul, Nat.reduceEqDiff, eq_self, true_and, and_true, false_and, and_false, Option.some.injEq, Prod.mk.injEq, l_0, l_1, l_2, l_3, l_4, l_5, l_6, l_7, l_8, l_9, l_10, l_100, l_160, ↓m_1, ↓m_2, ↓m_3, ↓m_4, ↓m_5, ↓m_6, ↓m_7, or_self, and_self]
    · obtain ⟨q1, q2, q3⟩ := lg2 v
      have lw := lw v
      simp (disch := first | assumption | omega) only [f_X8_rowsRefusal_c61, f_X8_rowsRefusal_c49, f_X8_rowsRefusal_c34, f_X8_rowsRefusal_c22, f_X8_rowsRefusal_c8, f_X8_rowsRefusal_c1, f_X8_rowsRefusal, f_X8_isShelf, f_X6_hasRow, f_X6_hasCounter, gt_20, gr_20_5, gt_50, gl_50, gs_50, gst_67, p1, p2, q1, q2, u, v, rz, l_of, n_ltT, n_ltF, n_leT, n_leF, n_eqT, n_eqF, n_neM, n_Mne, n_M0, n_Mlt, n_0leM, nI_clamp, x_in_nI, n_1, nI_add, x_at, x_bd_s, x_bv_s, ↓x_lt, decide_true, decide_false, Bool.and_self, Bool.true_and, Bool.and_true, if_true, if_false, ite_true, ite_false, ↓reduceIte, not_true_eq_false, not_false_eq_true, Nat.reduceAdd, Nat.reduceMul, Nat.reduceEqDiff, eq_self, true_and, and_true, false_and, and_false, Option.some.injEq, Prod.mk.injEq, l_0, l_1, l_2, l_3, l_4, l_5, l_6, l_7, l_8, l_9, l_10, l_100, l_160, ↓m_1, ↓m_2, ↓m_3, ↓m_4, ↓m_5, ↓m_6, ↓m_7, or_self, and_self, or_true]
  · obtain ⟨p1, p2, p3, p4⟩ := kg1 u
    have kx := kx u
    rcases (by omega : s_sh σ 0 l = 0 ∨ s_sh σ 0 l = 1 ∨ s_sh σ 0 l = 2) with v | v | v
    · obtain ⟨q1, q2, q3⟩ := lg0 v
      simp (disch := first | assumption | omega) only [f_X8_rowsRefusal_c61, f_X8_rowsRefusal_c49, f_X8_rowsRefusal_c34, f_X8_rowsRefusal_c22, f_X8_rowsRefusal_c8, f_X8_rowsRefusal_c1, f_X8_rowsRefusal, f_X8_isShelf, f_X6_hasRow, f_X6_hasCounter, gt_20, gr_20_5, gt_50, gl_50, gs_50, gst_67, p1, p2, q1, q2, u, v, rz, l_of, n_ltT, n_ltF, n_leT, n_leF, n_eqT, n_eqF, n_neM, n_Mne, n_M0, n_Mlt, n_0leM, nI_clamp, x_in_nI, n_1, nI_add, x_at, x_bd_s, x_bv_s, ↓x_lt, decide_true, decide_false, Bool.and_self, Bool.true_and, Bool.and_true, if_true, if_false, ite_true, ite_false, ↓reduceIte, not_true_eq_false, not_false_eq_true, Nat.reduceAdd, Nat.reduceMul, Nat.reduceEqDiff, eq_self, true_and, and_true, false_and, and_false, Option.some.injEq, Prod.mk.injEq, l_0, l_1, l_2, l_3, l_4, l_5, l_6, l_7, l_8, l_9, l_10, l_100, l_160, ↓m_1, ↓m_2, ↓m_3, ↓m_4, ↓m_5, ↓m_6, ↓m_7, or_self, and_self]
    · obtain ⟨q1, q2, q3, q4⟩ := lg1 v
      have lx := lx v
      simp (disch := first | assumption | omega) only [f_X8_rowsRefusal_c61, f_X8_rowsRefusal_c49, f_X8_rowsRefusal_c34, f_X8_rowsRefusal_c22, f_X8_rowsRefusal_c8, f_X8_rowsRefusal_c1, f_X8_rowsRefusal, f_X8_isShelf, f_X6_hasRow, f_X6_hasCounter, gt_20, gr_20_5, gt_50, gl_50, gs_50, gst_67, p1, p2, q1, q2, u, v, rz, l_of, n_ltT, n_ltF, n_leT, n_leF, n_eqT, n_eqF, n_neM, n_Mne, n_M0, n_Mlt, n_0leM, nI_clamp, x_in_nI, n_1, nI_add, x_at, x_bd_s, x_bv_s, ↓x_lt, decide_true, decide_false, Bool.and_self, Bool.true_and, Bool.and_true, if_true, if_false, ite_true, ite_false, ↓reduceIte, not_true_eq_false, not_false_eq_true, Nat.reduceAdd, Nat.reduceMul, Nat.reduceEqDiff, eq_self, true_and, and_true, false_and, and_false, Option.some.injEq, Prod.mk.injEq, l_0, l_1, l_2, l_3, l_4, l_5, l_6, l_7, l_8, l_9, l_10, l_100, l_160, ↓m_1, ↓m_2, ↓m_3, ↓m_4, ↓m_5, ↓m_6, ↓m_7, or_self, and_self]
    · obtain ⟨q1, q2, q3⟩ := lg2 v
      have lw := lw v
      simp (disch := first | assumption | omega) only [f_X8_rowsRefusal_c61, f_X8_rowsRefusal_c49, f_X8_rowsRefusal_c34, f_X8_rowsRefusal_c22, f_X8_rowsRefusal_c8, f_X8_rowsRefusal_c1, f_X8_rowsRefusal, f_X8_isShelf, f_X6_hasRow, f_X6_hasCounter, gt_20, gr_20_5, gt_50, gl_50, gs_50, gst_67, p1, p2, q1, q2, u, v, rz, l_of, n_ltT, n_ltF, n_leT, n_leF, n_eqT, n_eqF, n_neM, n_Mne, n_M0, n_Mlt, n_0leM, nI_clamp, x_in_nI, n_1, nI_add, x_at, x_bd_s, x_bv_s, ↓x_lt, decide_true, decide_false, Bool.and_self, Bool.true_and, Bool.and_true, if_true, if_false, ite_true, ite_false, ↓reduceIte, not_true_eq_false, not_false_eq_true, Nat.reduceAdd, Nat.reduceMul, Nat.reduceEqDiff, eq_self, true_and, and_true, false_and, and_false, Option.some.injEq, Prod.mk.injEq, l_0, l_1, l_2, l_3, l_4, l_5, l_6, l_7, l_8, l_9, l_10, l_100, l_160, ↓m_1, ↓m_2, ↓m_3, ↓m_4, ↓m_5, ↓m_6, ↓m_7, or_self, and_self, or_true]
  · obtain ⟨p1, p2, p3⟩ := kg2 u
    have kw := kw u
    simp (disch := first | assumption | omega) only [f_X8_rowsRefusal_c61, f_X8_rowsRefusal_c49, f_X8_rowsRefusal_c34, f_X8_rowsRefusal_c22, f_X8_rowsRefusal_c8, f_X8_rowsRefusal_c1, f_X8_rowsRefusal, f_X8_isShelf, f_X6_hasRow, f_X6_hasCounter, gt_20, gr_20_5, gt_50, gl_50, gs_50, gst_67, p1, p2, u, rz, l_of, n_ltT, n_ltF, n_leT, n_leF, n_eqT, n_eqF, n_neM, n_Mne, n_M0, n_Mlt, n_0leM, nI_clamp, x_in_nI, n_1, nI_add, x_at, x_bd_s, x_bv_s, ↓x_lt, decide_true, decide_false, Bool.and_self, Bool.true_and, Bool.and_true, if_true, if_false, ite_true, ite_false, ↓reduceIte, not_true_eq_false, not_false_eq_true, Nat.reduceAdd, Nat.reduceMul, Nat.reduceEqDiff, eq_self, true_and, and_true, false_and, and_false, Option.some.injEq, Prod.mk.injEq, l_0, l_1, l_2, l_3, l_4, l_5, l_6, l_7, l_8, l_9, l_10, l_100, l_160, ↓m_1, ↓m_2, ↓m_3, ↓m_4, ↓m_5, ↓m_6, ↓m_7, or_self, and_self, true_or]
theorem rz_0 : rz 0 = nI 0 := rfl
theorem rz_s {k : Nat} (h : k ≠ 0) : rz k = nM k := if_neg h
theorem c_part (hG : Geo L b1 b2 M) (hI : CInv σ M) (hW : WFS B σ) (s n : Int32) : f_X8_partRefusal 20 s n M = some (rz (pr σ s n), M) := by
  have hr := c_rows hG hI hW s s
  have hl := pq_le σ s s
  unfold pr
  by_cases h0 : pq σ s s = 0
  · rw [if_pos h0]
    rw [h0, rz_0] at hr
    obtain ⟨k, l, e1, k8, k1, -⟩ := pq_0 h0
    subst e1
    obtain ⟨p1, p2, p3, p4⟩ := (hI.2.2.1 k (by omega)).2.1 k1
    obtain ⟨z1, z2⟩ := (hW.2.2.1 k (by omega)).2.1 k1
    rw [nI_clamp (by omega)]
    rcases i_cs n with h1 | ⟨m, mb, rfl⟩
    · rw [if_pos h1]
      simp (disch := first | assumption | omega) only [f_X8_partRefusal_c2, f_X8_partRefusal, f_X8_rowRefusal, gt_20, hr, h1, n_le0F, rz, l_of, n_ltT, n_ltF, n_leT, n_leF, n_eqT, n_eqF, n_neM, n_Mne, n_M0, n_Mlt, n_0leM, nI_clamp, x_in_nI, n_1, nI_add, x_at, x_bd_s, x_bv_s, ↓x_lt, decide_true, decide_false, Bool.and_self, Bool.true_and, Bool.and_true, if_true, if_false, ite_true, ite_false, ↓reduceIte, not_true_eq_false, not_false_eq_true, Nat.reduceAdd, Nat.reduceMul, Nat.reduceEqDiff, eq_self, true_and, and_true, false_and, and_false, Option.some.injEq, Prod.mk.injEq, l_0, l_1, l_2, l_3, l_4, l_5, l_6, l_7, l_8, l_9, l_10, l_100, l_160, ↓m_1, ↓m_2, ↓m_3, ↓m_4, ↓m_5, ↓m_6, ↓m_7]
    · rw [if_neg (show ¬ nI m < nI 0 from nI_pos (by omega)), nI_clamp (by omega)]
      by_cases h5 : s_sh σ 2 k < m
      · rw [if_pos h5]
        simp (disch := first | assumption | omega) only [f_X8_partRefusal_c2, f_X8_partRefusal, f_X8_rowRefusal, gt_20, gr_20_5, gt_50, gl_50, gs_50, gst_67, hr, p3, rz, l_of, n_ltT, n_ltF, n_leT, n_leF, n_eqT, n_eqF, n_neM, n_Mne, n_M0, n_Mlt, n_0leM, nI_clamp, x_in_nI, n_1, nI_add, x_at, x_bd_s, x_bv_s, ↓x_lt, decide_true, decide_false, Bool.and_self, Bool.true_and, Bool.and_true, if_true, if_false, ite_true, ite_false, ↓reduceIte, not_true_eq_false, not_false_eq_true, Nat.reduceAdd, Nat.reduceMul, Nat.reduceEqDiff, eq_self, true_and, and_true, false_and, and_false, Option.some.injEq, Prod.mk.injEq, l_0, l_1, l_2, l_3, l_4, l_5, l_6, l_7, l_8, l_9, l_10, l_100, l_160, ↓m_1, ↓m_2, ↓m_3, ↓m_4, ↓m_5, ↓m_6, ↓m_7]
      · rw [if_neg h5]
        simp (disch := first | assumption | omega) only [f_X8_partRefusal_c2, f_X8_partRefusal, f_X8_rowRefusal, gt_20, gr_20_5, gt_50, gl_50, gs_50, gst_67, hr, p3, rz, l_of, n_ltT, n_ltF, n_leT, n_leF, n_eqT, n_eqF, n_neM, n_Mne, n_M0, n_Mlt, n_0leM, nI_clamp, x_in_nI, n_1, nI_add, x_at, x_bd_s, x_bv_s, ↓x_lt, decide_true, decide_false, Bool.and_self, Bool.true_and, Bool.and_true, if_true, if_false, ite_true, ite_false, ↓reduceIte, not_true_eq_false, not_false_eq_true, Nat.reduceAdd, Nat.reduceMul, Nat.reduceEqDiff, eq_self, true_and, and_true, false_and, and_false, Option.some.injEq, Prod.mk.injEq, l_0, l_1, l_2, l_3, l_4, l_5, l_6, l_7, l_8, l_9, l_10, l_100, l_160, ↓m_1, ↓m_2, ↓m_3, ↓m_4, ↓m_5, ↓m_6, ↓m_7]
  · rw [if_neg h0]
    rw [rz_s h0] at hr ⊢
    simp (disch := first | assumption | omega) only [f_X8_partRefusal_c2, f_X8_partRefusal, f_X8_rowRefusal, gt_20, hr, l_of, n_ltT, n_ltF, n_leT, n_leF, n_eqT, n_eqF, n_neM, n_Mne, n_M0, n_Mlt, n_0leM, nI_clamp, x_in_nI, n_1, nI_add, x_at, x_bd_s, x_bv_s, ↓x_lt, decide_true, decide_false, Bool.and_self, Bool.true_and, Bool.and_true, if_true, if_false, ite_true, ite_false, ↓reduceIte, not_true_eq_false, not_false_eq_true, Nat.reduceAdd, Nat.reduceMul, Nat.reduceEqDiff, eq_self, true_and, and_true, false_and, and_false, Option.some.injEq, Prod.mk.injEq, l_0, l_1, l_2, l_3, l_4, l_5, l_6, l_7, l_8, l_9, l_10, l_100, l_160, ↓m_1, ↓m_2, ↓m_3, ↓m_4, ↓m_5, ↓m_6, ↓m_7]
set_option maxHeartbeats 800000 in
theorem m_wanted (hG : Geo L b1 b2 M) (hI : MInv σ M) (hW : WFS B σ) (s : Int32) : f_X9_wanted 83 s M = some (rz (pq σ s s), M) := by
  have hsh := hI.2.2.1
  unfold pq
  rcases i_cs s with h1 | ⟨k, kb, rfl⟩
  · rw [if_pos (Or.inl h1)]
    simp (disch := first | assumption | omega) only [f_X9_wanted_c2, f_X9_wanted, f_X9_isShelf, gt_83, h1, rz, l_of, n_ltT, n_ltF, n_leT, n_leF, n_eqT, n_eqF, n_neM, n_Mne, n_M0, n_Mlt, n_0leM, nI_clamp, x_in_nI, n_1, nI_add, x_at, x_bd_s, x_bv_s, ↓x_lt, decide_true, decide_false, Bool.and_self, Bool.true_and, Bool.and_true, if_true, if_false, ite_true, ite_false, ↓reduceIte, not_true_eq_false, not_false_eq_true, Nat.reduceAdd, Nat.reduceMul, Nat.reduceEqDiff, eq_self, true_and, and_true, false_and, and_false, Option.some.injEq, Prod.mk.injEq, l_0, l_1, l_2, l_3, l_4, l_5, l_6, l_7, l_8, l_9, l_10, l_100, l_160, ↓m_1, ↓m_2, ↓m_3, ↓m_4, ↓m_5, ↓m_6, ↓m_7]
  by_cases h2 : 8 ≤ k
  · rw [nI_clamp (by omega), if_pos (Or.inr (Or.inl h2))]
    simp (disch := first | assumption | omega) only [f_X9_wanted_c2, f_X9_wanted, f_X9_isShelf, gt_83, h2, rz, l_of, n_ltT, n_ltF, n_leT, n_leF, n_eqT, n_eqF, n_neM, n_Mne, n_M0, n_Mlt, n_0leM, nI_clamp, x_in_nI, n_1, nI_add, x_at, x_bd_s, x_bv_s, ↓x_lt, decide_true, decide_false, Bool.and_self, Bool.true_and, Bool.and_true, if_true, if_false, ite_true, ite_false, ↓reduceIte, not_true_eq_false, not_false_eq_true, Nat.reduceAdd, Nat.reduceMul, Nat.reduceEqDiff, eq_self, true_and, and_true, false_and, and_false, Option.some.injEq, Prod.mk.injEq, l_0, l_1, l_2, l_3, l_4, l_5, l_6, l_7, l_8, l_9, l_10, l_100, l_160, ↓m_1, ↓m_2, ↓m_3, ↓m_4, ↓m_5, ↓m_6, ↓m_7]
  rw [nI_clamp (by omega), if_neg (fun z => by
    rcases z with z | z | z | z
    · exact nI_pos (by omega) z
    · exact h2 z
    · exact nI_pos (by omega) z
    · exact h2 z)]
  obtain ⟨g0, g1, g2⟩ := hsh k (by omega)
  have kv := (hW.2.2.1 k (by omega)).1
  rcases (by omega : s_sh σ 0 k = 0 ∨ s_sh σ 0 k = 1 ∨ s_sh σ 0 k = 2) with u | u | u <;>
  · rw [u] at g0
    simp (disch := first | assumption | omega) only [f_X9_wanted_c2, f_X9_wanted, f_X9_isShelf, gt_83, gr_83_16, gt_91, gl_91, g0, u, rz, l_of, n_ltT, n_ltF, n_leT, n_leF, n_eqT, n_eqF, n_neM, n_Mne, n_M0, n_Mlt, n_0leM, nI_clamp, x_in_nI, n_1, nI_add, x_at, x_bd_s, x_bv_s, ↓x_lt, decide_true, decide_false, Bool.and_self, Bool.true_and, Bool.and_true, if_true, if_false, ite_true, ite_false, ↓reduceIte, not_true_eq_false, not_false_eq_true, Nat.reduceAdd, Nat.reduceMul, Nat.reduceEqDiff, eq_self, true_and, and_true, false_and, and_false, Option.some.injEq, Prod.mk.injEq, l_0, l_1, l_2, l_3, l_4, l_5, l_6, l_7, l_8, l_9, l_10, l_100, l_160, ↓m_1, ↓m_2, ↓m_3, ↓m_4, ↓m_5, ↓m_6, ↓m_7, or_self, and_self]
theorem m_bars (hG : Geo L b1 b2 M) (hI : MInv σ M) (hW : WFS B σ) (s n : Int32) : f_X9_bars 83 s n M = some (rz (pr σ s n), M) := by
  have hr := m_wanted hG hI hW s
  have hl := pq_le σ s s
  unfold pr
  by_cases h0 : pq σ s s = 0
  · rw [if_pos h0]
    rw [h0, rz_0] at hr
    obtain ⟨k, l, e1, k8, k1, -⟩ := pq_0 h0
    subst e1
    obtain ⟨p1, p2, p3⟩ := (hI.2.2.1 k (by omega)).2.1 k1
    obtain ⟨z1, z2⟩ := (hW.2.2.1 k (by omega)).2.1 k1
    rw [nI_clamp (by omega)]
    rcases i_cs n with h1 | ⟨m, mb, rfl⟩
    · rw [if_pos h1]
      simp (disch := first | assumption | omega) only [f_X9_bars_c2, f_X9_bars, gt_83, hr, h1, n_le0F, rz, l_of, n_ltT, n_ltF, n_leT, n_leF, n_eqT, n_eqF, n_neM, n_Mne, n_M0, n_Mlt, n_0leM, nI_clamp, x_in_nI, n_1, nI_add, x_at, x_bd_s, x_bv_s, ↓x_lt, decide_true, decide_false, Bool.and_self, Bool.true_and, Bool.and_true, if_true, if_false, ite_true, ite_false, ↓reduceIte, not_true_eq_false, not_false_eq_true, Nat.reduceAdd, Nat.reduceMul, Nat.reduceEqDiff, eq_self, true_and, and_true, false_and, and_false, Option.some.injEq, Prod.mk.injEq, l_0, l_1, l_2, l_3, l_4, l_5, l_6, l_7, l_8, l_9, l_10, l_100, l_160, ↓m_1, ↓m_2, ↓m_3, ↓m_4, ↓m_5, ↓m_6, ↓m_7]
    · rw [if_neg (show ¬ nI m < nI 0 from nI_pos (by omega)), nI_clamp (by omega)]
      by_cases h5 : s_sh σ 2 k < m
      · rw [if_pos h5]
        simp (disch := first | assumption | omega) only [f_X9_bars_c2, f_X9_bars, gt_83, gr_83_18, gt_93, gl_93, hr, p2, rz, l_of, n_ltT, n_ltF, n_leT, n_leF, n_eqT, n_eqF, n_neM, n_Mne, n_M0, n_Mlt, n_0leM, nI_clamp, x_in_nI, n_1, nI_add, x_at, x_bd_s, x_bv_s, ↓x_lt, decide_true, decide_false, Bool.and_self, Bool.true_and, Bool.and_true, if_true, if_false, ite_true, ite_false, ↓reduceIte, not_true_eq_false, not_false_eq_true, Nat.reduceAdd, Nat.reduceMul, Nat.reduceEqDiff, eq_self, true_and, and_true, false_and, and_false, Option.some.injEq, Prod.mk.injEq, l_0, l_1, l_2, l_3, l_4, l_5, l_6, l_7, l_8, l_9, l_10, l_100, l_160, ↓m_1, ↓m_2, ↓m_3, ↓m_4, ↓m_5, ↓m_6, ↓m_7]
      · rw [if_neg h5]
        simp (disch := first | assumption | omega) only [f_X9_bars_c2, f_X9_bars, gt_83, gr_83_18, gt_93, gl_93, hr, p2, rz, l_of, n_ltT, n_ltF, n_leT, n_leF, n_eqT, n_eqF, n_neM, n_Mne, n_M0, n_Mlt, n_0leM, nI_clamp, x_in_nI, n_1, nI_add, x_at, x_bd_s, x_bv_s, ↓x_lt, decide_true, decide_false, Bool.and_self, Bool.true_and, Bool.and_true, if_true, if_false, ite_true, ite_false, ↓reduceIte, not_true_eq_false, not_false_eq_true, Nat.reduceAdd, Nat.reduceMul, Nat.reduceEqDiff, eq_self, true_and, and_true, false_and, and_false, Option.some.injEq, Prod.mk.injEq, l_0, l_1, l_2, l_3, l_4, l_5, l_6, l_7, l_8, l_9, l_10, l_100, l_160, ↓m_1, ↓m_2, ↓m_3, ↓m_4, ↓m_5, ↓m_6, ↓m_7]
  · rw [if_neg h0]
    rw [rz_s h0] at hr ⊢
    simp (disch := first | assumption | omega) only [f_X9_bars_c2, f_X9_bars, gt_83, hr, l_of, n_ltT, n_ltF, n_leT, n_leF, n_eqT, n_eqF, n_neM, n_Mne, n_M0, n_Mlt, n_0leM, nI_clamp, x_in_nI, n_1, nI_add, x_at, x_bd_s, x_bv_s, ↓x_lt, decide_true, decide_false, Bool.and_self, Bool.true_and, Bool.and_true, if_true, if_false, ite_true, ite_false, ↓reduceIte, not_true_eq_false, not_false_eq_true, Nat.reduceAdd, Nat.reduceMul, Nat.reduceEqDiff, eq_self, true_and, and_true, false_and, and_false, Option.some.injEq, Prod.mk.injEq, l_0, l_1, l_2, l_3, l_4, l_5, l_6, l_7, l_8, l_9, l_10, l_100, l_160, ↓m_1, ↓m_2, ↓m_3, ↓m_4, ↓m_5, ↓m_6, ↓m_7]
end
/-! elements as ints; whether they are SECONDS -/
def ea (σ : XS) (k i : Nat) : Int32 := (s_el σ k i).toInt32
def pv (σ : XS) (k : Nat) : Nat → Int32
  | 0 => nI 0
  | i + 1 => ea σ k i
def ascr (σ : XS) (k : Nat) : Nat → Nat → Bool
  | 0, _ => true
  | d + 1, j => if pv σ k j < ea σ k j then ascr σ k d (j + 1) else false
section
variable {L : Nat} {b1 b2 : Bool} {M : XM} {σ : XS} {k z : Nat}
theorem c_int {i : Nat} (hG : Geo L b1 b2 M) (hk : k < 8) (hz : z ≤ 160) (p3 : x_i M (67 + 2 * k) 2 = nI z) (p4 : ∀ i, i < 160 → x_j M (68 + 2 * k) i = s_el σ k i) (hi : i < z) : f_X6_intAt (67 + 2 * k) (nI i) M = some (ea σ k i, M) := by
  have q := p4 i (by omega)
  simp (disch := first | assumption | omega) only [f_X6_intAt_c2, f_X6_intAt, f_X6_elementAt_c2, f_X6_elementAt, f_X6_hasElement, gst_67, gsr_67, gst_68, gsl_68, p3, q, l_of, n_ltT, n_ltF, n_leT, n_leF, n_eqT, n_eqF, n_neM, n_Mne, n_M0, n_Mlt, n_0leM, nI_clamp, x_in_nI, n_1, nI_add, x_at, x_bd_s, x_bv_s, ↓x_lt, decide_true, decide_false, Bool.and_self, Bool.true_and, Bool.and_true, if_true, if_false, ite_true, ite_false, ↓reduceIte, not_true_eq_false, not_false_eq_true, Nat.reduceAdd, Nat.reduceMul, Nat.reduceEqDiff, eq_self, true_and, and_true, false_and, and_false, Option.some.injEq, Prod.mk.injEq, l_0, l_1, l_2, l_3, l_4, l_5, l_6, l_7, l_8, l_9, l_10, l_100, l_160, ↓m_1, ↓m_2, ↓m_3, ↓m_4, ↓m_5, ↓m_6, ↓m_7]
  rfl
theorem m_int {i : Nat} (hG : Geo L b1 b2 M) (hk : k < 8) (p3 : ∀ i, i < 160 → x_j M 95 (160 * k + i) = s_el σ k i) (hi : i < 160) : f_X9_intAt 83 (nI k) (nI i) M = some (ea σ k i, M) := by
  have q := p3 i (by omega)
  simp (disch := first | assumption | omega) only [f_X9_intAt, gt_83, gr_83_20, gt_95, gl_95, l_160, pk_mul, nI_add, q, l_of, n_ltT, n_ltF, n_leT, n_leF, n_eqT, n_eqF, n_neM, n_Mne, n_M0, n_Mlt, n_0leM, nI_clamp, x_in_nI, n_1, nI_add, x_at, x_bd_s, x_bv_s, ↓x_lt, decide_true, decide_false, Bool.and_self, Bool.true_and, Bool.and_true, if_true, if_false, ite_true, ite_false, ↓reduceIte, not_true_eq_false, not_false_eq_true, Nat.reduceAdd, Nat.reduceMul, Nat.reduceEqDiff, eq_self, true_and, and_true, false_and, and_false, Option.some.injEq, Prod.mk.injEq, l_0, l_1, l_2, l_3, l_4, l_5, l_6, l_7, l_8, l_9, l_10, l_100, l_160, ↓m_1, ↓m_2, ↓m_3, ↓m_4, ↓m_5, ↓m_6, ↓m_7]
  rfl
theorem c_asec {m : Nat} (hG : Geo L b1 b2 M) (hk : k < 8) (hz : z ≤ 160) (hm : m ≤ z) (p3 : x_i M (67 + 2 * k) 2 = nI z) (p4 : ∀ i, i < 160 → x_j M (68 + 2 * k) i = s_el σ k i) (d : Nat) : ∀ (n j : Nat), d < n → j + d = m →
    lp_X8_areSeconds_13 n 20 (nI k) (nI m) (pv σ k j) (nI j) M = some (if ascr σ k d j = true then nI 1 else nI 0, M) := by
  induction d with
  | zero =>
    intro n j hn hj
    obtain ⟨n, rfl⟩ : ∃ i, n = i + 1 := ⟨n - 1, by omega⟩
    rw [s_lp_X8_areSeconds_13, show j = m by omega]
    simp (disch := first | assumption | omega) only [bd_X8_areSeconds_13, ascr, l_of, n_ltT, n_ltF, n_leT, n_leF, n_eqT, n_eqF, n_neM, n_Mne, n_M0, n_Mlt, n_0leM, nI_clamp, x_in_nI, n_1, nI_add, x_at, x_bd_s, x_bv_s, ↓x_lt, decide_true, decide_false, Bool.and_self, Bool.true_and, Bool.and_true, if_true, if_false, ite_true, ite_false, ↓reduceIte, not_true_eq_false, not_false_eq_true, Nat.reduceAdd, Nat.reduceMul, Nat.reduceEqDiff, eq_self, true_and, and_true, false_and, and_false, Option.some.injEq, Prod.mk.injEq, l_0, l_1, l_2, l_3, l_4, l_5, l_6, l_7, l_8, l_9, l_10, l_100, l_160, ↓m_1, ↓m_2, ↓m_3, ↓m_4, ↓m_5, ↓m_6, ↓m_7]
  | succ d ih =>
    intro n j hn hj
    obtain ⟨n, rfl⟩ : ∃ i, n = i + 1 := ⟨n - 1, by omega⟩
    have hi := c_int (i := j) hG hk hz p3 p4 (by omega)
    have g := ih n (j + 1) (by omega) (by omega)
    rw [show pv σ k (j + 1) = ea σ k j from rfl] at g
    rw [s_lp_X8_areSeconds_13]
    unfold ascr
    by_cases h : pv σ k j < ea σ k j
    · rw [if_pos h]
      simp (disch := first | assumption | omega) only [bd_X8_areSeconds_13, f_X8_areSeconds_c27, gt_20, gr_20_5, gt_50, gl_50, gs_50, gst_67, hi, h, l_of, n_ltT, n_ltF, n_leT, n_leF, n_eqT, n_eqF, n_neM, n_Mne, n_M0, n_Mlt, n_0leM, nI_clamp, x_in_nI, n_1, nI_add, x_at, x_bd_s, x_bv_s, ↓x_lt, decide_true, decide_false, Bool.and_self, Bool.true_and, Bool.and_true, if_true, if_false, ite_true, ite_false, ↓reduceIte, not_true_eq_false, not_false_eq_true, Nat.reduceAdd, Nat.reduceMul, Nat.reduceEqDiff, eq_self, true_and, and_true, false_and, and_false, Option.some.injEq, Prod.mk.injEq, l_0, l_1, l_2, l_3, l_4, l_5, l_6, l_7, l_8, l_9, l_10, l_100, l_160, ↓m_1, ↓m_2, ↓m_3, ↓m_4, ↓m_5, ↓m_6, ↓m_7]
      exact g
    · rw [if_neg h]
      simp (disch := first | assumption | omega) only [bd_X8_areSeconds_13, f_X8_areSeconds_c27, gt_20, gr_20_5, gt_50, gl_50, gs_50, gst_67, hi, h, l_of, n_ltT, n_ltF, n_leT, n_leF, n_eqT, n_eqF, n_neM, n_Mne, n_M0, n_Mlt, n_0leM, nI_clamp, x_in_nI, n_1, nI_add, x_at, x_bd_s, x_bv_s, ↓x_lt, decide_true, decide_false, Bool.and_self, Bool.true_and, Bool.and_true, if_true, if_false, ite_true, ite_false, ↓reduceIte, not_true_eq_false, not_false_eq_true, Nat.reduceAdd, Nat.reduceMul, Nat.reduceEqDiff, eq_self, true_and, and_true, false_and, and_false, Option.some.injEq, Prod.mk.injEq, l_0, l_1, l_2, l_3, l_4, l_5, l_6, l_7, l_8, l_9, l_10, l_100, l_160, ↓m_1, ↓m_2, ↓m_3, ↓m_4, ↓m_5, ↓m_6, ↓m_7, Bool.false_eq_true]
theorem m_asec {m : Nat} (hG : Geo L b1 b2 M) (hk : k < 8) (hm : m ≤ 160) (p3 : ∀ i, i < 160 → x_j M 95 (160 * k + i) = s_el σ k i) (d : Nat) : ∀ (n j : Nat), d < n → j + d = m →
    lp_X9_areSeconds_2 n 83 (nI k) (nI m) (nI j) M = some (if ascr σ k d j = true then nI 1 else nI 0, M) := by
  induction d with
  | zero =>
    intro n j hn hj
    obtain ⟨n, rfl⟩ : ∃ i, n = i + 1 := ⟨n - 1, by omega⟩
    rw [s_lp_X9_areSeconds_2, show j = m by omega]
    simp (disch := first | assumption | omega) only [bd_X9_areSeconds_2, ascr, l_of, n_ltT, n_ltF, n_leT, n_leF, n_eqT, n_eqF, n_neM, n_Mne, n_M0, n_Mlt, n_0leM, nI_clamp, x_in_nI, n_1, nI_add, x_at, x_bd_s, x_bv_s, ↓x_lt, decide_true, decide_false, Bool.and_self, Bool.true_and, Bool.and_true, if_true, if_false, ite_true, ite_false, ↓reduceIte, not_true_eq_false, not_false_eq_true, Nat.reduceAdd, Nat.reduceMul, Nat.reduceEqDiff, eq_self, true_and, and_true, false_and, and_false, Option.some.injEq, Prod.mk.injEq, l_0, l_1, l_2, l_3, l_4, l_5, l_6, l_7, l_8, l_9, l_10, l_100, l_160, ↓m_1, ↓m_2, ↓m_3, ↓m_4, ↓m_5, ↓m_6, ↓m_7]
  | succ d ih =>
    intro n j hn hj
    obtain ⟨n, rfl⟩ : ∃ i, n = i + 1 := ⟨n - 1, by omega⟩
    have hi := m_int (i := j) hG hk p3 (by omega)
    have g := ih n (j + 1) (by omega) (by omega)
    rw [s_lp_X9_areSeconds_2]
    unfold ascr
    by_cases h0 : j = 0
    · subst h0
      by_cases h : pv σ k 0 < ea σ k 0
      · rw [if_pos h]
        have h : nI 0 < ea σ k 0 := h
        simp (disch := first | assumption | omega) only [bd_X9_areSeconds_2, f_X9_areSeconds_29, f_X9_areSeconds_c26, f_X9_areSeconds_c10, bd_X9_areSeconds_2, f_X9_areSeconds, gt_83, hi, h, l_of, n_ltT, n_ltF, n_leT, n_leF, n_eqT, n_eqF, n_neM, n_Mne, n_M0, n_Mlt, n_0leM, nI_clamp, x_in_nI, n_1, nI_add, x_at, x_bd_s, x_bv_s, ↓x_lt, decide_true, decide_false, Bool.and_self, Bool.true_and, Bool.and_true, if_true, if_false, ite_true, ite_false, ↓reduceIte, not_true_eq_false, not_false_eq_true, Nat.reduceAdd, Nat.reduceMul, Nat.reduceEqDiff, eq_self, true_and, and_true, false_and, and_false, Option.some.injEq, Prod.mk.injEq, l_0, l_1, l_2, l_3, l_4, l_5, l_6, l_7, l_8, l_9, l_10, l_100, l_160, ↓m_1, ↓m_2, ↓m_3, ↓m_4, ↓m_5, ↓m_6, ↓m_7]
        exact g
      · rw [if_neg h]
        have h : ¬ nI 0 < ea σ k 0 := h
        simp (disch := first | assumption | omega) only [bd_X9_areSeconds_2, f_X9_areSeconds_29, f_X9_areSeconds_c26, f_X9_areSeconds_c10, bd_X9_areSeconds_2, f_X9_areSeconds, gt_83, hi, h, l_of, n_ltT, n_ltF, n_leT, n_leF, n_eqT, n_eqF, n_neM, n_Mne, n_M0, n_Mlt, n_0leM, nI_clamp, x_in_nI, n_1, nI_add, x_at, x_bd_s, x_bv_s, ↓x_lt, decide_true, decide_false, Bool.and_self, Bool.true_and, Bool.and_true, if_true, if_false, ite_true, ite_false, ↓reduceIte, not_true_eq_false, not_false_eq_true, Nat.reduceAdd, Nat.reduceMul, Nat.reduceEqDiff, eq_self, true_and, and_true, false_and, and_false, Option.some.injEq, Prod.mk.injEq, l_0, l_1, l_2, l_3, l_4, l_5, l_6, l_7, l_8, l_9, l_10, l_100, l_160, ↓m_1, ↓m_2, ↓m_3, ↓m_4, ↓m_5, ↓m_6, ↓m_7, Bool.false_eq_true]
    · obtain ⟨i, rfl⟩ : ∃ i, j = i + 1 := ⟨j - 1, by omega⟩
      have hi2 := m_int (i := i) hG hk p3 (by omega)
      by_cases h : pv σ k (i + 1) < ea σ k (i + 1)
      · rw [if_pos h]
        have h : ea σ k i < ea σ k (i + 1) := h
        simp (disch := first | assumption | omega) only [bd_X9_areSeconds_2, f_X9_areSeconds_29, f_X9_areSeconds_c26, f_X9_areSeconds_c10, bd_X9_areSeconds_2, f_X9_areSeconds, gt_83, hi, hi2, n_pm1, h, l_of, n_ltT, n_ltF, n_leT, n_leF, n_eqT, n_eqF, n_neM, n_Mne, n_M0, n_Mlt, n_0leM, nI_clamp, x_in_nI, n_1, nI_add, x_at, x_bd_s, x_bv_s, ↓x_lt, decide_true, decide_false, Bool.and_self, Bool.true_and, Bool.and_true, if_true, if_false, ite_true, ite_false, ↓reduceIte, not_true_eq_false, not_false_eq_true, Nat.reduceAdd, Nat.reduceMul, Nat.reduceEqDiff, eq_self, true_and, and_true, false_and, and_false, Option.some.injEq, Prod.mk.injEq, l_0, l_1, l_2, l_3, l_4, l_5, l_6, l_7, l_8, l_9, l_10, l_100, l_160, ↓m_1, ↓m_2, ↓m_3, ↓m_4, ↓m_5, ↓m_6, ↓m_7]
        exact g
      · rw [if_neg h]
        have h : ¬ ea σ k i < ea σ k (i + 1) := h
        simp (disch := first | assumption | omega) only [bd_X9_areSeconds_2, f_X9_areSeconds_29, f_X9_areSeconds_c26, f_X9_areSeconds_c10, bd_X9_areSeconds_2, f_X9_areSeconds, gt_83, hi, hi2, n_pm1, h, l_of, n_ltT, n_ltF, n_leT, n_leF, n_eqT, n_eqF, n_neM, n_Mne, n_M0, n_Mlt, n_0leM, nI_clamp, x_in_nI, n_1, nI_add, x_at, x_bd_s, x_bv_s, ↓x_lt, decide_true, decide_false, Bool.and_self, Bool.true_and, Bool.and_true, if_true, if_false, ite_true, ite_false, ↓reduceIte, not_true_eq_false, not_false_eq_true, Nat.reduceAdd, Nat.reduceMul, Nat.reduceEqDiff, eq_self, true_and, and_true, false_and, and_false, Option.some.injEq, Prod.mk.injEq, l_0, l_1, l_2, l_3, l_4, l_5, l_6, l_7, l_8, l_9, l_10, l_100, l_160, ↓m_1, ↓m_2, ↓m_3, ↓m_4, ↓m_5, ↓m_6, ↓m_7, Bool.false_eq_true]
end
