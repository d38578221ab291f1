theorem qd_le (σ : XS) (c e s t : Int32) : qd σ c e s t ≤ 3 := by
  have := pq_le σ s t
  unfold qd; split <;> omega
theorem qd_0 {σ : XS} {c e s t : Int32} (h : qd σ c e s t = 0) : ∃ j i k l, c = nI j ∧ j < r_s (s_now σ) 0 ∧ e = nI i ∧ i < r_s (s_now σ) 0 ∧ s = nI k ∧ k < 8 ∧ s_sh σ 0 k = 1 ∧ t = nI l ∧ l < 8 ∧ s_sh σ 0 l = 1 ∧ pq σ s t = 0 := by
  unfold qd at h
  rcases i_cs c with h1 | ⟨j, jb, rfl⟩
  · rw [if_pos (Or.inl (Or.inl h1))] at h; omega
  rcases i_cs e with h2 | ⟨i, ib, rfl⟩
  · rw [if_pos (Or.inr (Or.inl h2))] at h; omega
  rw [nI_clamp (by omega), nI_clamp (by omega)] at h
  split at h
  · omega
  · next h3 =>
    obtain ⟨k, l, e1, e2, e3, e4, e5, e6⟩ := pq_0 h
    have hj : ¬ r_s (s_now σ) 0 ≤ j := fun z => h3 (Or.inl (Or.inr z))
    have hi : ¬ r_s (s_now σ) 0 ≤ i := fun z => h3 (Or.inr (Or.inr z))
    exact ⟨j, i, k, l, rfl, by omega, rfl, by omega, e1, e2, e3, e4, e5, e6, h⟩
theorem okS_40 {σ : XS} {k m : Nat} (h : okS σ (nI k) (nI m) = true) (hm : m < 2147483648) : m ≤ 40 := by
  unfold okS at h
  rw [nI_clamp (show m < 2 ^ 31 by omega)] at h
  exact of_decide_eq_true (Bool.and_eq_true_iff.mp h).1
def sp_parted (σ : XS) (c e s t m : Int32) : Int32 × XS :=
  if qd σ c e s t = 0 then (if c = e ∨ m < nI 1 ∨ 200 < m.toNatClampNeg ∨ okS σ s (nI (s_sh σ 2 s.toNatClampNeg)) = false ∨ okS σ t (nI (s_sh σ 2 t.toNatClampNeg)) = false then (nM 16, u_rf σ 6) else (oI (pan σ c e s t m), σ)) else (nM (qd σ c e s t + 10), u_rf σ (qd σ c e s t))
theorem b_f {b : Bool} (h : ¬ b = true) : b = false := by cases b with | true => exact absurd rfl h | false => rfl
set_option maxHeartbeats 800000 in
theorem oc_parted {B : Nat} {σ : XS} (hW : WFS B σ) (hB : B ≤ 800000) (c e s t m : Int32) : OpC (f_X8_parted 20 c e s t m) σ (sp_parted σ c e s t m).1 (sp_parted σ c e s t m).2 := by
  intro L b1 b2 M hG hI
  obtain ⟨⟨⟨e0, e1, e2, e3, e4, e5, e6, e7⟩, hc, ht⟩, hi, hsh, hrf, hft, hrn, htr⟩ := id hI
  show EndC L (f_X8_parted 20 c e s t m) M (sp_parted σ c e s t m)
  have hC := c_isC hG hI hW c
  have hE := c_isC hG hI hW e
  have hS := c_rows hG hI hW s t
  have hl := qd_le σ c e s t
  unfold sp_parted
  by_cases h0 : qd σ c e s t = 0
  · rw [if_pos h0]
    obtain ⟨j, i, k, l, rfl, hj, rfl, hi', rfl, k8, k1, rfl, l8, l1, hp⟩ := qd_0 h0
    obtain ⟨⟨w0, w1, w2, w3, w4, w5, w6, w7⟩, wc, wl, wtt⟩ := id hW.1
    rw [nI_clamp (by omega), if_neg (fun q => by rcases q with q | q; exact nI_pos (by omega) q; omega)] at hC hE
    rw [hp, rz_0] at hS
    have ks := ((hW.2.2.1 k k8).2.1 k1).2
    have ls := ((hW.2.2.1 l l8).2.1 l1).2
    have p3 := ((hI.2.2.1 k k8).2.1 k1).2.2.1
    have q3 := ((hI.2.2.1 l l8).2.1 l1).2.2.1
    have ha := c_are hG hI hW k8 k1 (Nat.le_refl _)
    have hb := c_are hG hI hW l8 l1 (Nat.le_refl _)
    rw [nI_clamp (show k < 2 ^ 31 by omega), nI_clamp (show l < 2 ^ 31 by omega)]
    by_cases h1 : nI j = nI i
    · rw [if_pos (Or.inl h1)]
      rw [h1] at hC ⊢
      exact c_no_end hG hI (by simp (disch := first | assumption | omega) only [bd_X8_parted_142, f_X8_parted_c135, f_X8_parted_c124, f_X8_parted_c110, f_X8_parted_102, f_X8_parted_98, f_X8_parted_c92, f_X8_parted_c73, f_X8_parted_57, f_X8_parted_53, f_X8_parted_27, f_X8_parted_26, f_X8_parted_c20, f_X8_parted_c10, f_X8_parted_c2, f_X8_parted, gt_20, gr_20_0, gr_20_5, gr_20_7, gt_21, gt_50, gl_50, gs_50, gst_67, gt_52, gr_20_6, gt_51, gl_51, gr_20_11, gr_20_12, hC, hE, hS, c_refM, n_sub10, l_of, n_ltT, n_ltF, n_leT, n_leF, n_eqT, n_eqF, n_neM, n_Mne, n_M0, n_Mlt, n_0leM, nI_clamp, x_in_nI, n_1, nI_add, x_at, x_bd_s, x_bv_s, ↓x_lt, decide_true, decide_false, Bool.and_self, Bool.true_and, Bool.and_true, if_true, if_false, ite_true, ite_false, ↓reduceIte, not_true_eq_false, not_false_eq_true, Nat.reduceAdd, Nat.reduceMul, Nat.reduceEqDiff, eq_self, true_and, and_true, false_and, and_false, Option.some.injEq, Prod.mk.injEq, l_0, l_1, l_2, l_3, l_4, l_5, l_6, l_7, l_8, l_9, l_10, l_100, l_160, ↓m_1, ↓m_2, ↓m_3, ↓m_4, ↓m_5, ↓m_6, ↓m_7])
    by_cases h2 : m < nI 1
    · rw [if_pos (Or.inr (Or.inl h2))]
      exact c_no_end hG hI (by simp (disch := first | assumption | omega) only [bd_X8_parted_142, f_X8_parted_c135, f_X8_parted_c124, f_X8_parted_c110, f_X8_parted_102, f_X8_parted_98, f_X8_parted_c92, f_X8_parted_c73, f_X8_parted_57, f_X8_parted_53, f_X8_parted_27, f_X8_parted_26, f_X8_parted_c20, f_X8_parted_c10, f_X8_parted_c2, f_X8_parted, gt_20, gr_20_0, gr_20_5, gr_20_7, gt_21, gt_50, gl_50, gs_50, gst_67, gt_52, gr_20_6, gt_51, gl_51, gr_20_11, gr_20_12, hC, hE, hS, h1, h2, c_refM, n_sub10, l_of, n_ltT, n_ltF, n_leT, n_leF, n_eqT, n_eqF, n_neM, n_Mne, n_M0, n_Mlt, n_0leM, nI_clamp, x_in_nI, n_1, nI_add, x_at, x_bd_s, x_bv_s, ↓x_lt, decide_true, decide_false, Bool.and_self, Bool.true_and, Bool.and_true, if_true, if_false, ite_true, ite_false, ↓reduceIte, not_true_eq_false, not_false_eq_true, Nat.reduceAdd, Nat.reduceMul, Nat.reduceEqDiff, eq_self, true_and, and_true, false_and, and_false, Option.some.injEq, Prod.mk.injEq, l_0, l_1, l_2, l_3, l_4, l_5, l_6, l_7, l_8, l_9, l_10, l_100, l_160, ↓m_1, ↓m_2, ↓m_3, ↓m_4, ↓m_5, ↓m_6, ↓m_7])
    obtain ⟨x, xb, rfl⟩ : ∃ x, x < 2147483648 ∧ m = nI x := by
      rcases i_cs m with q | q
      · exact absurd (by rw [n_lt1 q (by omega)]; trivial) h2
      · exact q
    have x1 : 1 ≤ x := by
      rcases Nat.lt_or_ge x 1 with q | q
      · exact absurd (by rw [n_ltT q (by omega)]; trivial) h2
      · exact q
    rw [nI_clamp (show x < 2 ^ 31 by omega)]
    by_cases h3 : 200 < x
    · rw [if_pos (Or.inr (Or.inr (Or.inl h3)))]
      exact c_no_end hG hI (by simp (disch := first | assumption | omega) only [bd_X8_parted_142, f_X8_parted_c135, f_X8_parted_c124, f_X8_parted_c110, f_X8_parted_102, f_X8_parted_98, f_X8_parted_c92, f_X8_parted_c73, f_X8_parted_57, f_X8_parted_53, f_X8_parted_27, f_X8_parted_26, f_X8_parted_c20, f_X8_parted_c10, f_X8_parted_c2, f_X8_parted, gt_20, gr_20_0, gr_20_5, gr_20_7, gt_21, gt_50, gl_50, gs_50, gst_67, gt_52, gr_20_6, gt_51, gl_51, gr_20_11, gr_20_12, hC, hE, hS, h1, h3, l_200, c_refM, n_sub10, l_of, n_ltT, n_ltF, n_leT, n_leF, n_eqT, n_eqF, n_neM, n_Mne, n_M0, n_Mlt, n_0leM, nI_clamp, x_in_nI, n_1, nI_add, x_at, x_bd_s, x_bv_s, ↓x_lt, decide_true, decide_false, Bool.and_self, Bool.true_and, Bool.and_true, if_true, if_false, ite_true, ite_false, ↓reduceIte, not_true_eq_false, not_false_eq_true, Nat.reduceAdd, Nat.reduceMul, Nat.reduceEqDiff, eq_self, true_and, and_true, false_and, and_false, Option.some.injEq, Prod.mk.injEq, l_0, l_1, l_2, l_3, l_4, l_5, l_6, l_7, l_8, l_9, l_10, l_100, l_160, ↓m_1, ↓m_2, ↓m_3, ↓m_4, ↓m_5, ↓m_6, ↓m_7])
    by_cases h4 : okS σ (nI k) (nI (s_sh σ 2 k)) = true
    · rw [if_pos h4] at ha
      by_cases h5 : okS σ (nI l) (nI (s_sh σ 2 l)) = true
      · rw [if_pos h5] at hb
        rw [if_neg (fun q => by
          rcases q with q | q | q | q | q
          · exact h1 q
          · exact h2 q
          · exact h3 q
          · rw [h4] at q; cases q
          · rw [h5] at q; cases q)]
        obtain ⟨M1, g1, g2, g3, g4⟩ := c_note (r := 63) (Or.inl rfl) hG hI hW hB hj k8 k1 (okS_40 h4 (by omega))
        have hI1 : CInv σ M1 := hI.fr g4 (fun a k q r => by omega)
        obtain ⟨M2, u1, u2, u3, u4⟩ := c_note (r := 64) (Or.inr rfl) g2 hI1 hW hB hi' l8 l1 (okS_40 h5 (by omega))
        have hI2 : CInv σ M2 := hI1.fr u4 (fun a k q r => by omega)
        have hpt := c_ptl (m := x) u2 hI2.1.1.2.1 w2 x1 (by omega) (fun q hq => (u4.1 _ _ (by omega)).trans (g3 q hq)) u3 201 x_fuel x (fu (by omega)) (by omega) (by omega)
        unfold pan
        rw [nI_clamp (by omega), nI_clamp (by omega), nI_clamp (by omega), nI_clamp (by omega), nI_clamp (by omega)]
        refine c_w_end u2 hI ((g4.mono (fun a k q => by omega)).tr (u4.mono (fun a k q => by omega))) ?_
        simp (disch := first | assumption | omega) only [bd_X8_parted_142, f_X8_parted_c135, f_X8_parted_c124, f_X8_parted_c110, f_X8_parted_102, f_X8_parted_98, f_X8_parted_c92, f_X8_parted_c73, f_X8_parted_57, f_X8_parted_53, f_X8_parted_27, f_X8_parted_26, f_X8_parted_c20, f_X8_parted_c10, f_X8_parted_c2, f_X8_parted, gt_20, gr_20_0, gr_20_5, gr_20_7, gt_21, gt_50, gl_50, gs_50, gst_67, gt_52, gr_20_6, gt_51, gl_51, gr_20_11, gr_20_12, hC, hE, hS, h1, l_200, p3, q3, ha, hb, g1, u1, l_of, n_ltT, n_ltF, n_leT, n_leF, n_eqT, n_eqF, n_neM, n_Mne, n_M0, n_Mlt, n_0leM, nI_clamp, x_in_nI, n_1, nI_add, x_at, x_bd_s, x_bv_s, ↓x_lt, decide_true, decide_false, Bool.and_self, Bool.true_and, Bool.and_true, if_true, if_false, ite_true, ite_false, ↓reduceIte, not_true_eq_false, not_false_eq_true, Nat.reduceAdd, Nat.reduceMul, Nat.reduceEqDiff, eq_self, true_and, and_true, false_and, and_false, Option.some.injEq, Prod.mk.injEq, l_0, l_1, l_2, l_3, l_4, l_5, l_6, l_7, l_8, l_9, l_10, l_100, l_160, ↓m_1, ↓m_2, ↓m_3, ↓m_4, ↓m_5, ↓m_6, ↓m_7]
        exact hpt
      · rw [if_neg h5] at hb
        rw [if_pos (Or.inr (Or.inr (Or.inr (Or.inr (b_f h5)))))]
        exact c_no_end hG hI (by simp (disch := first | assumption | omega) only [bd_X8_parted_142, f_X8_parted_c135, f_X8_parted_c124, f_X8_parted_c110, f_X8_parted_102, f_X8_parted_98, f_X8_parted_c92, f_X8_parted_c73, f_X8_parted_57, f_X8_parted_53, f_X8_parted_27, f_X8_parted_26, f_X8_parted_c20, f_X8_parted_c10, f_X8_parted_c2, f_X8_parted, gt_20, gr_20_0, gr_20_5, gr_20_7, gt_21, gt_50, gl_50, gs_50, gst_67, gt_52, gr_20_6, gt_51, gl_51, gr_20_11, gr_20_12, hC, hE, hS, h1, l_200, p3, q3, ha, hb, c_refM, n_sub10, l_of, n_ltT, n_ltF, n_leT, n_leF, n_eqT, n_eqF, n_neM, n_Mne, n_M0, n_Mlt, n_0leM, nI_clamp, x_in_nI, n_1, nI_add, x_at, x_bd_s, x_bv_s, ↓x_lt, decide_true, decide_false, Bool.and_self, Bool.true_and, Bool.and_true, if_true, if_false, ite_true, ite_false, ↓reduceIte, not_true_eq_false, not_false_eq_true, Nat.reduceAdd, Nat.reduceMul, Nat.reduceEqDiff, eq_self, true_and, and_true, false_and, and_false, Option.some.injEq, Prod.mk.injEq, l_0, l_1, l_2, l_3, l_4, l_5, l_6, l_7, l_8, l_9, l_10, l_100, l_160, ↓m_1, ↓m_2, ↓m_3, ↓m_4, ↓m_5, ↓m_6, ↓m_7])
    · rw [if_neg h4] at ha
      rw [if_pos (Or.inr (Or.inr (Or.inr (Or.inl (b_f h4)))))]
      exact c_no_end hG hI (by simp (disch := first | assumption | omega) only [bd_X8_parted_142, f_X8_parted_c135, f_X8_parted_c124, f_X8_parted_c110, f_X8_parted_102, f_X8_parted_98, f_X8_parted_c92, f_X8_parted_c73, f_X8_parted_57, f_X8_parted_53, f_X8_parted_27, f_X8_parted_26, f_X8_parted_c20, f_X8_parted_c10, f_X8_parted_c2, f_X8_parted, gt_20, gr_20_0, gr_20_5, gr_20_7, gt_21, gt_50, gl_50, gs_50, gst_67, gt_52, gr_20_6, gt_51, gl_51, gr_20_11, gr_20_12, hC, hE, hS, h1, l_200, p3, q3, ha, c_refM, n_sub10, l_of, n_ltT, n_ltF, n_leT, n_leF, n_eqT, n_eqF, n_neM, n_Mne, n_M0, n_Mlt, n_0leM, nI_clamp, x_in_nI, n_1, nI_add, x_at, x_bd_s, x_bv_s, ↓x_lt, decide_true, decide_false, Bool.and_self, Bool.true_and, Bool.and_true, if_true, if_false, ite_true, ite_false, ↓reduceIte, not_true_eq_false, not_false_eq_true, Nat.reduceAdd, Nat.reduceMul, Nat.reduceEqDiff, eq_self, true_and, and_true, false_and, and_false, Option.some.injEq, Prod.mk.injEq, l_0, l_1, l_2, l_3, l_4, l_5, l_6, l_7, l_8, l_9, l_10, l_100, l_160, ↓m_1, ↓m_2, ↓m_3, ↓m_4, ↓m_5, ↓m_6, ↓m_7])
  · rw [if_neg h0]
    by_cases hc : c < nI 0 ∨ r_s (s_now σ) 0 ≤ c.toNatClampNeg
    · have e1 : qd σ c e s t = 1 := by unfold qd; rw [if_pos (Or.inl hc)]
      rw [if_pos hc] at hC
      rw [e1]
      exact c_no_end hG hI (by simp (disch := first | assumption | omega) only [bd_X8_parted_142, f_X8_parted_c135, f_X8_parted_c124, f_X8_parted_c110, f_X8_parted_102, f_X8_parted_98, f_X8_parted_c92, f_X8_parted_c73, f_X8_parted_57, f_X8_parted_53, f_X8_parted_27, f_X8_parted_26, f_X8_parted_c20, f_X8_parted_c10, f_X8_parted_c2, f_X8_parted, gt_20, gr_20_0, gr_20_5, gr_20_7, gt_21, gt_50, gl_50, gs_50, gst_67, gt_52, gr_20_6, gt_51, gl_51, gr_20_11, gr_20_12, hC, c_refM, n_sub10, l_of, n_ltT, n_ltF, n_leT, n_leF, n_eqT, n_eqF, n_neM, n_Mne, n_M0, n_Mlt, n_0leM, nI_clamp, x_in_nI, n_1, nI_add, x_at, x_bd_s, x_bv_s, ↓x_lt, decide_true, decide_false, Bool.and_self, Bool.true_and, Bool.and_true, if_true, if_false, ite_true, ite_false, ↓reduceIte, not_true_eq_false, not_false_eq_true, Nat.reduceAdd, Nat.reduceMul, Nat.reduceEqDiff, eq_self, true_and, and_true, false_and, and_false, Option.some.injEq, Prod.mk.injEq, l_0, l_1, l_2, l_3, l_4, l_5, l_6, l_7, l_8, l_9, l_10, l_100, l_160, ↓m_1, ↓m_2, ↓m_3, ↓m_4, ↓m_5, ↓m_6, ↓m_7])
    rw [if_neg hc] at hC
    by_cases he : e < nI 0 ∨ r_s (s_now σ) 0 ≤ e.toNatClampNeg
    · have e1 : qd σ c e s t = 1 := by unfold qd; rw [if_pos (Or.inr he)]
      rw [if_pos he] at hE
      rw [e1]
      exact c_no_end hG hI (by simp (disch := first | assumption | omega) only [bd_X8_parted_142, f_X8_parted_c135, f_X8_parted_c124, f_X8_parted_c110, f_X8_parted_102, f_X8_parted_98, f_X8_parted_c92, f_X8_parted_c73, f_X8_parted_57, f_X8_parted_53, f_X8_parted_27, f_X8_parted_26, f_X8_parted_c20, f_X8_parted_c10, f_X8_parted_c2, f_X8_parted, gt_20, gr_20_0, gr_20_5, gr_20_7, gt_21, gt_50, gl_50, gs_50, gst_67, gt_52, gr_20_6, gt_51, gl_51, gr_20_11, gr_20_12, hC, hE, c_refM, n_sub10, l_of, n_ltT, n_ltF, n_leT, n_leF, n_eqT, n_eqF, n_neM, n_Mne, n_M0, n_Mlt, n_0leM, nI_clamp, x_in_nI, n_1, nI_add, x_at, x_bd_s, x_bv_s, ↓x_lt, decide_true, decide_false, Bool.and_self, Bool.true_and, Bool.and_true, if_true, if_false, ite_true, ite_false, ↓reduceIte, not_true_eq_false, not_false_eq_true, Nat.reduceAdd, Nat.reduceMul, Nat.reduceEqDiff, eq_self, true_and, and_true, false_and, and_false, Option.some.injEq, Prod.mk.injEq, l_0, l_1, l_2, l_3, l_4, l_5, l_6, l_7, l_8, l_9, l_10, l_100, l_160, ↓m_1, ↓m_2, ↓m_3, ↓m_4, ↓m_5, ↓m_6, ↓m_7])
    · have e1 : qd σ c e s t = pq σ s t := by unfold qd; rw [if_neg (fun q => by rcases q with q | q; exact hc q; exact he q)]
      rw [if_neg he] at hE
      rw [e1] at h0 hl ⊢
      rw [rz_s h0] at hS
      exact c_no_end hG hI (by simp (disch := first | assumption | omega) only [bd_X8_parted_142, f_X8_parted_c135, f_X8_parted_c124, f_X8_parted_c110, f_X8_parted_102, f_X8_parted_98, f_X8_parted_c92, f_X8_parted_c73, f_X8_parted_57, f_X8_parted_53, f_X8_parted_27, f_X8_parted_26, f_X8_parted_c20, f_X8_parted_c10, f_X8_parted_c2, f_X8_parted, gt_20, gr_20_0, gr_20_5, gr_20_7, gt_21, gt_50, gl_50, gs_50, gst_67, gt_52, gr_20_6, gt_51, gl_51, gr_20_11, gr_20_12, hC, hE, hS, c_refM, n_sub10, l_of, n_ltT, n_ltF, n_leT, n_leF, n_eqT, n_eqF, n_neM, n_Mne, n_M0, n_Mlt, n_0leM, nI_clamp, x_in_nI, n_1, nI_add, x_at, x_bd_s, x_bv_s, ↓x_lt, decide_true, decide_false, Bool.and_self, Bool.true_and, Bool.and_true, if_true, if_false, ite_true, ite_false, ↓reduceIte, not_true_eq_false, not_false_eq_true, Nat.reduceAdd, Nat.reduceMul, Nat.reduceEqDiff, eq_self, true_and, and_true, false_and, and_false, Option.some.injEq, Prod.mk.injEq, l_0, l_1, l_2, l_3, l_4, l_5, l_6, l_7, l_8, l_9, l_10, l_100, l_160, ↓m_1, ↓m_2, ↓m_3, ↓m_4, ↓m_5, ↓m_6, ↓m_7])
theorem m_isS2 {L : Nat} {b1 b2 : Bool} {M : XM} (hG : Geo L b1 b2 M) (s : Int32) : (f_X9_isShelf 83 s M = some (nI 0, M) ∧ (s < nI 0 ∨ 8 ≤ s.toNatClampNeg)) ∨ (f_X9_isShelf 83 s M = some (nI 1, M) ∧ ∃ k, k < 8 ∧ s = nI k) := by
  rcases i_cs s with h1 | ⟨k, kb, rfl⟩
  · exact Or.inl ⟨by simp (disch := first | assumption | omega) only [f_X9_isShelf, h1, l_of, n_ltT, n_ltF, n_leT, n_leF, n_eqT, n_eqF, n_neM, n_Mne, n_M0, n_Mlt, n_0leM, nI_clamp, x_in_nI, n_1, nI_add, x_at, x_bd_s, x_bv_s, ↓x_lt, decide_true, decide_false, Bool.and_self, Bool.true_and, Bool.and_true, if_true, if_false, ite_true, ite_false, ↓reduceIte, not_true_eq_false, not_false_eq_true, Nat.reduceAdd, Nat.reduceMul, Nat.reduceEqDiff, eq_self, true_and, and_true, false_and, and_false, Option.some.injEq, Prod.mk.injEq, l_0, l_1, l_2, l_3, l_4, l_5, l_6, l_7, l_8, l_9, l_10, l_100, l_160, ↓m_1, ↓m_2, ↓m_3, ↓m_4, ↓m_5, ↓m_6, ↓m_7], Or.inl h1⟩
  · by_cases h2 : 8 ≤ k
    · exact Or.inl ⟨by simp (disch := first | assumption | omega) only [f_X9_isShelf, h2, l_of, n_ltT, n_ltF, n_leT, n_leF, n_eqT, n_eqF, n_neM, n_Mne, n_M0, n_Mlt, n_0leM, nI_clamp, x_in_nI, n_1, nI_add, x_at, x_bd_s, x_bv_s, ↓x_lt, decide_true, decide_false, Bool.and_self, Bool.true_and, Bool.and_true, if_true, if_false, ite_true, ite_false, ↓reduceIte, not_true_eq_false, not_false_eq_true, Nat.reduceAdd, Nat.reduceMul, Nat.reduceEqDiff, eq_self, true_and, and_true, false_and, and_false, Option.some.injEq, Prod.mk.injEq, l_0, l_1, l_2, l_3, l_4, l_5, l_6, l_7, l_8, l_9, l_10, l_100, l_160, ↓m_1, ↓m_2, ↓m_3, ↓m_4, ↓m_5, ↓m_6, ↓m_7], Or.inr (by rw [nI_clamp (by omega)]; exact h2)⟩
    · exact Or.inr ⟨by simp (disch := first | assumption | omega) only [f_X9_isShelf, h2, l_of, n_ltT, n_ltF, n_leT, n_leF, n_eqT, n_eqF, n_neM, n_Mne, n_M0, n_Mlt, n_0leM, nI_clamp, x_in_nI, n_1, nI_add, x_at, x_bd_s, x_bv_s, ↓x_lt, decide_true, decide_false, Bool.and_self, Bool.true_and, Bool.and_true, if_true, if_false, ite_true, ite_false, ↓reduceIte, not_true_eq_false, not_false_eq_true, Nat.reduceAdd, Nat.reduceMul, Nat.reduceEqDiff, eq_self, true_and, and_true, false_and, and_false, Option.some.injEq, Prod.mk.injEq, l_0, l_1, l_2, l_3, l_4, l_5, l_6, l_7, l_8, l_9, l_10, l_100, l_160, ↓m_1, ↓m_2, ↓m_3, ↓m_4, ↓m_5, ↓m_6, ↓m_7], k, by omega, rfl⟩
set_option maxHeartbeats 800000 in
theorem om_parted {B : Nat} {σ : XS} (hW : WFS B σ) (hB : B ≤ 800000) (c e s t m : Int32) : OpM (f_X9_parted 83 c e s t m) σ (sp_parted σ c e s t m).1 (sp_parted σ c e s t m).2 := by
  intro L b1 b2 M hG hI hMW
  obtain ⟨⟨⟨e0, e1, e2, e3, e4, e5, e6, e7⟩, hc, ht⟩, hi, hsh, hrf, hft, hrn, htr⟩ := id hI
  show EndM L b1 b2 (f_X9_parted 83 c e s t m) M (sp_parted σ c e s t m)
  have hC := m_isC hG hI hW c
  have hE := m_isC hG hI hW e
  have hl := qd_le σ c e s t
  unfold sp_parted
  by_cases h0 : qd σ c e s t = 0
  · rw [if_pos h0]
    obtain ⟨j, i, k, l, rfl, hj, rfl, hi', rfl, k8, k1, rfl, l8, l1, hp⟩ := qd_0 h0
    obtain ⟨⟨w0, w1, w2, w3, w4, w5, w6, w7⟩, wc, wl, wtt⟩ := id hW.1
    have hsk : f_X9_isShelf 83 (nI k) M = some (nI 1, M) := by simp (disch := first | assumption | omega) only [f_X9_isShelf, l_of, n_ltT, n_ltF, n_leT, n_leF, n_eqT, n_eqF, n_neM, n_Mne, n_M0, n_Mlt, n_0leM, nI_clamp, x_in_nI, n_1, nI_add, x_at, x_bd_s, x_bv_s, ↓x_lt, decide_true, decide_false, Bool.and_self, Bool.true_and, Bool.and_true, if_true, if_false, ite_true, ite_false, ↓reduceIte, not_true_eq_false, not_false_eq_true, Nat.reduceAdd, Nat.reduceMul, Nat.reduceEqDiff, eq_self, true_and, and_true, false_and, and_false, Option.some.injEq, Prod.mk.injEq, l_0, l_1, l_2, l_3, l_4, l_5, l_6, l_7, l_8, l_9, l_10, l_100, l_160, ↓m_1, ↓m_2, ↓m_3, ↓m_4, ↓m_5, ↓m_6, ↓m_7]
    have hsl : f_X9_isShelf 83 (nI l) M = some (nI 1, M) := by simp (disch := first | assumption | omega) only [f_X9_isShelf, l_of, n_ltT, n_ltF, n_leT, n_leF, n_eqT, n_eqF, n_neM, n_Mne, n_M0, n_Mlt, n_0leM, nI_clamp, x_in_nI, n_1, nI_add, x_at, x_bd_s, x_bv_s, ↓x_lt, decide_true, decide_false, Bool.and_self, Bool.true_and, Bool.and_true, if_true, if_false, ite_true, ite_false, ↓reduceIte, not_true_eq_false, not_false_eq_true, Nat.reduceAdd, Nat.reduceMul, Nat.reduceEqDiff, eq_self, true_and, and_true, false_and, and_false, Option.some.injEq, Prod.mk.injEq, l_0, l_1, l_2, l_3, l_4, l_5, l_6, l_7, l_8, l_9, l_10, l_100, l_160, ↓m_1, ↓m_2, ↓m_3, ↓m_4, ↓m_5, ↓m_6, ↓m_7]
    rw [nI_clamp (by omega), if_neg (fun q => by rcases q with q | q; exact nI_pos (by omega) q; omega)] at hC hE
    have ks := ((hW.2.2.1 k k8).2.1 k1).2
    have ls := ((hW.2.2.1 l l8).2.1 l1).2
    have p0 := (hI.2.2.1 k k8).1
    have q0 := (hI.2.2.1 l l8).1
    rw [k1] at p0
    rw [l1] at q0
    have p3 := ((hI.2.2.1 k k8).2.1 k1).2.1
    have q3 := ((hI.2.2.1 l l8).2.1 l1).2.1
    rw [nI_clamp (show k < 2 ^ 31 by omega), nI_clamp (show l < 2 ^ 31 by omega)]
    by_cases h1 : nI j = nI i
    · rw [if_pos (Or.inl h1)]
      rw [h1] at hC ⊢
      exact m_no_end hG hI hMW (by simp (disch := first | assumption | omega) only [bd_X9_parted_216, f_X9_parted_c209, f_X9_parted_c199, f_X9_parted_183, f_X9_parted_179, f_X9_parted_c173, f_X9_parted_c157, f_X9_parted_100, f_X9_parted_70, f_X9_parted_94, f_X9_parted_38, f_X9_parted_37, f_X9_parted_c27, f_X9_parted_c18, f_X9_parted_c10, f_X9_parted_c2, f_X9_parted, gt_83, gr_83_9, gt_84, gl_84, gr_83_16, gt_91, gl_91, gr_83_18, gt_93, gl_93, hC, hE, hsk, hsl, p0, q0, m_noTen, l_of, n_ltT, n_ltF, n_leT, n_leF, n_eqT, n_eqF, n_neM, n_Mne, n_M0, n_Mlt, n_0leM, nI_clamp, x_in_nI, n_1, nI_add, x_at, x_bd_s, x_bv_s, ↓x_lt, decide_true, decide_false, Bool.and_self, Bool.true_and, Bool.and_true, if_true, if_false, ite_true, ite_false, ↓reduceIte, not_true_eq_false, not_false_eq_true, Nat.reduceAdd, Nat.reduceMul, Nat.reduceEqDiff, eq_self, true_and, and_true, false_and, and_false, Option.some.injEq, Prod.mk.injEq, l_0, l_1, l_2, l_3, l_4, l_5, l_6, l_7, l_8, l_9, l_10, l_100, l_160, ↓m_1, ↓m_2, ↓m_3, ↓m_4, ↓m_5, ↓m_6, ↓m_7])
    by_cases h2 : m < nI 1
    · rw [if_pos (Or.inr (Or.inl h2))]
      exact m_no_end hG hI hMW (by simp (disch := first | assumption | omega) only [bd_X9_parted_216, f_X9_parted_c209, f_X9_parted_c199, f_X9_parted_183, f_X9_parted_179, f_X9_parted_c173, f_X9_parted_c157, f_X9_parted_100, f_X9_parted_70, f_X9_parted_94, f_X9_parted_38, f_X9_parted_37, f_X9_parted_c27, f_X9_parted_c18, f_X9_parted_c10, f_X9_parted_c2, f_X9_parted, gt_83, gr_83_9, gt_84, gl_84, gr_83_16, gt_91, gl_91, gr_83_18, gt_93, gl_93, hC, hE, hsk, hsl, p0, q0, h1, h2, m_noTen, l_of, n_ltT, n_ltF, n_leT, n_leF, n_eqT, n_eqF, n_neM, n_Mne, n_M0, n_Mlt, n_0leM, nI_clamp, x_in_nI, n_1, nI_add, x_at, x_bd_s, x_bv_s, ↓x_lt, decide_true, decide_false, Bool.and_self, Bool.true_and, Bool.and_true, if_true, if_false, ite_true, ite_false, ↓reduceIte, not_true_eq_false, not_false_eq_true, Nat.reduceAdd, Nat.reduceMul, Nat.reduceEqDiff, eq_self, true_and, and_true, false_and, and_false, Option.some.injEq, Prod.mk.injEq, l_0, l_1, l_2, l_3, l_4, l_5, l_6, l_7, l_8, l_9, l_10, l_100, l_160, ↓m_1, ↓m_2, ↓m_3, ↓m_4, ↓m_5, ↓m_6, ↓m_7])
    obtain ⟨x, xb, rfl⟩ : ∃ x, x < 2147483648 ∧ m = nI x := by
      rcases i_cs m with q | q
      · exact absurd (by rw [n_lt1 q (by omega)]; trivial) h2
      · exact q
    have x1 : 1 ≤ x := by
      rcases Nat.lt_or_ge x 1 with q | q
      · exact absurd (by rw [n_ltT q (by omega)]; trivial) h2
      · exact q
    rw [nI_clamp (show x < 2 ^ 31 by omega)]
    by_cases h3 : 200 < x
    · rw [if_pos (Or.inr (Or.inr (Or.inl h3)))]
      exact m_no_end hG hI hMW (by simp (disch := first | assumption | omega) only [bd_X9_parted_216, f_X9_parted_c209, f_X9_parted_c199, f_X9_parted_183, f_X9_parted_179, f_X9_parted_c173, f_X9_parted_c157, f_X9_parted_100, f_X9_parted_70, f_X9_parted_94, f_X9_parted_38, f_X9_parted_37, f_X9_parted_c27, f_X9_parted_c18, f_X9_parted_c10, f_X9_parted_c2, f_X9_parted, gt_83, gr_83_9, gt_84, gl_84, gr_83_16, gt_91, gl_91, gr_83_18, gt_93, gl_93, hC, hE, hsk, hsl, p0, q0, h1, h3, l_200, m_noTen, l_of, n_ltT, n_ltF, n_leT, n_leF, n_eqT, n_eqF, n_neM, n_Mne, n_M0, n_Mlt, n_0leM, nI_clamp, x_in_nI, n_1, nI_add, x_at, x_bd_s, x_bv_s, ↓x_lt, decide_true, decide_false, Bool.and_self, Bool.true_and, Bool.and_true, if_true, if_false, ite_true, ite_false, ↓reduceIte, not_true_eq_false, not_false_eq_true, Nat.reduceAdd, Nat.reduceMul, Nat.reduceEqDiff, eq_self, true_and, and_true, false_and, and_false, Option.some.injEq, Prod.mk.injEq, l_0, l_1, l_2, l_3, l_4, l_5, l_6, l_7, l_8, l_9, l_10, l_100, l_160, ↓m_1, ↓m_2, ↓m_3, ↓m_4, ↓m_5, ↓m_6, ↓m_7])
    by_cases h6 : 40 < s_sh σ 2 k
    · have h4 : ¬ okS σ (nI k) (nI (s_sh σ 2 k)) = true := fun q => by have := okS_40 q (by omega); omega
      rw [if_pos (Or.inr (Or.inr (Or.inr (Or.inl (b_f h4)))))]
      exact m_no_end hG hI hMW (by simp (disch := first | assumption | omega) only [bd_X9_parted_216, f_X9_parted_c209, f_X9_parted_c199, f_X9_parted_183, f_X9_parted_179, f_X9_parted_c173, f_X9_parted_c157, f_X9_parted_100, f_X9_parted_70, f_X9_parted_94, f_X9_parted_38, f_X9_parted_37, f_X9_parted_c27, f_X9_parted_c18, f_X9_parted_c10, f_X9_parted_c2, f_X9_parted, gt_83, gr_83_9, gt_84, gl_84, gr_83_16, gt_91, gl_91, gr_83_18, gt_93, gl_93, hC, hE, hsk, hsl, p0, q0, p3, h1, h6, l_40, l_200, m_noTen, l_of, n_ltT, n_ltF, n_leT, n_leF, n_eqT, n_eqF, n_neM, n_Mne, n_M0, n_Mlt, n_0leM, nI_clamp, x_in_nI, n_1, nI_add, x_at, x_bd_s, x_bv_s, ↓x_lt, decide_true, decide_false, Bool.and_self, Bool.true_and, Bool.and_true, if_true, if_false, ite_true, ite_false, ↓reduceIte, not_true_eq_false, not_false_eq_true, Nat.reduceAdd, Nat.reduceMul, Nat.reduceEqDiff, eq_self, true_and, and_true, false_and, and_false, Option.some.injEq, Prod.mk.injEq, l_0, l_1, l_2, l_3, l_4, l_5, l_6, l_7, l_8, l_9, l_10, l_100, l_160, ↓m_1, ↓m_2, ↓m_3, ↓m_4, ↓m_5, ↓m_6, ↓m_7])
    by_cases h7 : 40 < s_sh σ 2 l
    · have h5 : ¬ okS σ (nI l) (nI (s_sh σ 2 l)) = true := fun q => by have := okS_40 q (by omega); omega
      rw [if_pos (Or.inr (Or.inr (Or.inr (Or.inr (b_f h5)))))]
      exact m_no_end hG hI hMW (by simp (disch := first | assumption | omega) only [bd_X9_parted_216, f_X9_parted_c209, f_X9_parted_c199, f_X9_parted_183, f_X9_parted_179, f_X9_parted_c173, f_X9_parted_c157, f_X9_parted_100, f_X9_parted_70, f_X9_parted_94, f_X9_parted_38, f_X9_parted_37, f_X9_parted_c27, f_X9_parted_c18, f_X9_parted_c10, f_X9_parted_c2, f_X9_parted, gt_83, gr_83_9, gt_84, gl_84, gr_83_16, gt_91, gl_91, gr_83_18, gt_93, gl_93, hC, hE, hsk, hsl, p0, q0, p3, q3, h1, h7, l_40, l_200, m_noTen, l_of, n_ltT, n_ltF, n_leT, n_leF, n_eqT, n_eqF, n_neM, n_Mne, n_M0, n_Mlt, n_0leM, nI_clamp, x_in_nI, n_1, nI_add, x_at, x_bd_s, x_bv_s, ↓x_lt, decide_true, decide_false, Bool.and_self, Bool.true_and, Bool.and_true, if_true, if_false, ite_true, ite_false, ↓reduceIte, not_true_eq_false, not_false_eq_true, Nat.reduceAdd, Nat.reduceMul, Nat.reduceEqDiff, eq_self, true_and, and_true, false_and, and_false, Option.some.injEq, Prod.mk.injEq, l_0, l_1, l_2, l_3, l_4, l_5, l_6, l_7, l_8, l_9, l_10, l_100, l_160, ↓m_1, ↓m_2, ↓m_3, ↓m_4, ↓m_5, ↓m_6, ↓m_7])
    have ha := m_are hG hI hW k8 k1 (Nat.le_refl _) (by omega)
    have hb := m_are hG hI hW l8 l1 (Nat.le_refl _) (by omega)
    by_cases h4 : okS σ (nI k) (nI (s_sh σ 2 k)) = true
    · rw [if_pos h4] at ha
      by_cases h5 : okS σ (nI l) (nI (s_sh σ 2 l)) = true
      · rw [if_pos h5] at hb
        rw [if_neg (fun q => by
          rcases q with q | q | q | q | q
          · exact h1 q
          · exact h2 q
          · exact h3 q
          · rw [h4] at q; cases q
          · rw [h5] at q; cases q)]
        obtain ⟨M1, g1, g2, g3, g4⟩ := m_cmp (L := L) (b1 := b1) (b2 := b2) (e := 0) (Or.inl rfl) hW hB hj k8 k1 (by omega) (r_s (s_now σ) 1 + 1) x_fuel 0 M (fu (by omega)) hG hI (by omega) (fun q hq => absurd hq (by omega))
        have hI1 : MInv σ M1 := hI.fr g4 (fun a k q r => by omega)
        obtain ⟨M2, u1, u2, u3, u4⟩ := m_cmp (L := L) (b1 := b1) (b2 := b2) (e := 201) (Or.inr rfl) hW hB hi' l8 l1 (by omega) (r_s (s_now σ) 1 + 1) x_fuel 0 M1 (fu (by omega)) g2 hI1 (by omega) (fun q hq => absurd hq (by omega))
        have hI2 : MInv σ M2 := hI1.fr u4 (fun a k q r => by omega)
        have hpt := m_ptl (m := x) u2 hI2.1.1.2.1 w2 x1 (by omega) (fun q hq => (u4.1 _ _ (by omega)).trans (g3 q hq)) u3 201 x_fuel x (fu (by omega)) (by omega) (by omega)
        unfold pan
        rw [nI_clamp (by omega), nI_clamp (by omega), nI_clamp (by omega), nI_clamp (by omega), nI_clamp (by omega)]
        refine m_w_end u2 hI hMW ((g4.mono (fun a k q => by omega)).tr (u4.mono (fun a k q => by omega))) ?_
        simp (disch := first | assumption | omega) only [bd_X9_parted_216, f_X9_parted_c209, f_X9_parted_c199, f_X9_parted_183, f_X9_parted_179, f_X9_parted_c173, f_X9_parted_c157, f_X9_parted_100, f_X9_parted_70, f_X9_parted_94, f_X9_parted_38, f_X9_parted_37, f_X9_parted_c27, f_X9_parted_c18, f_X9_parted_c10, f_X9_parted_c2, f_X9_parted, f_X9_compares, gt_83, gr_83_9, gt_84, gl_84, gr_83_16, gt_91, gl_91, gr_83_18, gt_93, gl_93, hC, hE, hsk, hsl, p0, q0, p3, q3, h1, l_40, l_200, l_201, ha, hb, g1, u1, l_of, n_ltT, n_ltF, n_leT, n_leF, n_eqT, n_eqF, n_neM, n_Mne, n_M0, n_Mlt, n_0leM, nI_clamp, x_in_nI, n_1, nI_add, x_at, x_bd_s, x_bv_s, ↓x_lt, decide_true, decide_false, Bool.and_self, Bool.true_and, Bool.and_true, if_true, if_false, ite_true, ite_false, ↓reduceIte, not_true_eq_false, not_false_eq_true, Nat.reduceAdd, Nat.reduceMul, Nat.reduceEqDiff, eq_self, true_and, and_true, false_and, and_false, Option.some.injEq, Prod.mk.injEq, l_0, l_1, l_2, l_3, l_4, l_5, l_6, l_7, l_8, l_9, l_10, l_100, l_160, ↓m_1, ↓m_2, ↓m_3, ↓m_4, ↓m_5, ↓m_6, ↓m_7]
        exact hpt
      · rw [if_neg h5] at hb
        rw [if_pos (Or.inr (Or.inr (Or.inr (Or.inr (b_f h5)))))]
        exact m_no_end hG hI hMW (by simp (disch := first | assumption | omega) only [bd_X9_parted_216, f_X9_parted_c209, f_X9_parted_c199, f_X9_parted_183, f_X9_parted_179, f_X9_parted_c173, f_X9_parted_c157, f_X9_parted_100, f_X9_parted_70, f_X9_parted_94, f_X9_parted_38, f_X9_parted_37, f_X9_parted_c27, f_X9_parted_c18, f_X9_parted_c10, f_X9_parted_c2, f_X9_parted, gt_83, gr_83_9, gt_84, gl_84, gr_83_16, gt_91, gl_91, gr_83_18, gt_93, gl_93, hC, hE, hsk, hsl, p0, q0, p3, q3, h1, l_40, l_200, ha, hb, m_noTen, l_of, n_ltT, n_ltF, n_leT, n_leF, n_eqT, n_eqF, n_neM, n_Mne, n_M0, n_Mlt, n_0leM, nI_clamp, x_in_nI, n_1, nI_add, x_at, x_bd_s, x_bv_s, ↓x_lt, decide_true, decide_false, Bool.and_self, Bool.true_and, Bool.and_true, if_true, if_false, ite_true, ite_false, ↓reduceIte, not_true_eq_false, not_false_eq_true, Nat.reduceAdd, Nat.reduceMul, Nat.reduceEqDiff, eq_self, true_and, and_true, false_and, and_false, Option.some.injEq, Prod.mk.injEq, l_0, l_1, l_2, l_3, l_4, l_5, l_6, l_7, l_8, l_9, l_10, l_100, l_160, ↓m_1, ↓m_2, ↓m_3, ↓m_4, ↓m_5, ↓m_6, ↓m_7])
    · rw [if_neg h4] at ha
      rw [if_pos (Or.inr (Or.inr (Or.inr (Or.inl (b_f h4)))))]
      exact m_no_end hG hI hMW (by simp (disch := first | assumption | omega) only [bd_X9_parted_216, f_X9_parted_c209, f_X9_parted_c199, f_X9_parted_183, f_X9_parted_179, f_X9_parted_c173, f_X9_parted_c157, f_X9_parted_100, f_X9_parted_70, f_X9_parted_94, f_X9_parted_38, f_X9_parted_37, f_X9_parted_c27, f_X9_parted_c18, f_X9_parted_c10, f_X9_parted_c2, f_X9_parted, gt_83, gr_83_9, gt_84, gl_84, gr_83_16, gt_91, gl_91, gr_83_18, gt_93, gl_93, hC, hE, hsk, hsl, p0, q0, p3, q3, h1, l_40, l_200, ha, m_noTen, l_of, n_ltT, n_ltF, n_leT, n_leF, n_eqT, n_eqF, n_neM, n_Mne, n_M0, n_Mlt, n_0leM, nI_clamp, x_in_nI, n_1, nI_add, x_at, x_bd_s, x_bv_s, ↓x_lt, decide_true, decide_false, Bool.and_self, Bool.true_and, Bool.and_true, if_true, if_false, ite_true, ite_false, ↓reduceIte, not_true_eq_false, not_false_eq_true, Nat.reduceAdd, Nat.reduceMul, Nat.reduceEqDiff, eq_self, true_and, and_true, false_and, and_false, Option.some.injEq, Prod.mk.injEq, l_0, l_1, l_2, l_3, l_4, l_5, l_6, l_7, l_8, l_9, l_10, l_100, l_160, ↓m_1, ↓m_2, ↓m_3, ↓m_4, ↓m_5, ↓m_6, ↓m_7])
  · rw [if_neg h0]
    by_cases hc : c < nI 0 ∨ r_s (s_now σ) 0 ≤ c.toNatClampNeg
    · have e1 : qd σ c e s t = 1 := by unfold qd; rw [if_pos (Or.inl hc)]
      rw [if_pos hc] at hC
      rw [e1]
      exact m_no_end hG hI hMW (by simp (disch := first | assumption | omega) only [bd_X9_parted_216, f_X9_parted_c209, f_X9_parted_c199, f_X9_parted_183, f_X9_parted_179, f_X9_parted_c173, f_X9_parted_c157, f_X9_parted_100, f_X9_parted_70, f_X9_parted_94, f_X9_parted_38, f_X9_parted_37, f_X9_parted_c27, f_X9_parted_c18, f_X9_parted_c10, f_X9_parted_c2, f_X9_parted, gt_83, gr_83_9, gt_84, gl_84, gr_83_16, gt_91, gl_91, gr_83_18, gt_93, gl_93, hC, m_noTen, l_of, n_ltT, n_ltF, n_leT, n_leF, n_eqT, n_eqF, n_neM, n_Mne, n_M0, n_Mlt, n_0leM, nI_clamp, x_in_nI, n_1, nI_add, x_at, x_bd_s, x_bv_s, ↓x_lt, decide_true, decide_false, Bool.and_self, Bool.true_and, Bool.and_true, if_true, if_false, ite_true, ite_false, ↓reduceIte, not_true_eq_false, not_false_eq_true, Nat.reduceAdd, Nat.reduceMul, Nat.reduceEqDiff, eq_self, true_and, and_true, false_and, and_false, Option.some.injEq, Prod.mk.injEq, l_0, l_1, l_2, l_3, l_4, l_5, l_6, l_7, l_8, l_9, l_10, l_100, l_160, ↓m_1, ↓m_2, ↓m_3, ↓m_4, ↓m_5, ↓m_6, ↓m_7])
    rw [if_neg hc] at hC
    by_cases he : e < nI 0 ∨ r_s (s_now σ) 0 ≤ e.toNatClampNeg
    · have e1 : qd σ c e s t = 1 := by unfold qd; rw [if_pos (Or.inr he)]
      rw [if_pos he] at hE
      rw [e1]
      exact m_no_end hG hI hMW (by simp (disch := first | assumption | omega) only [bd_X9_parted_216, f_X9_parted_c209, f_X9_parted_c199, f_X9_parted_183, f_X9_parted_179, f_X9_parted_c173, f_X9_parted_c157, f_X9_parted_100, f_X9_parted_70, f_X9_parted_94, f_X9_parted_38, f_X9_parted_37, f_X9_parted_c27, f_X9_parted_c18, f_X9_parted_c10, f_X9_parted_c2, f_X9_parted, gt_83, gr_83_9, gt_84, gl_84, gr_83_16, gt_91, gl_91, gr_83_18, gt_93, gl_93, hC, hE, m_noTen, l_of, n_ltT, n_ltF, n_leT, n_leF, n_eqT, n_eqF, n_neM, n_Mne, n_M0, n_Mlt, n_0leM, nI_clamp, x_in_nI, n_1, nI_add, x_at, x_bd_s, x_bv_s, ↓x_lt, decide_true, decide_false, Bool.and_self, Bool.true_and, Bool.and_true, if_true, if_false, ite_true, ite_false, ↓reduceIte, not_true_eq_false, not_false_eq_true, Nat.reduceAdd, Nat.reduceMul, Nat.reduceEqDiff, eq_self, true_and, and_true, false_and, and_false, Option.some.injEq, Prod.mk.injEq, l_0, l_1, l_2, l_3, l_4, l_5, l_6, l_7, l_8, l_9, l_10, l_100, l_160, ↓m_1, ↓m_2, ↓m_3, ↓m_4, ↓m_5, ↓m_6, ↓m_7])
    rw [if_neg he] at hE
    have e1 : qd σ c e s t = pq σ s t := by unfold qd; rw [if_neg (fun q => by rcases q with q | q; exact hc q; exact he q)]
    rcases m_isS2 hG s with ⟨hs, hs1⟩ | ⟨hs, k, k8, rfl⟩
    · have e2 : pq σ s t = 1 := by
        unfold pq
        rw [if_pos (by rcases hs1 with q | q; exact Or.inl q; exact Or.inr (Or.inl q))]
      rw [e1, e2]
      exact m_no_end hG hI hMW (by simp (disch := first | assumption | omega) only [bd_X9_parted_216, f_X9_parted_c209, f_X9_parted_c199, f_X9_parted_183, f_X9_parted_179, f_X9_parted_c173, f_X9_parted_c157, f_X9_parted_100, f_X9_parted_70, f_X9_parted_94, f_X9_parted_38, f_X9_parted_37, f_X9_parted_c27, f_X9_parted_c18, f_X9_parted_c10, f_X9_parted_c2, f_X9_parted, gt_83, gr_83_9, gt_84, gl_84, gr_83_16, gt_91, gl_91, gr_83_18, gt_93, gl_93, hC, hE, hs, m_noTen, l_of, n_ltT, n_ltF, n_leT, n_leF, n_eqT, n_eqF, n_neM, n_Mne, n_M0, n_Mlt, n_0leM, nI_clamp, x_in_nI, n_1, nI_add, x_at, x_bd_s, x_bv_s, ↓x_lt, decide_true, decide_false, Bool.and_self, Bool.true_and, Bool.and_true, if_true, if_false, ite_true, ite_false, ↓reduceIte, not_true_eq_false, not_false_eq_true, Nat.reduceAdd, Nat.reduceMul, Nat.reduceEqDiff, eq_self, true_and, and_true, false_and, and_false, Option.some.injEq, Prod.mk.injEq, l_0, l_1, l_2, l_3, l_4, l_5, l_6, l_7, l_8, l_9, l_10, l_100, l_160, ↓m_1, ↓m_2, ↓m_3, ↓m_4, ↓m_5, ↓m_6, ↓m_7])
    rcases m_isS2 hG t with ⟨ht', ht1⟩ | ⟨ht', l, l8, rfl⟩
    · have e2 : pq σ (nI k) t = 1 := by
        unfold pq
        rw [if_pos (Or.inr (Or.inr ht1))]
      rw [e1, e2]
      exact m_no_end hG hI hMW (by simp (disch := first | assumption | omega) only [bd_X9_parted_216, f_X9_parted_c209, f_X9_parted_c199, f_X9_parted_183, f_X9_parted_179, f_X9_parted_c173, f_X9_parted_c157, f_X9_parted_100, f_X9_parted_70, f_X9_parted_94, f_X9_parted_38, f_X9_parted_37, f_X9_parted_c27, f_X9_parted_c18, f_X9_parted_c10, f_X9_parted_c2, f_X9_parted, gt_83, gr_83_9, gt_84, gl_84, gr_83_16, gt_91, gl_91, gr_83_18, gt_93, gl_93, hC, hE, hs, ht', m_noTen, l_of, n_ltT, n_ltF, n_leT, n_leF, n_eqT, n_eqF, n_neM, n_Mne, n_M0, n_Mlt, n_0leM, nI_clamp, x_in_nI, n_1, nI_add, x_at, x_bd_s, x_bv_s, ↓x_lt, decide_true, decide_false, Bool.and_self, Bool.true_and, Bool.and_true, if_true, if_false, ite_true, ite_false, ↓reduceIte, not_true_eq_false, not_false_eq_true, Nat.reduceAdd, Nat.reduceMul, Nat.reduceEqDiff, eq_self, true_and, and_true, false_and, and_false, Option.some.injEq, Prod.mk.injEq, l_0, l_1, l_2, l_3, l_4, l_5, l_6, l_7, l_8, l_9, l_10, l_100, l_160, ↓m_1, ↓m_2, ↓m_3, ↓m_4, ↓m_5, ↓m_6, ↓m_7])
    have e2 : pq σ (nI k) (nI l) = if s_sh σ 0 k = 2 ∨ s_sh σ 0 l = 2 then 2 else if s_sh σ 0 k = 1 ∧ s_sh σ 0 l = 1 then 0 else 3 := by
      unfold pq
      rw [nI_clamp (by omega), nI_clamp (by omega), if_neg (fun q => by
        rcases q with q | q | q | q
        · exact nI_pos (by omega) q
        · omega
        · exact nI_pos (by omega) q
        · omega)]
    rw [e1, e2] at h0 ⊢
    have p0 := (hI.2.2.1 k k8).1
    have q0 := (hI.2.2.1 l l8).1
    have kv := (hW.2.2.1 k k8).1
    have lv := (hW.2.2.1 l l8).1
    rcases (by omega : s_sh σ 0 k = 2 ∨ s_sh σ 0 k = 0 ∨ s_sh σ 0 k = 1) with u | u | u
    · rw [u] at p0
      rw [if_pos (Or.inl u)]
      exact m_no_end hG hI hMW (by simp (disch := first | assumption | omega) only [bd_X9_parted_216, f_X9_parted_c209, f_X9_parted_c199, f_X9_parted_183, f_X9_parted_179, f_X9_parted_c173, f_X9_parted_c157, f_X9_parted_100, f_X9_parted_70, f_X9_parted_94, f_X9_parted_38, f_X9_parted_37, f_X9_parted_c27, f_X9_parted_c18, f_X9_parted_c10, f_X9_parted_c2, f_X9_parted, gt_83, gr_83_9, gt_84, gl_84, gr_83_16, gt_91, gl_91, gr_83_18, gt_93, gl_93, hC, hE, hs, ht', p0, m_noTen, l_of, n_ltT, n_ltF, n_leT, n_leF, n_eqT, n_eqF, n_neM, n_Mne, n_M0, n_Mlt, n_0leM, nI_clamp, x_in_nI, n_1, nI_add, x_at, x_bd_s, x_bv_s, ↓x_lt, decide_true, decide_false, Bool.and_self, Bool.true_and, Bool.and_true, if_true, if_false, ite_true, ite_false, ↓reduceIte, not_true_eq_false, not_false_eq_true, Nat.reduceAdd, Nat.reduceMul, Nat.reduceEqDiff, eq_self, true_and, and_true, false_and, and_false, Option.some.injEq, Prod.mk.injEq, l_0, l_1, l_2, l_3, l_4, l_5, l_6, l_7, l_8, l_9, l_10, l_100, l_160, ↓m_1, ↓m_2, ↓m_3, ↓m_4, ↓m_5, ↓m_6, ↓m_7])
    · rw [u] at p0
      rcases (by omega : s_sh σ 0 l = 2 ∨ s_sh σ 0 l ≠ 2) with v | v
      · rw [v] at q0
        rw [if_pos (Or.inr v)]
        exact m_no_end hG hI hMW (by simp (disch := first | assumption | omega) only [bd_X9_parted_216, f_X9_parted_c209, f_X9_parted_c199, f_X9_parted_183, f_X9_parted_179, f_X9_parted_c173, f_X9_parted_c157, f_X9_parted_100, f_X9_parted_70, f_X9_parted_94, f_X9_parted_38, f_X9_parted_37, f_X9_parted_c27, f_X9_parted_c18, f_X9_parted_c10, f_X9_parted_c2, f_X9_parted, gt_83, gr_83_9, gt_84, gl_84, gr_83_16, gt_91, gl_91, gr_83_18, gt_93, gl_93, hC, hE, hs, ht', p0, q0, m_noTen, l_of, n_ltT, n_ltF, n_leT, n_leF, n_eqT, n_eqF, n_neM, n_Mne, n_M0, n_Mlt, n_0leM, nI_clamp, x_in_nI, n_1, nI_add, x_at, x_bd_s, x_bv_s, ↓x_lt, decide_true, decide_false, Bool.and_self, Bool.true_and, Bool.and_true, if_true, if_false, ite_true, ite_false, ↓reduceIte, not_true_eq_false, not_false_eq_true, Nat.reduceAdd, Nat.reduceMul, Nat.reduceEqDiff, eq_self, true_and, and_true, false_and, and_false, Option.some.injEq, Prod.mk.injEq, l_0, l_1, l_2, l_3, l_4, l_5, l_6, l_7, l_8, l_9, l_10, l_100, l_160, ↓m_1, ↓m_2, ↓m_3, ↓m_4, ↓m_5, ↓m_6, ↓m_7])
      · rw [if_neg (by omega), if_neg (by omega)]
        exact m_no_end hG hI hMW (by simp (disch := first | assumption | omega) only [bd_X9_parted_216, f_X9_parted_c209, f_X9_parted_c199, f_X9_parted_183, f_X9_parted_179, f_X9_parted_c173, f_X9_parted_c157, f_X9_parted_100, f_X9_parted_70, f_X9_parted_94, f_X9_parted_38, f_X9_parted_37, f_X9_parted_c27, f_X9_parted_c18, f_X9_parted_c10, f_X9_parted_c2, f_X9_parted, gt_83, gr_83_9, gt_84, gl_84, gr_83_16, gt_91, gl_91, gr_83_18, gt_93, gl_93, hC, hE, hs, ht', p0, q0, m_noTen, l_of, n_ltT, n_ltF, n_leT, n_leF, n_eqT, n_eqF, n_neM, n_Mne, n_M0, n_Mlt, n_0leM, nI_clamp, x_in_nI, n_1, nI_add, x_at, x_bd_s, x_bv_s, ↓x_lt, decide_true, decide_false, Bool.and_self, Bool.true_and, Bool.and_true, if_true, if_false, ite_true, ite_false, ↓reduceIte, not_true_eq_false, not_false_eq_true, Nat.reduceAdd, Nat.reduceMul, Nat.reduceEqDiff, eq_self, true_and, and_true, false_and, and_false, Option.some.injEq, Prod.mk.injEq, l_0, l_1, l_2, l_3, l_4, l_5, l_6, l_7, l_8, l_9, l_10, l_100, l_160, ↓m_1, ↓m_2, ↓m_3, ↓m_4, ↓m_5, ↓m_6, ↓m_7])
    · rw [u] at p0
      rcases (by omega : s_sh σ 0 l = 2 ∨ s_sh σ 0 l = 0 ∨ s_sh σ 0 l = 1) with v | v | v
      · rw [v] at q0
        rw [if_pos (Or.inr v)]
        exact m_no_end hG hI hMW (by simp (disch := first | assumption | omega) only [bd_X9_parted_216, f_X9_parted_c209, f_X9_parted_c199, f_X9_parted_183, f_X9_parted_179, f_X9_parted_c173, f_X9_parted_c157, f_X9_parted_100, f_X9_parted_70, f_X9_parted_94, f_X9_parted_38, f_X9_parted_37, f_X9_parted_c27, f_X9_parted_c18, f_X9_parted_c10, f_X9_parted_c2, f_X9_parted, gt_83, gr_83_9, gt_84, gl_84, gr_83_16, gt_91, gl_91, gr_83_18, gt_93, gl_93, hC, hE, hs, ht', p0, q0, m_noTen, l_of, n_ltT, n_ltF, n_leT, n_leF, n_eqT, n_eqF, n_neM, n_Mne, n_M0, n_Mlt, n_0leM, nI_clamp, x_in_nI, n_1, nI_add, x_at, x_bd_s, x_bv_s, ↓x_lt, decide_true, decide_false, Bool.and_self, Bool.true_and, Bool.and_true, if_true, if_false, ite_true, ite_false, ↓reduceIte, not_true_eq_false, not_false_eq_true, Nat.reduceAdd, Nat.reduceMul, Nat.reduceEqDiff, eq_self, true_and, and_true, false_and, and_false, Option.some.injEq, Prod.mk.injEq, l_0, l_1, l_2, l_3, l_4, l_5, l_6, l_7, l_8, l_9, l_10, l_100, l_160, ↓m_1, ↓m_2, ↓m_3, ↓m_4, ↓m_5, ↓m_6, ↓m_7])
      · rw [v] at q0
        rw [if_neg (by omega), if_neg (by omega)]
        exact m_no_end hG hI hMW (by simp (disch := first | assumption | omega) only [bd_X9_parted_216, f_X9_parted_c209, f_X9_parted_c199, f_X9_parted_183, f_X9_parted_179, f_X9_parted_c173, f_X9_parted_c157, f_X9_parted_100, f_X9_parted_70, f_X9_parted_94, f_X9_parted_38, f_X9_parted_37, f_X9_parted_c27, f_X9_parted_c18, f_X9_parted_c10, f_X9_parted_c2, f_X9_parted, gt_83, gr_83_9, gt_84, gl_84, gr_83_16, gt_91, gl_91, gr_83_18, gt_93, gl_93, hC, hE, hs, ht', p0, q0, m_noTen, l_of, n_ltT, n_ltF, n_leT, n_leF, n_eqT, n_eqF, n_neM, n_Mne, n_M0, n_Mlt, n_0leM, nI_clamp, x_in_nI, n_1, nI_add, x_at, x_bd_s, x_bv_s, ↓x_lt, decide_true, decide_false, Bool.and_self, Bool.true_and, Bool.and_true, if_true, if_false, ite_true, ite_false, ↓reduceIte, not_true_eq_false, not_false_eq_true, Nat.reduceAdd, Nat.reduceMul, Nat.reduceEqDiff, eq_self, true_and, and_true, false_and, and_false, Option.some.injEq, Prod.mk.injEq, l_0, l_1, l_2, l_3, l_4, l_5, l_6, l_7, l_8, l_9, l_10, l_100, l_160, ↓m_1, ↓m_2, ↓m_3, ↓m_4, ↓m_5, ↓m_6, ↓m_7])
      · rw [if_neg (by omega), if_pos ⟨u, v⟩] at h0
        exact absurd rfl h0
