section
variable {L : Nat} {b1 b2 : Bool} {σ : XS} {B : Nat}
abbrev PB : Nat → Nat → Prop := fun a k => a = 101 ∨ a = 102 ∨ a = 83 ∧ k = 2
def bL (q : Nat × Nat) : Int32 := if q.1 = 0 then nI 0 else nI q.2
theorem m_ba {c v : Nat} {old : Int32} (hW : WFS B σ) (hB : B ≤ 800000) (hc : c < r_s (s_now σ) 0) (hv : 1 ≤ v) (hv2 : v ≤ 1000000) (d : Nat) : ∀ (F p : Nat) (q : Nat × Nat) (M : XM), d < F → Geo L b1 b2 M → x_i M 83 1 = nI (r_s (s_now σ) 1) → x_i M 83 2 = nI p → x_i M 83 3 = nI (r_s (s_now σ) 3) → x_i M 83 4 = nI (r_s (s_now σ) 4) → x_i M 85 c = nI (r_q (s_now σ) 0 c) → x_i M 86 c = nI (r_q (s_now σ) 1 c) → x_i M 87 c = nI (r_q (s_now σ) 2 c) → x_i M 89 c = nI (r_q (s_now σ) 3 c) → 1 ≤ p → p + d = r_s (s_now σ) 1 + 1 → q.1 ≤ 200 → q.2 ≤ 2147483647 → (q.1 = 0 → q.2 = 2147483647) →
    ∃ M', lp_X9_bestApart_75 F 83 (nI c) (nI v) old (bI q.1) (bL q) M = some (bI (ba (fun p => umS σ p c v 401) (csS σ) d p q).1, M') ∧ Geo L b1 b2 M' ∧ Fr PB M M' ∧ x_i M' 83 2 = old := by
  obtain ⟨⟨w0, w1, w2, w3, w4, w5, w6, w7⟩, wc, wl, wt⟩ := id hW.1
  have y5 := wl c hc
  have c6 : c < 6 := by omega
  obtain ⟨y1, y2, y3, y4⟩ := wc c c6
  induction d with
  | zero =>
    intro F p q M hF hG e1 e2 e3 e4 q1 q2 q3 q5 hp hd h1 h2 h3
    obtain ⟨F, rfl⟩ : ∃ i, F = i + 1 := ⟨F - 1, by omega⟩
    refine ⟨x_wi M 83 2 old, ?_, hG, Fr.rf.wi (by omega), by simp (disch := first | assumption | omega) only [ii_wi, ji_wi, ri_wi, ti_wi, li_wi, ii_wj, ji_wj, ri_wj, ti_wj, li_wj, l_of, n_ltT, n_ltF, n_leT, n_leF, n_eqT, n_eqF, n_neM, n_Mne, n_M0, n_Mlt, n_0leM, nI_clamp, x_in_nI, n_1, nI_add, x_at, x_bd_s, x_bv_s, ↓x_lt, decide_true, decide_false, Bool.and_self, Bool.true_and, Bool.and_true, if_true, if_false, ite_true, ite_false, ↓reduceIte, not_true_eq_false, not_false_eq_true, Nat.reduceAdd, Nat.reduceMul, Nat.reduceEqDiff, eq_self, true_and, and_true, false_and, and_false, Option.some.injEq, Prod.mk.injEq, l_0, l_1, l_2, l_3, l_4, l_5, l_6, l_7, l_8, l_9, l_10, l_100, l_160, ↓m_1, ↓m_2, ↓m_3, ↓m_4, ↓m_5, ↓m_6, ↓m_7]⟩
    rw [s_lp_X9_bestApart_75]
    simp (disch := first | assumption | omega) only [bd_X9_bestApart_75, gt_83, e1, e2, ba, l_of, n_ltT, n_ltF, n_leT, n_leF, n_eqT, n_eqF, n_neM, n_Mne, n_M0, n_Mlt, n_0leM, nI_clamp, x_in_nI, n_1, nI_add, x_at, x_bd_s, x_bv_s, ↓x_lt, decide_true, decide_false, Bool.and_self, Bool.true_and, Bool.and_true, if_true, if_false, ite_true, ite_false, ↓reduceIte, not_true_eq_false, not_false_eq_true, Nat.reduceAdd, Nat.reduceMul, Nat.reduceEqDiff, eq_self, true_and, and_true, false_and, and_false, Option.some.injEq, Prod.mk.injEq, l_0, l_1, l_2, l_3, l_4, l_5, l_6, l_7, l_8, l_9, l_10, l_100, l_160, ↓m_1, ↓m_2, ↓m_3, ↓m_4, ↓m_5, ↓m_6, ↓m_7]
  | succ d ih =>
    intro F p q M hF hG e1 e2 e3 e4 q1 q2 q3 q5 hp hd h1 h2 h3
    obtain ⟨F, rfl⟩ : ∃ i, F = i + 1 := ⟨F - 1, by omega⟩
    obtain ⟨b, l⟩ := q
    dsimp only at h1 h2 h3
    have hcs := csS_b hW p
    have ze := cs_e hW hp (show p ≤ 200 by omega)
    obtain ⟨M1, g1, g2, g3⟩ := m_median (L := L) (b1 := b1) (b2 := b2) (v := v) c6 w2 w5 y1 y2 hp (show p ≤ 200 by omega) y5 (show r_q (s_now σ) 3 c ≤ 800000 by omega) hv2 hG e1 e2 e3 q1 q2 q3 q5
    have g1 : f_X9_medianOf 83 (nI c) (nI v) M = some (oI (umS σ p c v 401), M1) := g1
    have k1 : ∀ a k, a < 101 → x_i M1 a k = x_i M a k := fun a k h => g3.1 _ _ (by omega)
    have f0 : Fr PB M (x_wi M1 83 2 (nI (p + 1))) := (g3.mono (fun a k q => by omega)).wi (by omega)
    have hG1 : Geo L b1 b2 (x_wi M1 83 2 (nI (p + 1))) := g2
    have z1 := (f0.1 83 1 (by omega)).trans e1
    have z2 : x_i (x_wi M1 83 2 (nI (p + 1))) 83 2 = nI (p + 1) := by simp (disch := first | assumption | omega) only [ii_wi, ji_wi, ri_wi, ti_wi, li_wi, ii_wj, ji_wj, ri_wj, ti_wj, li_wj, l_of, n_ltT, n_ltF, n_leT, n_leF, n_eqT, n_eqF, n_neM, n_Mne, n_M0, n_Mlt, n_0leM, nI_clamp, x_in_nI, n_1, nI_add, x_at, x_bd_s, x_bv_s, ↓x_lt, decide_true, decide_false, Bool.and_self, Bool.true_and, Bool.and_true, if_true, if_false, ite_true, ite_false, ↓reduceIte, not_true_eq_false, not_false_eq_true, Nat.reduceAdd, Nat.reduceMul, Nat.reduceEqDiff, eq_self, true_and, and_true, false_and, and_false, Option.some.injEq, Prod.mk.injEq, l_0, l_1, l_2, l_3, l_4, l_5, l_6, l_7, l_8, l_9, l_10, l_100, l_160, ↓m_1, ↓m_2, ↓m_3, ↓m_4, ↓m_5, ↓m_6, ↓m_7]
    have z3 := (f0.1 83 3 (by omega)).trans e3
    have z4 := (f0.1 83 4 (by omega)).trans e4
    have u1 := (k1 83 1 (by omega)).trans e1
    have u2 := (k1 83 2 (by omega)).trans e2
    have u4 := (k1 83 4 (by omega)).trans e4
    have hb : bI p = nI p := if_neg (by omega)
    have key : ∀ (q' : Nat × Nat), q'.1 ≤ 200 → q'.2 ≤ 2147483647 → (q'.1 = 0 → q'.2 = 2147483647) → bs (umS σ p c v 401) (csS σ p) p (b, l) = q' → lp_X9_bestApart_75 (F + 1) 83 (nI c) (nI v) old (bI b) (bL (b, l)) M = lp_X9_bestApart_75 F 83 (nI c) (nI v) old (bI q'.1) (bL q') (x_wi M1 83 2 (nI (p + 1))) → ∃ M', lp_X9_bestApart_75 (F + 1) 83 (nI c) (nI v) old (bI b) (bL (b, l)) M = some (bI (ba (fun p => umS σ p c v 401) (csS σ) (d + 1) p (b, l)).1, M') ∧ Geo L b1 b2 M' ∧ Fr PB M M' ∧ x_i M' 83 2 = old := fun q' v1 v2 v3 hs he => by
      obtain ⟨M2, t1, t2, t3, t4⟩ := ih F (p + 1) q' (x_wi M1 83 2 (nI (p + 1))) (by omega) hG1 z1 z2 z3 z4 ((f0.1 85 c (by omega)).trans q1) ((f0.1 86 c (by omega)).trans q2) ((f0.1 87 c (by omega)).trans q3) ((f0.1 89 c (by omega)).trans q5) (by omega) (by omega) v1 v2 v3
      refine ⟨M2, ?_, t2, f0.tr t3, t4⟩
      rw [he, t1]
      show _ = some (bI (ba (fun p => umS σ p c v 401) (csS σ) d (p + 1) (bs (umS σ p c v 401) (csS σ p) p (b, l))).1, M2)
      rw [hs]
    dsimp only
    cases hu : umS σ p c v 401 with
    | none =>
      rw [hu] at g1 key
      have g1 : f_X9_medianOf 83 (nI c) (nI v) M = some (nM 1, M1) := g1
      refine key (b, l) h1 h2 h3 rfl ?_
      rw [s_lp_X9_bestApart_75]
      simp (disch := first | assumption | omega) only [bd_X9_bestApart_75, f_X9_bestApart_c89, f_X9_bestApart_145, gt_83, gr_83_9, e1, e2, u1, u2, g1, l_of, n_ltT, n_ltF, n_leT, n_leF, n_eqT, n_eqF, n_neM, n_Mne, n_M0, n_Mlt, n_0leM, nI_clamp, x_in_nI, n_1, nI_add, x_at, x_bd_s, x_bv_s, ↓x_lt, decide_true, decide_false, Bool.and_self, Bool.true_and, Bool.and_true, if_true, if_false, ite_true, ite_false, ↓reduceIte, not_true_eq_false, not_false_eq_true, Nat.reduceAdd, Nat.reduceMul, Nat.reduceEqDiff, eq_self, true_and, and_true, false_and, and_false, Option.some.injEq, Prod.mk.injEq, l_0, l_1, l_2, l_3, l_4, l_5, l_6, l_7, l_8, l_9, l_10, l_100, l_160, ↓m_1, ↓m_2, ↓m_3, ↓m_4, ↓m_5, ↓m_6, ↓m_7]
    | some r =>
      have hr := um_lo hv _ _ _ hu
      rw [hu] at g1 key
      have g1 : f_X9_medianOf 83 (nI c) (nI v) M = some (nI r, M1) := g1
      by_cases hb0 : b = 0
      · subst hb0
        have hl := h3 rfl
        subst hl
        refine key (p, r + csS σ p) (by dsimp only; omega) (by dsimp only; omega) (by dsimp only; omega) (if_pos (by dsimp only; omega)) ?_
        have q0 : bI 0 = nM 1 := rfl
        have ql : bL (p, r + csS σ p) = nI (r + csS σ p) := if_neg (by dsimp only; omega)
        rw [ql, s_lp_X9_bestApart_75]
        dsimp only
        rw [q0, hb]
        simp (disch := first | assumption | omega) only [bd_X9_bestApart_75, f_X9_bestApart_c89, f_X9_bestApart_135, f_X9_bestApart_145, gt_83, e1, e2, u1, u2, u4, ze, g1, l_of, n_ltT, n_ltF, n_leT, n_leF, n_eqT, n_eqF, n_neM, n_Mne, n_M0, n_Mlt, n_0leM, nI_clamp, x_in_nI, n_1, nI_add, x_at, x_bd_s, x_bv_s, ↓x_lt, decide_true, decide_false, Bool.and_self, Bool.true_and, Bool.and_true, if_true, if_false, ite_true, ite_false, ↓reduceIte, not_true_eq_false, not_false_eq_true, Nat.reduceAdd, Nat.reduceMul, Nat.reduceEqDiff, eq_self, true_and, and_true, false_and, and_false, Option.some.injEq, Prod.mk.injEq, l_0, l_1, l_2, l_3, l_4, l_5, l_6, l_7, l_8, l_9, l_10, l_100, l_160, ↓m_1, ↓m_2, ↓m_3, ↓m_4, ↓m_5, ↓m_6, ↓m_7]
      · have qb : bI b = nI b := if_neg hb0
        have qc : bL (b, l) = nI l := if_neg hb0
        by_cases hk : r + csS σ p < l
        · refine key (p, r + csS σ p) (by dsimp only; omega) (by dsimp only; omega) (by dsimp only; omega) (if_pos hk) ?_
          have ql : bL (p, r + csS σ p) = nI (r + csS σ p) := if_neg (by dsimp only; omega)
          rw [ql, s_lp_X9_bestApart_75, qc]
          dsimp only
          rw [qb, hb]
          simp (disch := first | assumption | omega) only [bd_X9_bestApart_75, f_X9_bestApart_c89, f_X9_bestApart_135, f_X9_bestApart_145, gt_83, e1, e2, u1, u2, u4, ze, g1, l_of, n_ltT, n_ltF, n_leT, n_leF, n_eqT, n_eqF, n_neM, n_Mne, n_M0, n_Mlt, n_0leM, nI_clamp, x_in_nI, n_1, nI_add, x_at, x_bd_s, x_bv_s, ↓x_lt, decide_true, decide_false, Bool.and_self, Bool.true_and, Bool.and_true, if_true, if_false, ite_true, ite_false, ↓reduceIte, not_true_eq_false, not_false_eq_true, Nat.reduceAdd, Nat.reduceMul, Nat.reduceEqDiff, eq_self, true_and, and_true, false_and, and_false, Option.some.injEq, Prod.mk.injEq, l_0, l_1, l_2, l_3, l_4, l_5, l_6, l_7, l_8, l_9, l_10, l_100, l_160, ↓m_1, ↓m_2, ↓m_3, ↓m_4, ↓m_5, ↓m_6, ↓m_7]
        · refine key (b, l) h1 h2 h3 (if_neg hk) ?_
          rw [s_lp_X9_bestApart_75, qc]
          dsimp only
          rw [qb]
          simp (disch := first | assumption | omega) only [bd_X9_bestApart_75, f_X9_bestApart_c89, f_X9_bestApart_135, f_X9_bestApart_145, gt_83, e1, e2, u1, u2, u4, ze, g1, l_of, n_ltT, n_ltF, n_leT, n_leF, n_eqT, n_eqF, n_neM, n_Mne, n_M0, n_Mlt, n_0leM, nI_clamp, x_in_nI, n_1, nI_add, x_at, x_bd_s, x_bv_s, ↓x_lt, decide_true, decide_false, Bool.and_self, Bool.true_and, Bool.and_true, if_true, if_false, ite_true, ite_false, ↓reduceIte, not_true_eq_false, not_false_eq_true, Nat.reduceAdd, Nat.reduceMul, Nat.reduceEqDiff, eq_self, true_and, and_true, false_and, and_false, Option.some.injEq, Prod.mk.injEq, l_0, l_1, l_2, l_3, l_4, l_5, l_6, l_7, l_8, l_9, l_10, l_100, l_160, ↓m_1, ↓m_2, ↓m_3, ↓m_4, ↓m_5, ↓m_6, ↓m_7]
theorem Fr.back {P : Nat → Nat → Prop} {M M' : XM} {a0 k0 : Nat} (h : Fr (fun a k => P a k ∨ a = a0 ∧ k = k0) M M') (e : x_i M' a0 k0 = x_i M a0 k0) : Fr P M M' :=
  ⟨fun a k hn => by
    by_cases q : a = a0 ∧ k = k0
    · rw [q.1, q.2]; exact e
    · exact h.1 a k (fun z => by rcases z with z | z; exact hn z; exact q z), h.2⟩
theorem oc_bestApart (hW : WFS B σ) (hB : B ≤ 800000) (c v : Int32) : OpCT (f_X8_bestApart 20 c v) σ (sp_bestApart σ c v).1 (sp_bestApart σ c v).2 := by
  intro L b1 b2 M hG hI hT
  show EndC L (f_X8_bestApart 20 c v) M (sp_bestApart σ c v)
  have hC := c_chref hG hI hW c v
  obtain ⟨⟨e0, e1, e2, e3, e4, e5, e6, e7⟩, hc, -⟩ := id hI.1
  obtain ⟨⟨w0, w1, w2, w3, w4, w5, w6, w7⟩, wc, wl, wt⟩ := id hW.1
  unfold sp_bestApart
  by_cases hb : c < nI 0 ∨ r_s (s_now σ) 0 ≤ c.toNatClampNeg
  · rw [if_pos hb] at hC ⊢
    exact c_no_end hG hI (by simp (disch := first | assumption | omega) only [f_X8_bestApart_175, f_X8_bestApart_c150, bd_X8_bestApart_79, f_X8_bestApart_c40, f_X8_bestApart_34, f_X8_bestApart_c25, f_X8_bestApart_c3, f_X8_bestApart, gt_20, gr_20_6, gt_51, gl_51, hC, c_refM, n_sub10, l_of, n_ltT, n_ltF, n_leT, n_leF, n_eqT, n_eqF, n_neM, n_Mne, n_M0, n_Mlt, n_0leM, nI_clamp, x_in_nI, n_1, nI_add, x_at, x_bd_s, x_bv_s, ↓x_lt, decide_true, decide_false, Bool.and_self, Bool.true_and, Bool.and_true, if_true, if_false, ite_true, ite_false, ↓reduceIte, not_true_eq_false, not_false_eq_true, Nat.reduceAdd, Nat.reduceMul, Nat.reduceEqDiff, eq_self, true_and, and_true, false_and, and_false, Option.some.injEq, Prod.mk.injEq, l_0, l_1, l_2, l_3, l_4, l_5, l_6, l_7, l_8, l_9, l_10, l_100, l_160, ↓m_1, ↓m_2, ↓m_3, ↓m_4, ↓m_5, ↓m_6, ↓m_7])
  rw [if_neg hb] at hC ⊢
  obtain ⟨j, jb, rfl⟩ := isC_n w0 hb
  rw [nI_clamp (show j < 2 ^ 31 by omega)]
  have j6 : j < 6 := by omega
  obtain ⟨q1, q2, q3, q4, q5⟩ := hc j (by omega)
  obtain ⟨y1, y2, y3, y4⟩ := wc j (by omega)
  have y5 := wl j jb
  have hu := c_under (t := 1) hG hT y1 (by omega)
  have he : und (r_q (s_now σ) 0 j) 1 = true ↔ (r_q (s_now σ) 0 j = 1 ∨ r_q (s_now σ) 0 j = 5) := by
    rcases (by omega : r_q (s_now σ) 0 j = 0 ∨ r_q (s_now σ) 0 j = 1 ∨ r_q (s_now σ) 0 j = 2 ∨ r_q (s_now σ) 0 j = 3 ∨ r_q (s_now σ) 0 j = 4 ∨ r_q (s_now σ) 0 j = 5 ∨ r_q (s_now σ) 0 j = 6) with h | h | h | h | h | h | h <;> rw [h] <;> decide
  have hkn : (if v < nI 1 ∨ 1000000 < v.toNatClampNeg then nM 6 else nI 0) ≠ nM 1 := by
    split
    · decide
    · decide
  by_cases hk : r_q (s_now σ) 0 j = 1 ∨ r_q (s_now σ) 0 j = 5
  · rw [if_neg (fun q => q hk)]
    rw [if_pos (he.mpr hk)] at hu
    by_cases hv : v < nI 1 ∨ 1000000 < v.toNatClampNeg
    · rw [if_pos hv] at hC ⊢
      refine c_no_end hG hI ?_
      have hn : (nM 6 = nM 1) = False := eq_false (by decide)
      simp (disch := first | assumption | omega) only [f_X8_bestApart_175, f_X8_bestApart_c150, bd_X8_bestApart_79, f_X8_bestApart_c40, f_X8_bestApart_34, f_X8_bestApart_c25, f_X8_bestApart_c3, f_X8_bestApart, gt_20, gr_20_0, gt_21, gr_21_0, gt_22, gl_22, gc_22, gct_24, gr_20_6, gt_51, gl_51, q1, hu, hC, hn, c_refM, n_sub10, l_of, n_ltT, n_ltF, n_leT, n_leF, n_eqT, n_eqF, n_neM, n_Mne, n_M0, n_Mlt, n_0leM, nI_clamp, x_in_nI, n_1, nI_add, x_at, x_bd_s, x_bv_s, ↓x_lt, decide_true, decide_false, Bool.and_self, Bool.true_and, Bool.and_true, if_true, if_false, ite_true, ite_false, ↓reduceIte, not_true_eq_false, not_false_eq_true, Nat.reduceAdd, Nat.reduceMul, Nat.reduceEqDiff, eq_self, true_and, and_true, false_and, and_false, Option.some.injEq, Prod.mk.injEq, l_0, l_1, l_2, l_3, l_4, l_5, l_6, l_7, l_8, l_9, l_10, l_100, l_160, ↓m_1, ↓m_2, ↓m_3, ↓m_4, ↓m_5, ↓m_6, ↓m_7]
    · rw [if_neg hv] at hC ⊢
      rcases i_cs v with h1 | ⟨u, ub, rfl⟩
      · exact absurd (Or.inl (v01 h1)) hv
      rw [nI_clamp (show u < 2 ^ 31 by omega)] at hv ⊢
      have hu1 : 1 ≤ u := by
        rcases Nat.eq_zero_or_pos u with q | q
        · exact absurd (Or.inl (by rw [q]; decide)) hv
        · exact q
      have zx : nI (r_s (s_now σ) 1) - nI (r_q (s_now σ) 2 j) = nI (r_s (s_now σ) 1 - r_q (s_now σ) 2 j) := pk_sub (by omega)
      obtain ⟨M2, b1', g1, g2, g3⟩ := c_ba (L := L) (b2 := b2) (c := j) (v := u) hW hB jb hu1 (Nat.le_of_not_lt (fun q => hv (Or.inr q))) (r_s (s_now σ) 1) x_fuel 1 (0, 2147483647) b1 M (fu (by omega)) hG hT hI.1 (by omega) (by omega) (Nat.zero_le _) (Nat.le_refl _)
      have g1 : lp_X8_bestApart_79 x_fuel 20 (nI j) (nI u) (nM 1) (nI 2147483647) (nI (r_s (s_now σ) 1 - r_q (s_now σ) 2 j)) (nI 1) M = some (bI (ba (fun p => umS σ p j u 401) (csS σ) (r_s (s_now σ) 1) 1 (0, 2147483647)).1, M2) := g1
      refine c_w_end g2 hI (g3.mono (fun a k q => by omega)) ?_
      simp (disch := first | assumption | omega) only [f_X8_bestApart_175, f_X8_bestApart_c150, bd_X8_bestApart_79, f_X8_bestApart_c40, f_X8_bestApart_34, f_X8_bestApart_c25, f_X8_bestApart_c3, f_X8_bestApart, gt_20, gr_20_0, gt_21, gr_21_0, gt_22, gl_22, gc_22, gct_24, e1, q1, q3, hu, hC, zx, l_big, g1, l_of, n_ltT, n_ltF, n_leT, n_leF, n_eqT, n_eqF, n_neM, n_Mne, n_M0, n_Mlt, n_0leM, nI_clamp, x_in_nI, n_1, nI_add, x_at, x_bd_s, x_bv_s, ↓x_lt, decide_true, decide_false, Bool.and_self, Bool.true_and, Bool.and_true, if_true, if_false, ite_true, ite_false, ↓reduceIte, not_true_eq_false, not_false_eq_true, Nat.reduceAdd, Nat.reduceMul, Nat.reduceEqDiff, eq_self, true_and, and_true, false_and, and_false, Option.some.injEq, Prod.mk.injEq, l_0, l_1, l_2, l_3, l_4, l_5, l_6, l_7, l_8, l_9, l_10, l_100, l_160, ↓m_1, ↓m_2, ↓m_3, ↓m_4, ↓m_5, ↓m_6, ↓m_7]
  · rw [if_pos hk]
    rw [if_neg (fun z => hk (he.mp z))] at hu
    refine c_no_end hG hI ?_
    have hn := eq_false hkn
    generalize (if v < nI 1 ∨ 1000000 < v.toNatClampNeg then nM 6 else nI 0) = w at hC hn
    have l_m2 : (-2 : Int32) = nM 2 := rfl
    simp (disch := first | assumption | omega) only [f_X8_bestApart_175, f_X8_bestApart_c150, bd_X8_bestApart_79, f_X8_bestApart_c40, f_X8_bestApart_34, f_X8_bestApart_c25, f_X8_bestApart_c3, f_X8_bestApart, gt_20, gr_20_0, gt_21, gr_21_0, gt_22, gl_22, gc_22, gct_24, gr_20_6, gt_51, gl_51, q1, hu, hC, hn, c_refM, n_sub10, l_of, n_ltT, n_ltF, n_leT, n_leF, n_eqT, n_eqF, n_neM, n_Mne, n_M0, n_Mlt, n_0leM, nI_clamp, x_in_nI, n_1, nI_add, x_at, x_bd_s, x_bv_s, ↓x_lt, decide_true, decide_false, Bool.and_self, Bool.true_and, Bool.and_true, if_true, if_false, ite_true, ite_false, ↓reduceIte, not_true_eq_false, not_false_eq_true, Nat.reduceAdd, Nat.reduceMul, Nat.reduceEqDiff, eq_self, true_and, and_true, false_and, and_false, Option.some.injEq, Prod.mk.injEq, l_0, l_1, l_2, l_3, l_4, l_5, l_6, l_7, l_8, l_9, l_10, l_100, l_160, ↓m_1, ↓m_2, ↓m_3, ↓m_4, ↓m_5, ↓m_6, ↓m_7]
theorem om_bestApart (hW : WFS B σ) (hB : B ≤ 800000) (c v : Int32) : OpM (f_X9_bestApart 83 c v) σ (sp_bestApart σ c v).1 (sp_bestApart σ c v).2 := by
  intro L b1 b2 M hG hI hMW
  obtain ⟨⟨⟨e0, e1, e2, e3, e4, e5, e6, e7⟩, hc, ht⟩, hi, hsh, hrf, hft, hrn, htr⟩ := id hI
  show EndM L b1 b2 (f_X9_bestApart 83 c v) M (sp_bestApart σ c v)
  have hC := m_isC hG hI hW c
  obtain ⟨⟨w0, w1, w2, w3, w4, w5, w6, w7⟩, wc, wl, wt⟩ := id hW.1
  unfold sp_bestApart
  by_cases hb : c < nI 0 ∨ r_s (s_now σ) 0 ≤ c.toNatClampNeg
  · rw [if_pos hb] at hC ⊢
    exact m_no_end hG hI hMW (by simp (disch := first | assumption | omega) only [f_X9_bestApart_52, f_X9_bestApart_145, f_X9_bestApart_135, f_X9_bestApart_c89, bd_X9_bestApart_75, f_X9_bestApart_41, f_X9_bestApart_c2, f_X9_bestApart, gt_83, gr_83_9, gt_84, gl_84, hC, m_noTen, l_of, n_ltT, n_ltF, n_leT, n_leF, n_eqT, n_eqF, n_neM, n_Mne, n_M0, n_Mlt, n_0leM, nI_clamp, x_in_nI, n_1, nI_add, x_at, x_bd_s, x_bv_s, ↓x_lt, decide_true, decide_false, Bool.and_self, Bool.true_and, Bool.and_true, if_true, if_false, ite_true, ite_false, ↓reduceIte, not_true_eq_false, not_false_eq_true, Nat.reduceAdd, Nat.reduceMul, Nat.reduceEqDiff, eq_self, true_and, and_true, false_and, and_false, Option.some.injEq, Prod.mk.injEq, l_0, l_1, l_2, l_3, l_4, l_5, l_6, l_7, l_8, l_9, l_10, l_100, l_160, ↓m_1, ↓m_2, ↓m_3, ↓m_4, ↓m_5, ↓m_6, ↓m_7])
  rw [if_neg hb] at hC ⊢
  obtain ⟨j, jb, rfl⟩ := isC_n w0 hb
  rw [nI_clamp (show j < 2 ^ 31 by omega)]
  have j6 : j < 6 := by omega
  obtain ⟨q1, q2, q3, q4, q5⟩ := hc j (by omega)
  obtain ⟨y1, y2, y3, y4⟩ := wc j (by omega)
  have y5 := wl j jb
  by_cases hk : r_q (s_now σ) 0 j = 1 ∨ r_q (s_now σ) 0 j = 5
  · rw [if_neg (fun q => q hk)]
    have st : f_X9_bestApart 83 (nI j) v M = f_X9_bestApart_41 83 (nI j) v M := by
      rcases hk with hk | hk <;> rw [hk] at q1 <;> simp (disch := first | assumption | omega) only [f_X9_bestApart, f_X9_bestApart_c2, gt_83, gr_83_10, gt_85, gl_85, hC, q1, l_of, n_ltT, n_ltF, n_leT, n_leF, n_eqT, n_eqF, n_neM, n_Mne, n_M0, n_Mlt, n_0leM, nI_clamp, x_in_nI, n_1, nI_add, x_at, x_bd_s, x_bv_s, ↓x_lt, decide_true, decide_false, Bool.and_self, Bool.true_and, Bool.and_true, if_true, if_false, ite_true, ite_false, ↓reduceIte, not_true_eq_false, not_false_eq_true, Nat.reduceAdd, Nat.reduceMul, Nat.reduceEqDiff, eq_self, true_and, and_true, false_and, and_false, Option.some.injEq, Prod.mk.injEq, l_0, l_1, l_2, l_3, l_4, l_5, l_6, l_7, l_8, l_9, l_10, l_100, l_160, ↓m_1, ↓m_2, ↓m_3, ↓m_4, ↓m_5, ↓m_6, ↓m_7]
    by_cases hv1 : v < nI 1
    · rw [if_pos (Or.inl hv1)]
      exact m_no_end hG hI hMW (by rw [st]; simp (disch := first | assumption | omega) only [f_X9_bestApart_41, f_X9_bestApart_52, gt_83, gr_83_9, gt_84, gl_84, hv1, m_noTen, l_of, n_ltT, n_ltF, n_leT, n_leF, n_eqT, n_eqF, n_neM, n_Mne, n_M0, n_Mlt, n_0leM, nI_clamp, x_in_nI, n_1, nI_add, x_at, x_bd_s, x_bv_s, ↓x_lt, decide_true, decide_false, Bool.and_self, Bool.true_and, Bool.and_true, if_true, if_false, ite_true, ite_false, ↓reduceIte, not_true_eq_false, not_false_eq_true, Nat.reduceAdd, Nat.reduceMul, Nat.reduceEqDiff, eq_self, true_and, and_true, false_and, and_false, Option.some.injEq, Prod.mk.injEq, l_0, l_1, l_2, l_3, l_4, l_5, l_6, l_7, l_8, l_9, l_10, l_100, l_160, ↓m_1, ↓m_2, ↓m_3, ↓m_4, ↓m_5, ↓m_6, ↓m_7])
    rcases i_cs v with h1 | ⟨u, ub, rfl⟩
    · exact absurd (v01 h1) hv1
    rw [nI_clamp (show u < 2 ^ 31 by omega)]
    by_cases h2 : 1000000 < u
    · rw [if_pos (Or.inr h2)]
      exact m_no_end hG hI hMW (by rw [st]; simp (disch := first | assumption | omega) only [f_X9_bestApart_41, f_X9_bestApart_52, gt_83, gr_83_9, gt_84, gl_84, hv1, h2, l_1e6, m_noTen, l_of, n_ltT, n_ltF, n_leT, n_leF, n_eqT, n_eqF, n_neM, n_Mne, n_M0, n_Mlt, n_0leM, nI_clamp, x_in_nI, n_1, nI_add, x_at, x_bd_s, x_bv_s, ↓x_lt, decide_true, decide_false, Bool.and_self, Bool.true_and, Bool.and_true, if_true, if_false, ite_true, ite_false, ↓reduceIte, not_true_eq_false, not_false_eq_true, Nat.reduceAdd, Nat.reduceMul, Nat.reduceEqDiff, eq_self, true_and, and_true, false_and, and_false, Option.some.injEq, Prod.mk.injEq, l_0, l_1, l_2, l_3, l_4, l_5, l_6, l_7, l_8, l_9, l_10, l_100, l_160, ↓m_1, ↓m_2, ↓m_3, ↓m_4, ↓m_5, ↓m_6, ↓m_7])
    rw [if_neg (fun q => by rcases q with q | q; exact hv1 q; exact h2 q)]
    have hu1 : 1 ≤ u := by
      rcases Nat.eq_zero_or_pos u with q | q
      · exact absurd (by rw [q]; decide) hv1
      · exact q
    have f0 : Fr PB M (x_wi M 83 2 (nI 1)) := Fr.rf.wi (by omega)
    obtain ⟨M2, g1, g2, g3, g4⟩ := m_ba (L := L) (b1 := b1) (b2 := b2) (c := j) (v := u) (old := nI (r_s (s_now σ) 2)) hW hB jb hu1 (Nat.le_of_not_lt h2) (r_s (s_now σ) 1) x_fuel 1 (0, 2147483647) (x_wi M 83 2 (nI 1)) (fu (by omega)) hG ((f0.1 _ _ (by omega)).trans e1) (by simp (disch := first | assumption | omega) only [ii_wi, ji_wi, ri_wi, ti_wi, li_wi, ii_wj, ji_wj, ri_wj, ti_wj, li_wj, l_of, n_ltT, n_ltF, n_leT, n_leF, n_eqT, n_eqF, n_neM, n_Mne, n_M0, n_Mlt, n_0leM, nI_clamp, x_in_nI, n_1, nI_add, x_at, x_bd_s, x_bv_s, ↓x_lt, decide_true, decide_false, Bool.and_self, Bool.true_and, Bool.and_true, if_true, if_false, ite_true, ite_false, ↓reduceIte, not_true_eq_false, not_false_eq_true, Nat.reduceAdd, Nat.reduceMul, Nat.reduceEqDiff, eq_self, true_and, and_true, false_and, and_false, Option.some.injEq, Prod.mk.injEq, l_0, l_1, l_2, l_3, l_4, l_5, l_6, l_7, l_8, l_9, l_10, l_100, l_160, ↓m_1, ↓m_2, ↓m_3, ↓m_4, ↓m_5, ↓m_6, ↓m_7]) ((f0.1 _ _ (by omega)).trans e3) ((f0.1 _ _ (by omega)).trans e4) ((f0.1 _ _ (by omega)).trans q1) ((f0.1 _ _ (by omega)).trans q2) ((f0.1 _ _ (by omega)).trans q3) ((f0.1 _ _ (by omega)).trans q5) (by omega) (by omega) (Nat.zero_le _) (Nat.le_refl _) (fun _ => rfl)
    have g1 : lp_X9_bestApart_75 x_fuel 83 (nI j) (nI u) (nI (r_s (s_now σ) 2)) (nM 1) (nI 0) (x_wi M 83 2 (nI 1)) = some (bI (ba (fun p => umS σ p j u 401) (csS σ) (r_s (s_now σ) 1) 1 (0, 2147483647)).1, M2) := g1
    have F : Fr PP M M2 := Fr.back ((f0.tr g3).mono (fun a k q => by omega)) (g4.trans e2.symm)
    refine m_w_end g2 hI hMW (F.mono (fun a k q => by omega)) ?_
    rw [st]
    simp (disch := first | assumption | omega) only [f_X9_bestApart_41, gt_83, e2, hv1, l_1e6, g1, l_of, n_ltT, n_ltF, n_leT, n_leF, n_eqT, n_eqF, n_neM, n_Mne, n_M0, n_Mlt, n_0leM, nI_clamp, x_in_nI, n_1, nI_add, x_at, x_bd_s, x_bv_s, ↓x_lt, decide_true, decide_false, Bool.and_self, Bool.true_and, Bool.and_true, if_true, if_false, ite_true, ite_false, ↓reduceIte, not_true_eq_false, not_false_eq_true, Nat.reduceAdd, Nat.reduceMul, Nat.reduceEqDiff, eq_self, true_and, and_true, false_and, and_false, Option.some.injEq, Prod.mk.injEq, l_0, l_1, l_2, l_3, l_4, l_5, l_6, l_7, l_8, l_9, l_10, l_100, l_160, ↓m_1, ↓m_2, ↓m_3, ↓m_4, ↓m_5, ↓m_6, ↓m_7]
  · rw [if_pos hk]
    refine m_no_end hG hI hMW ?_
    simp (disch := first | assumption | omega) only [f_X9_bestApart, f_X9_bestApart_c2, gt_83, gr_83_10, gt_85, gl_85, hC, q1, m_noTen, l_of, n_ltT, n_ltF, n_leT, n_leF, n_eqT, n_eqF, n_neM, n_Mne, n_M0, n_Mlt, n_0leM, nI_clamp, x_in_nI, n_1, nI_add, x_at, x_bd_s, x_bv_s, ↓x_lt, decide_true, decide_false, Bool.and_self, Bool.true_and, Bool.and_true, if_true, if_false, ite_true, ite_false, ↓reduceIte, not_true_eq_false, not_false_eq_true, Nat.reduceAdd, Nat.reduceMul, Nat.reduceEqDiff, eq_self, true_and, and_true, false_and, and_false, Option.some.injEq, Prod.mk.injEq, l_0, l_1, l_2, l_3, l_4, l_5, l_6, l_7, l_8, l_9, l_10, l_100, l_160, ↓m_1, ↓m_2, ↓m_3, ↓m_4, ↓m_5, ↓m_6, ↓m_7]
end
