theorem MR.ag2 {ρ : XR} {M M' : XM} (h : MR ρ M) (g : ∀ a j, (a = 83 ∧ j < 8 ∨ 85 ≤ a ∧ a < 91) → x_i M' a j = x_i M a j) : MR ρ M' := by
  obtain ⟨⟨h1, h2, h3, h4, h5, h6, h7, h8⟩, hc, ht⟩ := h
  refine ⟨⟨(g _ _ (by omega)).trans h1, (g _ _ (by omega)).trans h2, (g _ _ (by omega)).trans h3, (g _ _ (by omega)).trans h4, (g _ _ (by omega)).trans h5, (g _ _ (by omega)).trans h6, (g _ _ (by omega)).trans h7, (g _ _ (by omega)).trans h8⟩, fun c hc' => ?_, fun i hi => (g _ _ (by omega)).trans (ht i hi)⟩
  obtain ⟨q1, q2, q3, q4, q5⟩ := hc c hc'
  exact ⟨(g _ _ (by omega)).trans q1, (g _ _ (by omega)).trans q2, (g _ _ (by omega)).trans q3, (g _ _ (by omega)).trans q4, (g _ _ (by omega)).trans q5⟩
theorem MInv.fr {P : Nat → Nat → Prop} {σ : XS} {M M' : XM} (h : MInv σ M) (f : Fr P M M') (hP : ∀ a k, (a = 83 ∧ (k < 9 ∨ k = 40 ∨ k = 41) ∨ 84 ≤ a ∧ a < 96 ∨ a = 100 ∨ a = 104) → ¬ P a k) : MInv σ M' :=
  h.ag (fun j hj => f.1 _ _ (hP _ _ (by omega))) (f.agr (fun a k h1 h2 => hP _ _ (by omega))) (f.agr (fun a k h1 h2 => hP _ _ (by omega))) (f.agr (fun a k h1 h2 => hP _ _ (by omega)))
theorem CInv.fr {P : Nat → Nat → Prop} {σ : XS} {M M' : XM} (h : CInv σ M) (f : Fr P M M') (hP : ∀ a k, (a = 20 ∧ (k = 2 ∨ k = 4) ∨ 21 ≤ a ∧ a < 39 ∨ a = 51 ∨ 65 ≤ a ∧ a < 83) → ¬ P a k) : CInv σ M' :=
  h.ag ⟨f.1 _ _ (hP _ _ (by omega)), f.1 _ _ (hP _ _ (by omega))⟩ (f.agr (fun a k h1 h2 => hP _ _ (by omega))) (f.agr (fun a k h1 h2 => hP _ _ (by omega))) (f.agr (fun a k h1 h2 => hP _ _ (by omega)))
theorem MInv.nfr {P : Nat → Nat → Prop} {σ : XS} {ρ : XR} {M M' : XM} (h : MInv σ M) (hR : MR ρ M') (f : Fr P M M') (hP : ∀ a k, (a = 83 ∧ (k = 8 ∨ k = 40 ∨ k = 41) ∨ a = 84 ∨ 91 ≤ a ∧ a < 96 ∨ a = 100 ∨ a = 104) → ¬ P a k) : MInv (u_now σ ρ) M' :=
  h.now hR (fun j hj => f.1 _ _ (hP _ _ (by omega))) (f.agr (fun a k h1 h2 => hP _ _ (by omega))) (f.agr (fun a k h1 h2 => hP _ _ (by omega))) (f.agr (fun a k h1 h2 => hP _ _ (by omega))) (f.agr (fun a k h1 h2 => hP _ _ (by omega)))
theorem CInv.nfr {P : Nat → Nat → Prop} {σ : XS} {ρ : XR} {M M' : XM} (h : CInv σ M) (hR : CR 21 ρ M') (f : Fr P M M') (hP : ∀ a k, (a = 20 ∧ (k = 2 ∨ k = 4) ∨ 30 ≤ a ∧ a < 39 ∨ a = 51 ∨ 65 ≤ a ∧ a < 83) → ¬ P a k) : CInv (u_now σ ρ) M' :=
  h.now hR ⟨f.1 _ _ (hP _ _ (by omega)), f.1 _ _ (hP _ _ (by omega))⟩ (f.agr (fun a k h1 h2 => hP _ _ (by omega))) (f.agr (fun a k h1 h2 => hP _ _ (by omega))) (f.agr (fun a k h1 h2 => hP _ _ (by omega)))
def sp_image (σ : XS) : Int32 × XS := (nI (r_s (s_now σ) 0), u_img σ (s_now σ))
theorem CInv.img {M M' : XM} {σ : XS} {ρ : XR} (hI : CInv σ M) (f0 : Fr (fun a k => 30 ≤ a ∧ a < 39 ∨ a = 20 ∧ k = 2) M M') (h2 : x_i M' 20 2 = nI 1) (hR : CR 30 ρ M') : CInv (u_img σ ρ) M' := by
  obtain ⟨h1, -, h3, h4, h5, h6, h7⟩ := hI
  have g1 : Agr 21 30 M M' := f0.agr (fun a k h1 h2 q => by omega)
  have g2 : Agr 39 105 M M' := f0.agr (fun a k h1 h2 q => by omega)
  exact ⟨h1.ag (g1.mono (by omega) (by omega)), ⟨h2, hR⟩, h3.ag (g2.mono (by omega) (by omega)), fun k hk => (g2.i _ (by omega) (by omega)).trans (h4 k hk), (f0.1 _ _ (by omega)).trans h5, (g2.i _ (by omega) (by omega)).trans h6, fun i hi hr => (g2.i _ (by omega) (by omega)).trans (h7 i hi hr)⟩
theorem oc_image {σ : XS} : OpC (f_X8_image 20) σ (sp_image σ).1 (sp_image σ).2 := by
  intro L b1 b2 M hG hI
  obtain ⟨⟨⟨e0, e1, e2, e3, e4, e5, e6, e7⟩, hc, ht⟩, hi, hsh, hrf, hft, hrn, htr⟩ := id hI
  obtain ⟨M1, g1, g2, g3, g4⟩ := c_like hG (by omega) (rg_30 hG) (rg_21 hG) ⟨⟨e0, e1, e2, e3, e4, e5, e6, e7⟩, hc, ht⟩
  have z0 : x_i M1 21 1 = nI (r_s (s_now σ) 0) := (g4.1 _ _ (by omega)).trans e0
  have f0 : Fr (fun a k => 30 ≤ a ∧ a < 39 ∨ a = 20 ∧ k = 2) M (x_wi M1 20 2 (nI 1)) := (g4.mono (fun a k q => by omega)).wi (by omega)
  refine ⟨x_wi M1 20 2 (nI 1), b1, b2, ?_, g2, hI.img f0 (by simp (disch := first | assumption | omega) only [ii_wi, ji_wi, ri_wi, ti_wi, li_wi, ii_wj, ji_wj, ri_wj, ti_wj, li_wj, l_of, n_ltT, n_ltF, n_leT, n_leF, n_eqT, n_eqF, n_neM, n_Mne, n_M0, n_Mlt, n_0leM, nI_clamp, x_in_nI, n_1, nI_add, x_at, x_bd_s, x_bv_s, ↓x_lt, decide_true, decide_false, Bool.and_self, Bool.true_and, Bool.and_true, if_true, if_false, ite_true, ite_false, ↓reduceIte, not_true_eq_false, not_false_eq_true, Nat.reduceAdd, Nat.reduceMul, Nat.reduceEqDiff, eq_self, true_and, and_true, false_and, and_false, Option.some.injEq, Prod.mk.injEq, l_0, l_1, l_2, l_3, l_4, l_5, l_6, l_7, l_8, l_9, l_10, l_100, l_160, ↓m_1, ↓m_2, ↓m_3, ↓m_4, ↓m_5, ↓m_6, ↓m_7]) (g3.ag (Agr.rf.wi (by omega))), f0.agr (fun a k h1 h2 q => by omega), f0.agr (fun a k h1 h2 q => by omega)⟩
  show f_X8_image 20 M = some (nI (r_s (s_now σ) 0), x_wi M1 20 2 (nI 1))
  simp (disch := first | assumption | omega) only [f_X8_image, f_X8_image_c8, gt_20, gr_20_0, gr_20_1, gt_21, gt_30, g1, z0, l_of, n_ltT, n_ltF, n_leT, n_leF, n_eqT, n_eqF, n_neM, n_Mne, n_M0, n_Mlt, n_0leM, nI_clamp, x_in_nI, n_1, nI_add, x_at, x_bd_s, x_bv_s, ↓x_lt, decide_true, decide_false, Bool.and_self, Bool.true_and, Bool.and_true, if_true, if_false, ite_true, ite_false, ↓reduceIte, not_true_eq_false, not_false_eq_true, Nat.reduceAdd, Nat.reduceMul, Nat.reduceEqDiff, eq_self, true_and, and_true, false_and, and_false, Option.some.injEq, Prod.mk.injEq, l_0, l_1, l_2, l_3, l_4, l_5, l_6, l_7, l_8, l_9, l_10, l_100, l_160, ↓m_1, ↓m_2, ↓m_3, ↓m_4, ↓m_5, ↓m_6, ↓m_7, ii_wi, ji_wi, ri_wi, ti_wi, li_wi, ii_wj, ji_wj, ri_wj, ti_wj, li_wj]
theorem MInv.img {M M' : XM} {σ : XS} {ρ : XR} (hI : MInv σ M) (f0 : Fr (fun a k => a = 100 ∨ a = 83 ∧ k = 41) M M') (h2 : x_i M' 83 41 = nI 1) (hR : MK ρ M') : MInv (u_img σ ρ) M' := by
  obtain ⟨⟨⟨a1, a2, a3, a4, a5, a6, a7, a8⟩, hc, ht⟩, -, h3, h4, h5, h6, h7⟩ := hI
  have g1 : Agr 84 100 M M' := f0.agr (fun a k h1 h2 q => by omega)
  have g2 : Agr 101 105 M M' := f0.agr (fun a k h1 h2 q => by omega)
  refine ⟨⟨⟨(f0.1 _ _ (by omega)).trans a1, (f0.1 _ _ (by omega)).trans a2, (f0.1 _ _ (by omega)).trans a3, (f0.1 _ _ (by omega)).trans a4, (f0.1 _ _ (by omega)).trans a5, (f0.1 _ _ (by omega)).trans a6, (f0.1 _ _ (by omega)).trans a7, (f0.1 _ _ (by omega)).trans a8⟩, fun c hc' => ?_, fun i hi => (g1.i _ (by omega) (by omega)).trans (ht i hi)⟩, ⟨h2, hR⟩, fun s hs => ?_, fun k hk => (g1.i _ (by omega) (by omega)).trans (h4 k hk), (f0.1 _ _ (by omega)).trans h5, (f0.1 _ _ (by omega)).trans h6, fun i hi hr => (g2.i _ (by omega) (by omega)).trans (h7 i hi hr)⟩
  · obtain ⟨q1, q2, q3, q4, q5⟩ := hc c hc'
    exact ⟨(g1.i _ (by omega) (by omega)).trans q1, (g1.i _ (by omega) (by omega)).trans q2, (g1.i _ (by omega) (by omega)).trans q3, (g1.i _ (by omega) (by omega)).trans q4, (g1.i _ (by omega) (by omega)).trans q5⟩
  · obtain ⟨q0, q1, q2⟩ := h3 s hs
    refine ⟨(g1.i _ (by omega) (by omega)).trans q0, fun e => ?_, fun e => (g1.i _ (by omega) (by omega)).trans (q2 e)⟩
    obtain ⟨p1, p2, p3⟩ := q1 e
    exact ⟨(g1.i _ (by omega) (by omega)).trans p1, (g1.i _ (by omega) (by omega)).trans p2, fun i hi => (g1.j _ (by omega) (by omega)).trans (p3 i hi)⟩
theorem om_image {σ : XS} : OpM (f_X9_image 83) σ (sp_image σ).1 (sp_image σ).2 := by
  intro L b1 b2 M hG hI hMW
  obtain ⟨⟨⟨e0, e1, e2, e3, e4, e5, e6, e7⟩, hc, ht⟩, hi, hsh, hrf, hft, hrn, htr⟩ := id hI
  have a0 : Fr (fun a k => a = 100 ∨ a = 83 ∧ k = 41) M (x_wi M 83 41 (nI 1)) := Fr.rf.wi (by omega)
  obtain ⟨M1, g1, g2, g3, g4⟩ := m_all0 (M := x_wi M 83 41 (nI 1)) (t := 100) hG (gt_100 hG) (gl_100 hG) (by omega) (MR.ag2 (M := M) ⟨⟨e0, e1, e2, e3, e4, e5, e6, e7⟩, hc, ht⟩ (fun a j h => a0.1 a j (by omega)))
  have z0 : x_i M1 83 0 = nI (r_s (s_now σ) 0) := (g4.1 _ _ (by omega)).trans ((a0.1 _ _ (by omega)).trans e0)
  have f0 : Fr (fun a k => a = 100 ∨ a = 83 ∧ k = 41) M M1 := a0.tr (g4.mono (fun a k q => by omega))
  refine ⟨M1, ?_, g2, hI.img f0 ((g4.1 _ _ (by omega)).trans (by simp (disch := first | assumption | omega) only [ii_wi, ji_wi, ri_wi, ti_wi, li_wi, ii_wj, ji_wj, ri_wj, ti_wj, li_wj, l_of, n_ltT, n_ltF, n_leT, n_leF, n_eqT, n_eqF, n_neM, n_Mne, n_M0, n_Mlt, n_0leM, nI_clamp, x_in_nI, n_1, nI_add, x_at, x_bd_s, x_bv_s, ↓x_lt, decide_true, decide_false, Bool.and_self, Bool.true_and, Bool.and_true, if_true, if_false, ite_true, ite_false, ↓reduceIte, not_true_eq_false, not_false_eq_true, Nat.reduceAdd, Nat.reduceMul, Nat.reduceEqDiff, eq_self, true_and, and_true, false_and, and_false, Option.some.injEq, Prod.mk.injEq, l_0, l_1, l_2, l_3, l_4, l_5, l_6, l_7, l_8, l_9, l_10, l_100, l_160, ↓m_1, ↓m_2, ↓m_3, ↓m_4, ↓m_5, ↓m_6, ↓m_7])) g3, hMW.ag (f0.agr (fun a k h1 h2 q => by omega)), f0.agr (fun a k h1 h2 q => by omega)⟩
  show f_X9_image 83 M = some (nI (r_s (s_now σ) 0), M1)
  simp (disch := first | assumption | omega) only [f_X9_image, f_X9_image_c11, gt_83, gr_83_30, g1, z0, l_of, n_ltT, n_ltF, n_leT, n_leF, n_eqT, n_eqF, n_neM, n_Mne, n_M0, n_Mlt, n_0leM, nI_clamp, x_in_nI, n_1, nI_add, x_at, x_bd_s, x_bv_s, ↓x_lt, decide_true, decide_false, Bool.and_self, Bool.true_and, Bool.and_true, if_true, if_false, ite_true, ite_false, ↓reduceIte, not_true_eq_false, not_false_eq_true, Nat.reduceAdd, Nat.reduceMul, Nat.reduceEqDiff, eq_self, true_and, and_true, false_and, and_false, Option.some.injEq, Prod.mk.injEq, l_0, l_1, l_2, l_3, l_4, l_5, l_6, l_7, l_8, l_9, l_10, l_100, l_160, ↓m_1, ↓m_2, ↓m_3, ↓m_4, ↓m_5, ↓m_6, ↓m_7, ii_wi, ji_wi, ri_wi, ti_wi, li_wi, ii_wj, ji_wj, ri_wj, ti_wj, li_wj]
/-! restore: shelves whose COUNTER is gone hold NOTHING -/
theorem n_MltT {a k : Nat} (h0 : 0 < k) (hk : k < 2147483648) (ha : a < 2147483648) : (nM k < nI a) = True := eq_true (by
  rw [Int32.lt_iff_toInt_lt, nI_toInt (by omega), nM_toInt (by omega)]
  omega)
def r_hd : Nat → XS → Nat → XS
  | 0, σ, _ => σ
  | m + 1, σ, j => r_hd m (if s_sh σ 0 j = 2 ∧ r_s (s_now σ) 0 ≤ s_sh σ 3 j then u_sh σ 0 j 0 else σ) (j + 1)
theorem hd_now (m : Nat) : ∀ (σ : XS) (j : Nat), s_now (r_hd m σ j) = s_now σ := by
  induction m with
  | zero => intro σ j; rfl
  | succ m ih =>
    intro σ j
    refine (ih _ (j + 1)).trans ?_
    split <;> rfl
def SB (σ : XS) : Prop := r_s (s_now σ) 0 ≤ 6 ∧ ∀ s, s < 8 → s_sh σ 0 s ≤ 2 ∧ (s_sh σ 0 s = 2 → s_sh σ 3 s < 6)
theorem SB.z {σ : XS} (h : SB σ) (j : Nat) : SB (u_sh σ 0 j 0) := ⟨h.1, fun s hs => by
  rw [ss_u, ss_u, if_neg (show ¬ (3 = 0 ∧ s = j) by omega)]
  split
  · exact ⟨by omega, fun q => absurd q (by omega)⟩
  · exact h.2 s hs⟩
section
variable {L : Nat} {b1 b2 : Bool}
theorem c_rest_lp (m : Nat) : ∀ (n j : Nat) (σ : XS) (M : XM), m < n → Geo L b1 b2 M → CInv σ M → SB σ → j + m = 8 →
    ∃ M', lp_X8_restore_27 n 20 (nI j) M = some (nI (r_s (s_now σ) 0), M') ∧ Geo L b1 b2 M' ∧ CInv (r_hd m σ j) M' ∧ Agr 0 67 M M' ∧ Agr 83 105 M M' := by
  induction m with
  | zero =>
    intro n j σ M hn hG hI hS hj
    obtain ⟨n, rfl⟩ : ∃ i, n = i + 1 := ⟨n - 1, by omega⟩
    have e0 := hI.1.1.1
    refine ⟨M, ?_, hG, hI, Agr.rf, Agr.rf⟩
    rw [s_lp_X8_restore_27, show j = 8 by omega]
    simp (disch := first | assumption | omega) only [bd_X8_restore_27, gt_20, gr_20_5, gr_20_0, gt_21, gt_50, gl_50, l_of, n_ltT, n_ltF, n_leT, n_leF, n_eqT, n_eqF, n_neM, n_Mne, n_M0, n_Mlt, n_0leM, nI_clamp, x_in_nI, n_1, nI_add, x_at, x_bd_s, x_bv_s, ↓x_lt, decide_true, decide_false, Bool.and_self, Bool.true_and, Bool.and_true, if_true, if_false, ite_true, ite_false, ↓reduceIte, not_true_eq_false, not_false_eq_true, Nat.reduceAdd, Nat.reduceMul, Nat.reduceEqDiff, eq_self, true_and, and_true, false_and, and_false, Option.some.injEq, Prod.mk.injEq, l_0, l_1, l_2, l_3, l_4, l_5, l_6, l_7, l_8, l_9, l_10, l_100, l_160, ↓m_1, ↓m_2, ↓m_3, ↓m_4, ↓m_5, ↓m_6, ↓m_7, e0]
  | succ m ih =>
    intro n j σ M hn hG hI hS hj
    obtain ⟨n, rfl⟩ : ∃ i, n = i + 1 := ⟨n - 1, by omega⟩
    have e0 := hI.1.1.1
    obtain ⟨g0, g1, g2⟩ := hI.2.2.1 j (by omega)
    obtain ⟨v0, v1⟩ := hS.2 j (by omega)
    have v2 := hS.1
    unfold r_hd
    by_cases h2 : s_sh σ 0 j = 2
    · have p1 := (g2 h2).1
      have z1 := v1 h2
      by_cases h3 : r_s (s_now σ) 0 ≤ s_sh σ 3 j
      · rw [if_pos ⟨h2, h3⟩]
        have a1 : Agr 0 67 M (x_wi (x_wi (x_wi M (67 + 2 * j) 0 (nM 1)) (67 + 2 * j) 1 (nM 1)) (67 + 2 * j) 2 (nI 0)) := ((Agr.rf.wi (by omega)).wi (by omega)).wi (by omega)
        have a2 : Agr 83 105 M (x_wi (x_wi (x_wi M (67 + 2 * j) 0 (nM 1)) (67 + 2 * j) 1 (nM 1)) (67 + 2 * j) 2 (nI 0)) := ((Agr.rf.wi (by omega)).wi (by omega)).wi (by omega)
        obtain ⟨M2, k1, k2, k3, k4, k5⟩ := ih n (j + 1) (u_sh σ 0 j 0) (x_wi (x_wi (x_wi M (67 + 2 * j) 0 (nM 1)) (67 + 2 * j) 1 (nM 1)) (67 + 2 * j) 2 (nI 0)) (by omega) hG (hI.shl (a1.mono (by omega) (by omega)) (hI.2.2.1.cl (by omega))) (hS.z j) (by omega)
        refine ⟨M2, ?_, k2, k3, a1.tr k4, a2.tr k5⟩
        rw [s_lp_X8_restore_27]
        simp (disch := first | assumption | omega) only [bd_X8_restore_27, f_X8_restore_c62, f_X8_restore_65, f_X6_holdCounter, gt_20, gr_20_5, gr_20_0, gt_21, gt_50, gl_50, gs_50, gst_67, l_of, n_ltT, n_ltF, n_leT, n_leF, n_eqT, n_eqF, n_neM, n_Mne, n_M0, n_Mlt, n_0leM, nI_clamp, x_in_nI, n_1, nI_add, x_at, x_bd_s, x_bv_s, ↓x_lt, decide_true, decide_false, Bool.and_self, Bool.true_and, Bool.and_true, if_true, if_false, ite_true, ite_false, ↓reduceIte, not_true_eq_false, not_false_eq_true, Nat.reduceAdd, Nat.reduceMul, Nat.reduceEqDiff, eq_self, true_and, and_true, false_and, and_false, Option.some.injEq, Prod.mk.injEq, l_0, l_1, l_2, l_3, l_4, l_5, l_6, l_7, l_8, l_9, l_10, l_100, l_160, ↓m_1, ↓m_2, ↓m_3, ↓m_4, ↓m_5, ↓m_6, ↓m_7, ii_wi, ji_wi, ri_wi, ti_wi, li_wi, ii_wj, ji_wj, ri_wj, ti_wj, li_wj, e0, p1]
        exact k1
      · rw [if_neg (by omega)]
        obtain ⟨M2, k1, k2, k3, k4, k5⟩ := ih n (j + 1) σ M (by omega) hG hI hS (by omega)
        refine ⟨M2, ?_, k2, k3, k4, k5⟩
        rw [s_lp_X8_restore_27]
        simp (disch := first | assumption | omega) only [bd_X8_restore_27, f_X8_restore_c62, f_X8_restore_65, gt_20, gr_20_5, gr_20_0, gt_21, gt_50, gl_50, gs_50, gst_67, l_of, n_ltT, n_ltF, n_leT, n_leF, n_eqT, n_eqF, n_neM, n_Mne, n_M0, n_Mlt, n_0leM, nI_clamp, x_in_nI, n_1, nI_add, x_at, x_bd_s, x_bv_s, ↓x_lt, decide_true, decide_false, Bool.and_self, Bool.true_and, Bool.and_true, if_true, if_false, ite_true, ite_false, ↓reduceIte, not_true_eq_false, not_false_eq_true, Nat.reduceAdd, Nat.reduceMul, Nat.reduceEqDiff, eq_self, true_and, and_true, false_and, and_false, Option.some.injEq, Prod.mk.injEq, l_0, l_1, l_2, l_3, l_4, l_5, l_6, l_7, l_8, l_9, l_10, l_100, l_160, ↓m_1, ↓m_2, ↓m_3, ↓m_4, ↓m_5, ↓m_6, ↓m_7, ii_wi, ji_wi, ri_wi, ti_wi, li_wi, ii_wj, ji_wj, ri_wj, ti_wj, li_wj, e0, p1]
        exact k1
    · rw [if_neg (by omega)]
      have p1 : x_i M (67 + 2 * j) 0 = nM 1 := by
        rcases (by omega : s_sh σ 0 j = 0 ∨ s_sh σ 0 j = 1) with q | q
        · exact (g0 q).1
        · exact (g1 q).1
      obtain ⟨M2, k1, k2, k3, k4, k5⟩ := ih n (j + 1) σ M (by omega) hG hI hS (by omega)
      refine ⟨M2, ?_, k2, k3, k4, k5⟩
      rw [s_lp_X8_restore_27]
      simp (disch := first | assumption | omega) only [bd_X8_restore_27, f_X8_restore_c62, f_X8_restore_65, gt_20, gr_20_5, gr_20_0, gt_21, gt_50, gl_50, gs_50, gst_67, l_of, n_ltT, n_ltF, n_leT, n_leF, n_eqT, n_eqF, n_neM, n_Mne, n_M0, n_Mlt, n_0leM, nI_clamp, x_in_nI, n_1, nI_add, x_at, x_bd_s, x_bv_s, ↓x_lt, decide_true, decide_false, Bool.and_self, Bool.true_and, Bool.and_true, if_true, if_false, ite_true, ite_false, ↓reduceIte, not_true_eq_false, not_false_eq_true, Nat.reduceAdd, Nat.reduceMul, Nat.reduceEqDiff, eq_self, true_and, and_true, false_and, and_false, Option.some.injEq, Prod.mk.injEq, l_0, l_1, l_2, l_3, l_4, l_5, l_6, l_7, l_8, l_9, l_10, l_100, l_160, ↓m_1, ↓m_2, ↓m_3, ↓m_4, ↓m_5, ↓m_6, ↓m_7, ii_wi, ji_wi, ri_wi, ti_wi, li_wi, ii_wj, ji_wj, ri_wj, ti_wj, li_wj, e0, p1, n_MltT]
      exact k1
theorem MSh.c0 {σ : XS} {M : XM} {s : Nat} (h : MSh σ M) : MSh (u_sh σ 0 s 0) (x_wi M 91 s (nI 0)) := by
  intro t ht
  obtain ⟨h0, h1, h2⟩ := h t ht
  by_cases hts : t = s
  · subst hts
    simp only [ss_u, if_true, and_self]
    refine ⟨?_, fun e => absurd e (by omega), fun e => absurd e (by omega)⟩
    simp (disch := first | assumption | omega) only [ii_wi, ji_wi, ri_wi, ti_wi, li_wi, ii_wj, ji_wj, ri_wj, ti_wj, li_wj, l_of, n_ltT, n_ltF, n_leT, n_leF, n_eqT, n_eqF, n_neM, n_Mne, n_M0, n_Mlt, n_0leM, nI_clamp, x_in_nI, n_1, nI_add, x_at, x_bd_s, x_bv_s, ↓x_lt, decide_true, decide_false, Bool.and_self, Bool.true_and, Bool.and_true, if_true, if_false, ite_true, ite_false, ↓reduceIte, not_true_eq_false, not_false_eq_true, Nat.reduceAdd, Nat.reduceMul, Nat.reduceEqDiff, eq_self, true_and, and_true, false_and, and_false, Option.some.injEq, Prod.mk.injEq, l_0, l_1, l_2, l_3, l_4, l_5, l_6, l_7, l_8, l_9, l_10, l_100, l_160, ↓m_1, ↓m_2, ↓m_3, ↓m_4, ↓m_5, ↓m_6, ↓m_7]
  · have hx : ∀ a, x_i (x_wi M 91 s (nI 0)) a t = x_i M a t := fun a => by
      simp only [ii_wi]; repeat rw [if_neg (by omega)]
    have hy : ∀ g, s_sh (u_sh σ 0 s 0) g t = s_sh σ g t := fun g => by rw [ss_u, if_neg (by omega)]
    simp only [hx, hy]
    exact ⟨h0, h1, h2⟩
theorem m_rest_lp (m : Nat) : ∀ (n j : Nat) (σ : XS) (M : XM), m < n → Geo L b1 b2 M → MInv σ M → SB σ → j + m = 8 →
    ∃ M', lp_X9_restore_25 n 83 (nI j) M = some (nI (r_s (s_now σ) 0), M') ∧ Geo L b1 b2 M' ∧ MInv (r_hd m σ j) M' ∧ Agr 0 91 M M' ∧ Agr 92 105 M M' := by
  induction m with
  | zero =>
    intro n j σ M hn hG hI hS hj
    obtain ⟨n, rfl⟩ : ∃ i, n = i + 1 := ⟨n - 1, by omega⟩
    have e0 := hI.1.1.1
    refine ⟨M, ?_, hG, hI, Agr.rf, Agr.rf⟩
    rw [s_lp_X9_restore_25, show j = 8 by omega]
    simp (disch := first | assumption | omega) only [bd_X9_restore_25, gt_83, l_of, n_ltT, n_ltF, n_leT, n_leF, n_eqT, n_eqF, n_neM, n_Mne, n_M0, n_Mlt, n_0leM, nI_clamp, x_in_nI, n_1, nI_add, x_at, x_bd_s, x_bv_s, ↓x_lt, decide_true, decide_false, Bool.and_self, Bool.true_and, Bool.and_true, if_true, if_false, ite_true, ite_false, ↓reduceIte, not_true_eq_false, not_false_eq_true, Nat.reduceAdd, Nat.reduceMul, Nat.reduceEqDiff, eq_self, true_and, and_true, false_and, and_false, Option.some.injEq, Prod.mk.injEq, l_0, l_1, l_2, l_3, l_4, l_5, l_6, l_7, l_8, l_9, l_10, l_100, l_160, ↓m_1, ↓m_2, ↓m_3, ↓m_4, ↓m_5, ↓m_6, ↓m_7, e0]
  | succ m ih =>
    intro n j σ M hn hG hI hS hj
    obtain ⟨n, rfl⟩ : ∃ i, n = i + 1 := ⟨n - 1, by omega⟩
    have e0 := hI.1.1.1
    obtain ⟨g0, g1, g2⟩ := hI.2.2.1 j (by omega)
    obtain ⟨v0, v1⟩ := hS.2 j (by omega)
    have v2 := hS.1
    unfold r_hd
    by_cases h2 : s_sh σ 0 j = 2
    · have p1 := g2 h2
      have z1 := v1 h2
      rw [h2] at g0
      by_cases h3 : r_s (s_now σ) 0 ≤ s_sh σ 3 j
      · rw [if_pos ⟨h2, h3⟩]
        have a1 : Agr 0 91 M (x_wi M 91 j (nI 0)) := Agr.rf.wi (by omega)
        have a2 : Agr 92 105 M (x_wi M 91 j (nI 0)) := Agr.rf.wi (by omega)
        obtain ⟨M2, k1, k2, k3, k4, k5⟩ := ih n (j + 1) (u_sh σ 0 j 0) (x_wi M 91 j (nI 0)) (by omega) hG (hI.shl (a1.mono (by omega) (by omega)) (a2.mono (by omega) (by omega)) hI.2.2.1.c0) (hS.z j) (by omega)
        refine ⟨M2, ?_, k2, k3, a1.tr k4, a2.tr k5⟩
        rw [s_lp_X9_restore_25]
        simp (disch := first | assumption | omega) only [bd_X9_restore_25, f_X9_restore_61, gt_83, gr_83_16, gr_83_19, gt_91, gl_91, gt_94, gl_94, l_of, n_ltT, n_ltF, n_leT, n_leF, n_eqT, n_eqF, n_neM, n_Mne, n_M0, n_Mlt, n_0leM, nI_clamp, x_in_nI, n_1, nI_add, x_at, x_bd_s, x_bv_s, ↓x_lt, decide_true, decide_false, Bool.and_self, Bool.true_and, Bool.and_true, if_true, if_false, ite_true, ite_false, ↓reduceIte, not_true_eq_false, not_false_eq_true, Nat.reduceAdd, Nat.reduceMul, Nat.reduceEqDiff, eq_self, true_and, and_true, false_and, and_false, Option.some.injEq, Prod.mk.injEq, l_0, l_1, l_2, l_3, l_4, l_5, l_6, l_7, l_8, l_9, l_10, l_100, l_160, ↓m_1, ↓m_2, ↓m_3, ↓m_4, ↓m_5, ↓m_6, ↓m_7, ii_wi, ji_wi, ri_wi, ti_wi, li_wi, ii_wj, ji_wj, ri_wj, ti_wj, li_wj, e0, g0, p1]
        exact k1
      · rw [if_neg (by omega)]
        obtain ⟨M2, k1, k2, k3, k4, k5⟩ := ih n (j + 1) σ M (by omega) hG hI hS (by omega)
        refine ⟨M2, ?_, k2, k3, k4, k5⟩
        rw [s_lp_X9_restore_25]
        simp (disch := first | assumption | omega) only [bd_X9_restore_25, f_X9_restore_61, gt_83, gr_83_16, gr_83_19, gt_91, gl_91, gt_94, gl_94, l_of, n_ltT, n_ltF, n_leT, n_leF, n_eqT, n_eqF, n_neM, n_Mne, n_M0, n_Mlt, n_0leM, nI_clamp, x_in_nI, n_1, nI_add, x_at, x_bd_s, x_bv_s, ↓x_lt, decide_true, decide_false, Bool.and_self, Bool.true_and, Bool.and_true, if_true, if_false, ite_true, ite_false, ↓reduceIte, not_true_eq_false, not_false_eq_true, Nat.reduceAdd, Nat.reduceMul, Nat.reduceEqDiff, eq_self, true_and, and_true, false_and, and_false, Option.some.injEq, Prod.mk.injEq, l_0, l_1, l_2, l_3, l_4, l_5, l_6, l_7, l_8, l_9, l_10, l_100, l_160, ↓m_1, ↓m_2, ↓m_3, ↓m_4, ↓m_5, ↓m_6, ↓m_7, ii_wi, ji_wi, ri_wi, ti_wi, li_wi, ii_wj, ji_wj, ri_wj, ti_wj, li_wj, e0, g0, p1]
        exact k1
    · rw [if_neg (by omega)]
      obtain ⟨M2, k1, k2, k3, k4, k5⟩ := ih n (j + 1) σ M (by omega) hG hI hS (by omega)
      refine ⟨M2, ?_, k2, k3, k4, k5⟩
      rw [s_lp_X9_restore_25]
      simp (disch := first | assumption | omega) only [bd_X9_restore_25, f_X9_restore_61, gt_83, gr_83_16, gr_83_19, gt_91, gl_91, gt_94, gl_94, l_of, n_ltT, n_ltF, n_leT, n_leF, n_eqT, n_eqF, n_neM, n_Mne, n_M0, n_Mlt, n_0leM, nI_clamp, x_in_nI, n_1, nI_add, x_at, x_bd_s, x_bv_s, ↓x_lt, decide_true, decide_false, Bool.and_self, Bool.true_and, Bool.and_true, if_true, if_false, ite_true, ite_false, ↓reduceIte, not_true_eq_false, not_false_eq_true, Nat.reduceAdd, Nat.reduceMul, Nat.reduceEqDiff, eq_self, true_and, and_true, false_and, and_false, Option.some.injEq, Prod.mk.injEq, l_0, l_1, l_2, l_3, l_4, l_5, l_6, l_7, l_8, l_9, l_10, l_100, l_160, ↓m_1, ↓m_2, ↓m_3, ↓m_4, ↓m_5, ↓m_6, ↓m_7, ii_wi, ji_wi, ri_wi, ti_wi, li_wi, ii_wj, ji_wj, ri_wj, ti_wj, li_wj, e0, g0, h2]
      exact k1
end
def sp_restore (σ : XS) : Int32 × XS := match s_img σ with
  | none => (nM 6, u_rf σ 6)
  | some κ => (nI (r_s κ 0), r_hd 8 (u_now σ κ) 0)
theorem WFS.sb {B : Nat} {σ : XS} {κ : XR} (hW : WFS B σ) (hk : s_img σ = some κ) : SB (u_now σ κ) :=
  ⟨(hW.2.1 κ hk).1.1, fun s hs => ⟨(hW.2.2.1 s hs).1, fun e => Nat.lt_of_lt_of_le ((hW.2.2.1 s hs).2.2 e) hW.1.1.1⟩⟩
theorem sp_restore_n {σ : XS} (hm : s_img σ = none) : sp_restore σ = (nM 6, u_rf σ 6) := by
  unfold sp_restore
  rw [hm]
theorem sp_restore_s {σ : XS} {κ : XR} (hm : s_img σ = some κ) : sp_restore σ = (nI (r_s κ 0), r_hd 8 (u_now σ κ) 0) := by
  unfold sp_restore
  rw [hm]
theorem oc_restore {B : Nat} {σ : XS} (hW : WFS B σ) : OpC (f_X8_restore 20) σ (sp_restore σ).1 (sp_restore σ).2 := by
  intro L b1 b2 M hG hI
  obtain ⟨⟨⟨e0, e1, e2, e3, e4, e5, e6, e7⟩, hc, ht⟩, hi, hsh, hrf, hft, hrn, htr⟩ := id hI
  show EndC L (f_X8_restore 20) M (sp_restore σ)
  cases hm : s_img σ with
  | none =>
    rw [sp_restore_n hm]
    unfold CI at hi
    rw [hm] at hi
    have hi : x_i M 20 2 = 0 := hi
    exact c_no_end hG hI (by simp (disch := first | assumption | omega) only [f_X8_restore, gt_20, gr_20_6, gt_51, gl_51, hi, c_refM, l_of, n_ltT, n_ltF, n_leT, n_leF, n_eqT, n_eqF, n_neM, n_Mne, n_M0, n_Mlt, n_0leM, nI_clamp, x_in_nI, n_1, nI_add, x_at, x_bd_s, x_bv_s, ↓x_lt, decide_true, decide_false, Bool.and_self, Bool.true_and, Bool.and_true, if_true, if_false, ite_true, ite_false, ↓reduceIte, not_true_eq_false, not_false_eq_true, Nat.reduceAdd, Nat.reduceMul, Nat.reduceEqDiff, eq_self, true_and, and_true, false_and, and_false, Option.some.injEq, Prod.mk.injEq, l_0, l_1, l_2, l_3, l_4, l_5, l_6, l_7, l_8, l_9, l_10, l_100, l_160, ↓m_1, ↓m_2, ↓m_3, ↓m_4, ↓m_5, ↓m_6, ↓m_7])
  | some κ =>
    rw [sp_restore_s hm]
    unfold CI at hi
    rw [hm] at hi
    have hi : x_i M 20 2 = 1 ∧ CR 30 κ M := hi
    have h1 : x_i M 20 2 = nI 1 := hi.1
    obtain ⟨M1, g1, g2, g3, g4⟩ := c_like hG (by omega) (rg_21 hG) (rg_30 hG) hi.2
    obtain ⟨M2, k1, k2, k3, k4, k5⟩ := c_rest_lp 8 x_fuel 0 (u_now σ κ) M1 (fu (by omega)) g2 (hI.nfr g3 g4 (fun a k q r => by omega)) (hW.sb hm) (by omega)
    generalize r_hd 8 (u_now σ κ) 0 = τ at k3 ⊢
    have k1 : lp_X8_restore_27 x_fuel 20 (nI 0) M1 = some (nI (r_s κ 0), M2) := k1
    refine ⟨M2, b1, b2, ?_, k2, k3, Agr.tr (g4.agr (fun a k h1 h2 q => by omega)) (k4.mono (by omega) (by omega)), Agr.tr (g4.agr (fun a k h1 h2 q => by omega)) k5⟩
    simp (disch := first | assumption | omega) only [f_X8_restore, f_X8_restore_c22, gt_20, gr_20_0, gr_20_1, gt_21, h1, g1, l_of, n_ltT, n_ltF, n_leT, n_leF, n_eqT, n_eqF, n_neM, n_Mne, n_M0, n_Mlt, n_0leM, nI_clamp, x_in_nI, n_1, nI_add, x_at, x_bd_s, x_bv_s, ↓x_lt, decide_true, decide_false, Bool.and_self, Bool.true_and, Bool.and_true, if_true, if_false, ite_true, ite_false, ↓reduceIte, not_true_eq_false, not_false_eq_true, Nat.reduceAdd, Nat.reduceMul, Nat.reduceEqDiff, eq_self, true_and, and_true, false_and, and_false, Option.some.injEq, Prod.mk.injEq, l_0, l_1, l_2, l_3, l_4, l_5, l_6, l_7, l_8, l_9, l_10, l_100, l_160, ↓m_1, ↓m_2, ↓m_3, ↓m_4, ↓m_5, ↓m_6, ↓m_7]
    exact k1
theorem om_restore {B : Nat} {σ : XS} (hW : WFS B σ) : OpM (f_X9_restore 83) σ (sp_restore σ).1 (sp_restore σ).2 := by
  intro L b1 b2 M hG hI hMW
  obtain ⟨⟨⟨e0, e1, e2, e3, e4, e5, e6, e7⟩, hc, ht⟩, hi, hsh, hrf, hft, hrn, htr⟩ := id hI
  show EndM L b1 b2 (f_X9_restore 83) M (sp_restore σ)
  cases hm : s_img σ with
  | none =>
    rw [sp_restore_n hm]
    unfold MI at hi
    rw [hm] at hi
    have hi : x_i M 83 41 = 0 := hi
    exact m_no_end hG hI hMW (by simp (disch := first | assumption | omega) only [f_X9_restore, gt_83, gr_83_9, gt_84, gl_84, hi, m_noM, l_of, n_ltT, n_ltF, n_leT, n_leF, n_eqT, n_eqF, n_neM, n_Mne, n_M0, n_Mlt, n_0leM, nI_clamp, x_in_nI, n_1, nI_add, x_at, x_bd_s, x_bv_s, ↓x_lt, decide_true, decide_false, Bool.and_self, Bool.true_and, Bool.and_true, if_true, if_false, ite_true, ite_false, ↓reduceIte, not_true_eq_false, not_false_eq_true, Nat.reduceAdd, Nat.reduceMul, Nat.reduceEqDiff, eq_self, true_and, and_true, false_and, and_false, Option.some.injEq, Prod.mk.injEq, l_0, l_1, l_2, l_3, l_4, l_5, l_6, l_7, l_8, l_9, l_10, l_100, l_160, ↓m_1, ↓m_2, ↓m_3, ↓m_4, ↓m_5, ↓m_6, ↓m_7])
  | some κ =>
    rw [sp_restore_s hm]
    unfold MI at hi
    rw [hm] at hi
    have hi : x_i M 83 41 = 1 ∧ MK κ M := hi
    have h1 : x_i M 83 41 = nI 1 := hi.1
    obtain ⟨M1, g1, g2, g3, g4⟩ := m_all1 (t := 100) hG (gt_100 hG) (gl_100 hG) (by omega) hi.2
    obtain ⟨M2, k1, k2, k3, k4, k5⟩ := m_rest_lp 8 x_fuel 0 (u_now σ κ) M1 (fu (by omega)) g2 (hI.nfr g3 g4 (fun a k q r => by omega)) (hW.sb hm) (by omega)
    generalize r_hd 8 (u_now σ κ) 0 = τ at k3 ⊢
    have k1 : lp_X9_restore_25 x_fuel 83 (nI 0) M1 = some (nI (r_s κ 0), M2) := k1
    refine ⟨M2, ?_, k2, k3, hMW.ag (Agr.tr (g4.agr (fun a k h1 h2 q => by omega)) (k5.mono (by omega) (by omega))), Agr.tr (g4.agr (fun a k h1 h2 q => by omega)) (k4.mono (by omega) (by omega))⟩
    simp (disch := first | assumption | omega) only [f_X9_restore, f_X9_restore_c20, gt_83, gr_83_30, h1, g1, l_of, n_ltT, n_ltF, n_leT, n_leF, n_eqT, n_eqF, n_neM, n_Mne, n_M0, n_Mlt, n_0leM, nI_clamp, x_in_nI, n_1, nI_add, x_at, x_bd_s, x_bv_s, ↓x_lt, decide_true, decide_false, Bool.and_self, Bool.true_and, Bool.and_true, if_true, if_false, ite_true, ite_false, ↓reduceIte, not_true_eq_false, not_false_eq_true, Nat.reduceAdd, Nat.reduceMul, Nat.reduceEqDiff, eq_self, true_and, and_true, false_and, and_false, Option.some.injEq, Prod.mk.injEq, l_0, l_1, l_2, l_3, l_4, l_5, l_6, l_7, l_8, l_9, l_10, l_100, l_160, ↓m_1, ↓m_2, ↓m_3, ↓m_4, ↓m_5, ↓m_6, ↓m_7]
    exact k1
section
variable {B : Nat} {σ : XS}
theorem wf_image (hW : WFS B σ) : WFS B (sp_image σ).2 := ⟨hW.1, fun κ hκ => by
  have q : s_now σ = κ := Option.some.inj hκ
  rw [← q]; exact hW.1, hW.2.2⟩
theorem hd_img (m : Nat) : ∀ (σ : XS) (j : Nat), s_img (r_hd m σ j) = s_img σ ∧ s_ran (r_hd m σ j) = s_ran σ := by
  induction m with
  | zero => intro σ j; exact ⟨rfl, rfl⟩
  | succ m ih =>
    intro σ j
    have q := ih (if s_sh σ 0 j = 2 ∧ r_s (s_now σ) 0 ≤ s_sh σ 3 j then u_sh σ 0 j 0 else σ) (j + 1)
    refine ⟨q.1.trans ?_, q.2.trans ?_⟩ <;> split <;> rfl
theorem hd_sh (m : Nat) : ∀ (σ : XS) (j : Nat), (∀ s, s < 8 → s_sh σ 0 s ≤ 2 ∧ (s_sh σ 0 s = 1 → s_sh σ 1 s ≤ 3 ∧ s_sh σ 2 s ≤ 160) ∧ (s < j → s_sh σ 0 s = 2 → s_sh σ 3 s < r_s (s_now σ) 0)) →
    ∀ s, s < 8 → s_sh (r_hd m σ j) 0 s ≤ 2 ∧ (s_sh (r_hd m σ j) 0 s = 1 → s_sh (r_hd m σ j) 1 s ≤ 3 ∧ s_sh (r_hd m σ j) 2 s ≤ 160) ∧ (s < j + m → s_sh (r_hd m σ j) 0 s = 2 → s_sh (r_hd m σ j) 3 s < r_s (s_now σ) 0) := by
  induction m with
  | zero => intro σ j h; exact h
  | succ m ih =>
    intro σ j h s hs
    by_cases hc : s_sh σ 0 j = 2 ∧ r_s (s_now σ) 0 ≤ s_sh σ 3 j
    · have q := ih (u_sh σ 0 j 0) (j + 1) (fun s hs => by
        obtain ⟨y1, y2, y3⟩ := h s hs
        by_cases hts : s = j
        · subst hts
          have z : s_sh (u_sh σ 0 s 0) 0 s = 0 := by rw [ss_u, if_pos ⟨rfl, rfl⟩]
          exact ⟨by omega, fun e => absurd e (by omega), fun _ e => absurd e (by omega)⟩
        · have z : ∀ g, s_sh (u_sh σ 0 j 0) g s = s_sh σ g s := fun g => by rw [ss_u, if_neg (by omega)]
          rw [z, z, z, z]
          exact ⟨y1, y2, fun e => y3 (by omega)⟩) s hs
      have e : r_hd (m + 1) σ j = r_hd m (u_sh σ 0 j 0) (j + 1) := by
        show r_hd m (if _ then _ else _) _ = _
        rw [if_pos hc]
      rw [e, show j + (m + 1) = j + 1 + m by omega]
      exact q
    · have q := ih σ (j + 1) (fun s hs => by
        obtain ⟨y1, y2, y3⟩ := h s hs
        refine ⟨y1, y2, fun e1 e2 => ?_⟩
        by_cases hts : s = j
        · subst hts; omega
        · exact y3 (by omega) e2) s hs
      have e : r_hd (m + 1) σ j = r_hd m σ (j + 1) := by
        show r_hd m (if _ then _ else _) _ = _
        rw [if_neg hc]
      rw [e, show j + (m + 1) = j + 1 + m by omega]
      exact q
theorem wf_restore (hW : WFS B σ) : WFS B (sp_restore σ).2 := by
  cases hm : s_img σ with
  | none =>
    rw [sp_restore_n hm]
    exact hW
  | some κ =>
    rw [sp_restore_s hm]
    have q := hd_sh 8 (u_now σ κ) 0 (fun s hs => ⟨(hW.2.2.1 s hs).1, (hW.2.2.1 s hs).2.1, fun e => absurd e (by omega)⟩)
    have i := hd_img 8 (u_now σ κ) 0
    have w := hd_now 8 (u_now σ κ) 0
    generalize r_hd 8 (u_now σ κ) 0 = τ at q i w ⊢
    have w : s_now τ = κ := w
    have i1 : s_img τ = s_img σ := i.1
    have i2 : s_ran τ = s_ran σ := i.2
    have q : ∀ s, s < 8 → s_sh τ 0 s ≤ 2 ∧ (s_sh τ 0 s = 1 → s_sh τ 1 s ≤ 3 ∧ s_sh τ 2 s ≤ 160) ∧ (s < 0 + 8 → s_sh τ 0 s = 2 → s_sh τ 3 s < r_s κ 0) := q
    show WFS B τ
    refine ⟨by rw [w]; exact hW.2.1 κ hm, fun κ' hκ => hW.2.1 κ' (by rw [i1] at hκ; exact hκ), fun s hs => ⟨(q s hs).1, (q s hs).2.1, fun e => by rw [w]; exact (q s hs).2.2 (by omega) e⟩, by rw [i2]; exact hW.2.2.2⟩
end
