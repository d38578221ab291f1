/-! quickest -/
def qk (σ : XS) (k m : Nat) : Nat → Nat → Option Nat → Nat → Option Nat
  | 0, _, f, _ => f
  | d + 1, j, f, l => match wt σ j k m with
    | none => qk σ k m d (j + 1) f l
    | some t => if t < l then qk σ k m d (j + 1) (some j) t else qk σ k m d (j + 1) f l
theorem thu_le (n p kd a m : Nat) (br : Nat → Int32) (w : WK) (d : Nat) : ∀ (t x : Nat), thu n p kd a m br w d t = some x → x < t + d := by
  induction d with
  | zero => intro t x h; cases h
  | succ d ih =>
    intro t x h
    unfold thu at h
    split at h
    · cases h; omega
    · have := ih (t + 1) x h; omega
theorem wt_le {σ : XS} {j k m x : Nat} (h : wt σ j k m = some x) : x ≤ 400 := by
  have := thu_le _ _ _ _ _ _ _ _ _ _ h; omega
theorem l_401 : (401 : Int32) = nI 401 := rfl
section
variable {L : Nat} {b1 b2 : Bool} {σ : XS} {B : Nat}
theorem c_qk {k m : Nat} (hW : WFS B σ) (hB : B ≤ 800000) (hk : k < 8) (h1 : s_sh σ 0 k = 1) (hm : m ≤ s_sh σ 2 k) (h4 : m ≤ 40) (d : Nat) : ∀ (N j l : Nat) (f : Option Nat) (M : XM), d < N → Geo L b1 b2 M → CInv σ M → j + d = r_s (s_now σ) 0 → l ≤ 401 →
    ∃ M', lp_X8_quickest_31 N 20 (nI k) (nI m) (oI f) (nI l) (nI j) M = some (oI (qk σ k m d j f l), M') ∧ Geo L b1 b2 M' ∧ Fr PW M M' := by
  have w0 := hW.1.1.1
  induction d with
  | zero =>
    intro N j l f M hN hG hI hj hl
    obtain ⟨N, rfl⟩ : ∃ i, N = i + 1 := ⟨N - 1, by omega⟩
    have e0 := hI.1.1.1
    refine ⟨M, ?_, hG, Fr.rf⟩
    rw [s_lp_X8_quickest_31, show j = r_s (s_now σ) 0 by omega]
    simp (disch := first | assumption | omega) only [bd_X8_quickest_31, gt_20, gr_20_0, gt_21, e0, qk, l_of, n_ltT, n_ltF, n_leT, n_leF, n_eqT, n_eqF, n_neM, n_Mne, n_M0, n_Mlt, n_0leM, nI_clamp, x_in_nI, n_1, nI_add, x_at, x_bd_s, x_bv_s, ↓x_lt, decide_true, decide_false, Bool.and_self, Bool.true_and, Bool.and_true, if_true, if_false, ite_true, ite_false, ↓reduceIte, not_true_eq_false, not_false_eq_true, Nat.reduceAdd, Nat.reduceMul, Nat.reduceEqDiff, eq_self, true_and, and_true, false_and, and_false, Option.some.injEq, Prod.mk.injEq, l_0, l_1, l_2, l_3, l_4, l_5, l_6, l_7, l_8, l_9, l_10, l_100, l_160, ↓m_1, ↓m_2, ↓m_3, ↓m_4, ↓m_5, ↓m_6, ↓m_7]
  | succ d ih =>
    intro N j l f M hN hG hI hj hl
    obtain ⟨N, rfl⟩ : ∃ i, N = i + 1 := ⟨N - 1, by omega⟩
    have e0 := hI.1.1.1
    obtain ⟨M1, M2, g1, g2, g3, g4, g5⟩ := c_wthr hG hI hW hB (j := j) (by omega) hk h1 hm h4
    have hI2 : CInv σ M2 := hI.fr g5 (fun a k q r => by omega)
    rw [s_lp_X8_quickest_31]
    unfold qk
    cases hw : wt σ j k m with
    | none =>
      rw [hw] at g3
      obtain ⟨M3, k1, k2, k3⟩ := ih N (j + 1) l f M2 (by omega) g4 hI2 (by omega) hl
      refine ⟨M3, ?_, k2, g5.tr k3⟩
      simp (disch := first | assumption | omega) only [bd_X8_quickest_31, f_X8_quickest_c60, f_X8_quickest_c67, f_X8_quickest_96, gt_20, gr_20_0, gr_20_5, gr_20_7, gt_21, gt_50, gl_50, gs_50, gst_67, gt_52, gr_20_6, gt_51, gl_51, e0, g1, g3, oI, l_of, n_ltT, n_ltF, n_leT, n_leF, n_eqT, n_eqF, n_neM, n_Mne, n_M0, n_Mlt, n_0leM, nI_clamp, x_in_nI, n_1, nI_add, x_at, x_bd_s, x_bv_s, ↓x_lt, decide_true, decide_false, Bool.and_self, Bool.true_and, Bool.and_true, if_true, if_false, ite_true, ite_false, ↓reduceIte, not_true_eq_false, not_false_eq_true, Nat.reduceAdd, Nat.reduceMul, Nat.reduceEqDiff, eq_self, true_and, and_true, false_and, and_false, Option.some.injEq, Prod.mk.injEq, l_0, l_1, l_2, l_3, l_4, l_5, l_6, l_7, l_8, l_9, l_10, l_100, l_160, ↓m_1, ↓m_2, ↓m_3, ↓m_4, ↓m_5, ↓m_6, ↓m_7]
      exact k1
    | some t =>
      rw [hw] at g3
      have ht := wt_le hw
      dsimp only
      by_cases hx : t < l
      · rw [if_pos hx]
        obtain ⟨M3, k1, k2, k3⟩ := ih N (j + 1) t (some j) M2 (by omega) g4 hI2 (by omega) (by omega)
        refine ⟨M3, ?_, k2, g5.tr k3⟩
        simp (disch := first | assumption | omega) only [bd_X8_quickest_31, f_X8_quickest_c60, f_X8_quickest_c67, f_X8_quickest_96, gt_20, gr_20_0, gr_20_5, gr_20_7, gt_21, gt_50, gl_50, gs_50, gst_67, gt_52, gr_20_6, gt_51, gl_51, e0, g1, g3, oI, l_of, n_ltT, n_ltF, n_leT, n_leF, n_eqT, n_eqF, n_neM, n_Mne, n_M0, n_Mlt, n_0leM, nI_clamp, x_in_nI, n_1, nI_add, x_at, x_bd_s, x_bv_s, ↓x_lt, decide_true, decide_false, Bool.and_self, Bool.true_and, Bool.and_true, if_true, if_false, ite_true, ite_false, ↓reduceIte, not_true_eq_false, not_false_eq_true, Nat.reduceAdd, Nat.reduceMul, Nat.reduceEqDiff, eq_self, true_and, and_true, false_and, and_false, Option.some.injEq, Prod.mk.injEq, l_0, l_1, l_2, l_3, l_4, l_5, l_6, l_7, l_8, l_9, l_10, l_100, l_160, ↓m_1, ↓m_2, ↓m_3, ↓m_4, ↓m_5, ↓m_6, ↓m_7]
        exact k1
      · rw [if_neg hx]
        obtain ⟨M3, k1, k2, k3⟩ := ih N (j + 1) l f M2 (by omega) g4 hI2 (by omega) hl
        refine ⟨M3, ?_, k2, g5.tr k3⟩
        simp (disch := first | assumption | omega) only [bd_X8_quickest_31, f_X8_quickest_c60, f_X8_quickest_c67, f_X8_quickest_96, gt_20, gr_20_0, gr_20_5, gr_20_7, gt_21, gt_50, gl_50, gs_50, gst_67, gt_52, gr_20_6, gt_51, gl_51, e0, g1, g3, oI, l_of, n_ltT, n_ltF, n_leT, n_leF, n_eqT, n_eqF, n_neM, n_Mne, n_M0, n_Mlt, n_0leM, nI_clamp, x_in_nI, n_1, nI_add, x_at, x_bd_s, x_bv_s, ↓x_lt, decide_true, decide_false, Bool.and_self, Bool.true_and, Bool.and_true, if_true, if_false, ite_true, ite_false, ↓reduceIte, not_true_eq_false, not_false_eq_true, Nat.reduceAdd, Nat.reduceMul, Nat.reduceEqDiff, eq_self, true_and, and_true, false_and, and_false, Option.some.injEq, Prod.mk.injEq, l_0, l_1, l_2, l_3, l_4, l_5, l_6, l_7, l_8, l_9, l_10, l_100, l_160, ↓m_1, ↓m_2, ↓m_3, ↓m_4, ↓m_5, ↓m_6, ↓m_7]
        exact k1
theorem m_qk {k m : Nat} (hW : WFS B σ) (hB : B ≤ 800000) (hk : k < 8) (h1 : s_sh σ 0 k = 1) (hm : m ≤ s_sh σ 2 k) (h4 : m ≤ 40) (d : Nat) : ∀ (N j l : Nat) (f : Option Nat) (M : XM), d < N → Geo L b1 b2 M → MInv σ M → j + d = r_s (s_now σ) 0 → l ≤ 401 →
    ∃ M', lp_X9_quickest_50 N 83 (nI k) (nI m) (oI f) (nI l) (nI j) M = some (oI (qk σ k m d j f l), M') ∧ Geo L b1 b2 M' ∧ Fr PG M M' := by
  have w0 := hW.1.1.1
  induction d with
  | zero =>
    intro N j l f M hN hG hI hj hl
    obtain ⟨N, rfl⟩ : ∃ i, N = i + 1 := ⟨N - 1, by omega⟩
    have e0 := hI.1.1.1
    refine ⟨M, ?_, hG, Fr.rf⟩
    rw [s_lp_X9_quickest_50, show j = r_s (s_now σ) 0 by omega]
    simp (disch := first | assumption | omega) only [bd_X9_quickest_50, gt_83, e0, qk, l_of, n_ltT, n_ltF, n_leT, n_leF, n_eqT, n_eqF, n_neM, n_Mne, n_M0, n_Mlt, n_0leM, nI_clamp, x_in_nI, n_1, nI_add, x_at, x_bd_s, x_bv_s, ↓x_lt, decide_true, decide_false, Bool.and_self, Bool.true_and, Bool.and_true, if_true, if_false, ite_true, ite_false, ↓reduceIte, not_true_eq_false, not_false_eq_true, Nat.reduceAdd, Nat.reduceMul, Nat.reduceEqDiff, eq_self, true_and, and_true, false_and, and_false, Option.some.injEq, Prod.mk.injEq, l_0, l_1, l_2, l_3, l_4, l_5, l_6, l_7, l_8, l_9, l_10, l_100, l_160, ↓m_1, ↓m_2, ↓m_3, ↓m_4, ↓m_5, ↓m_6, ↓m_7]
  | succ d ih =>
    intro N j l f M hN hG hI hj hl
    obtain ⟨N, rfl⟩ : ∃ i, N = i + 1 := ⟨N - 1, by omega⟩
    have e0 := hI.1.1.1
    obtain ⟨M2, g3, g4, g5⟩ := m_wthr hG hI hW hB (j := j) (by omega) hk h1 hm h4
    have hI2 : MInv σ M2 := hI.fr g5 (fun a k q r => by omega)
    rw [s_lp_X9_quickest_50]
    unfold qk
    cases hw : wt σ j k m with
    | none =>
      rw [hw] at g3
      obtain ⟨M3, k1, k2, k3⟩ := ih N (j + 1) l f M2 (by omega) g4 hI2 (by omega) hl
      refine ⟨M3, ?_, k2, g5.tr k3⟩
      simp (disch := first | assumption | omega) only [bd_X9_quickest_50, f_X9_quickest_c64, f_X9_quickest_93, gt_83, e0, g3, oI, l_of, n_ltT, n_ltF, n_leT, n_leF, n_eqT, n_eqF, n_neM, n_Mne, n_M0, n_Mlt, n_0leM, nI_clamp, x_in_nI, n_1, nI_add, x_at, x_bd_s, x_bv_s, ↓x_lt, decide_true, decide_false, Bool.and_self, Bool.true_and, Bool.and_true, if_true, if_false, ite_true, ite_false, ↓reduceIte, not_true_eq_false, not_false_eq_true, Nat.reduceAdd, Nat.reduceMul, Nat.reduceEqDiff, eq_self, true_and, and_true, false_and, and_false, Option.some.injEq, Prod.mk.injEq, l_0, l_1, l_2, l_3, l_4, l_5, l_6, l_7, l_8, l_9, l_10, l_100, l_160, ↓m_1, ↓m_2, ↓m_3, ↓m_4, ↓m_5, ↓m_6, ↓m_7]
      exact k1
    | some t =>
      rw [hw] at g3
      have ht := wt_le hw
      dsimp only
      by_cases hx : t < l
      · rw [if_pos hx]
        obtain ⟨M3, k1, k2, k3⟩ := ih N (j + 1) t (some j) M2 (by omega) g4 hI2 (by omega) (by omega)
        refine ⟨M3, ?_, k2, g5.tr k3⟩
        simp (disch := first | assumption | omega) only [bd_X9_quickest_50, f_X9_quickest_c64, f_X9_quickest_93, gt_83, e0, g3, oI, l_of, n_ltT, n_ltF, n_leT, n_leF, n_eqT, n_eqF, n_neM, n_Mne, n_M0, n_Mlt, n_0leM, nI_clamp, x_in_nI, n_1, nI_add, x_at, x_bd_s, x_bv_s, ↓x_lt, decide_true, decide_false, Bool.and_self, Bool.true_and, Bool.and_true, if_true, if_false, ite_true, ite_false, ↓reduceIte, not_true_eq_false, not_false_eq_true, Nat.reduceAdd, Nat.reduceMul, Nat.reduceEqDiff, eq_self, true_and, and_true, false_and, and_false, Option.some.injEq, Prod.mk.injEq, l_0, l_1, l_2, l_3, l_4, l_5, l_6, l_7, l_8, l_9, l_10, l_100, l_160, ↓m_1, ↓m_2, ↓m_3, ↓m_4, ↓m_5, ↓m_6, ↓m_7]
        exact k1
      · rw [if_neg hx]
        obtain ⟨M3, k1, k2, k3⟩ := ih N (j + 1) l f M2 (by omega) g4 hI2 (by omega) hl
        refine ⟨M3, ?_, k2, g5.tr k3⟩
        simp (disch := first | assumption | omega) only [bd_X9_quickest_50, f_X9_quickest_c64, f_X9_quickest_93, gt_83, e0, g3, oI, l_of, n_ltT, n_ltF, n_leT, n_leF, n_eqT, n_eqF, n_neM, n_Mne, n_M0, n_Mlt, n_0leM, nI_clamp, x_in_nI, n_1, nI_add, x_at, x_bd_s, x_bv_s, ↓x_lt, decide_true, decide_false, Bool.and_self, Bool.true_and, Bool.and_true, if_true, if_false, ite_true, ite_false, ↓reduceIte, not_true_eq_false, not_false_eq_true, Nat.reduceAdd, Nat.reduceMul, Nat.reduceEqDiff, eq_self, true_and, and_true, false_and, and_false, Option.some.injEq, Prod.mk.injEq, l_0, l_1, l_2, l_3, l_4, l_5, l_6, l_7, l_8, l_9, l_10, l_100, l_160, ↓m_1, ↓m_2, ↓m_3, ↓m_4, ↓m_5, ↓m_6, ↓m_7]
        exact k1
end
def sp_quickest (σ : XS) (s n : Int32) : Int32 × XS :=
  if pr σ s n = 0 then (if okS σ s n = true then (oI (qk σ s.toNatClampNeg n.toNatClampNeg (r_s (s_now σ) 0) 0 none 401), σ) else (nM 16, u_rf σ 6)) else (nM (pr σ s n + 10), u_rf σ (pr σ s n))
theorem oc_quickest {B : Nat} {σ : XS} (hW : WFS B σ) (hB : B ≤ 800000) (s n : Int32) : OpC (f_X8_quickest 20 s n) σ (sp_quickest σ s n).1 (sp_quickest σ s n).2 := by
  intro L b1 b2 M hG hI
  obtain ⟨⟨⟨e0, e1, e2, e3, e4, e5, e6, e7⟩, hc, ht⟩, hi, hsh, hrf, hft, hrn, htr⟩ := id hI
  show EndC L (f_X8_quickest 20 s n) M (sp_quickest σ s n)
  have hS := c_secs hG hI hW s n
  have hl := pr_le σ s n
  have w0 := hW.1.1.1
  unfold sp_quickest
  by_cases h0 : pr σ s n = 0
  · rw [if_pos h0] at hS ⊢
    obtain ⟨k, m, rfl, k8, k1, rfl, mb, hm⟩ := pr_0 h0
    by_cases h1 : okS σ (nI k) (nI m) = true
    · rw [if_pos h1] at hS ⊢
      rw [rz_0] at hS
      have h4 : m ≤ 40 := by
        unfold okS at h1
        rw [nI_clamp (show m < 2 ^ 31 by omega)] at h1
        exact of_decide_eq_true (Bool.and_eq_true_iff.mp h1).1
      obtain ⟨M2, g1, g2, g3⟩ := c_qk (L := L) (b1 := b1) (b2 := b2) hW hB k8 k1 hm h4 (r_s (s_now σ) 0) x_fuel 0 401 none M (fu (by omega)) hG hI (by omega) (by omega)
      rw [nI_clamp (by omega), nI_clamp (by omega)]
      refine c_w_end g2 hI (g3.mono (fun a k q => by omega)) ?_
      rw [show oI none = nM 1 from rfl] at g1
      simp (disch := first | assumption | omega) only [f_X8_quickest_96, f_X8_quickest_c67, f_X8_quickest_c60, bd_X8_quickest_31, f_X8_quickest_c13, f_X8_quickest_c3, f_X8_quickest, gt_20, gr_20_0, gr_20_5, gr_20_7, gt_21, gt_50, gl_50, gs_50, gst_67, gt_52, gr_20_6, gt_51, gl_51, hS, l_401, l_of, n_ltT, n_ltF, n_leT, n_leF, n_eqT, n_eqF, n_neM, n_Mne, n_M0, n_Mlt, n_0leM, nI_clamp, x_in_nI, n_1, nI_add, x_at, x_bd_s, x_bv_s, ↓x_lt, decide_true, decide_false, Bool.and_self, Bool.true_and, Bool.and_true, if_true, if_false, ite_true, ite_false, ↓reduceIte, not_true_eq_false, not_false_eq_true, Nat.reduceAdd, Nat.reduceMul, Nat.reduceEqDiff, eq_self, true_and, and_true, false_and, and_false, Option.some.injEq, Prod.mk.injEq, l_0, l_1, l_2, l_3, l_4, l_5, l_6, l_7, l_8, l_9, l_10, l_100, l_160, ↓m_1, ↓m_2, ↓m_3, ↓m_4, ↓m_5, ↓m_6, ↓m_7]
      exact g1
    · rw [if_neg h1] at hS ⊢
      exact c_no_end hG hI (by simp (disch := first | assumption | omega) only [f_X8_quickest_96, f_X8_quickest_c67, f_X8_quickest_c60, bd_X8_quickest_31, f_X8_quickest_c13, f_X8_quickest_c3, f_X8_quickest, gt_20, gr_20_0, gr_20_5, gr_20_7, gt_21, gt_50, gl_50, gs_50, gst_67, gt_52, gr_20_6, gt_51, gl_51, hS, c_refM, n_sub10, rz, l_of, n_ltT, n_ltF, n_leT, n_leF, n_eqT, n_eqF, n_neM, n_Mne, n_M0, n_Mlt, n_0leM, nI_clamp, x_in_nI, n_1, nI_add, x_at, x_bd_s, x_bv_s, ↓x_lt, decide_true, decide_false, Bool.and_self, Bool.true_and, Bool.and_true, if_true, if_false, ite_true, ite_false, ↓reduceIte, not_true_eq_false, not_false_eq_true, Nat.reduceAdd, Nat.reduceMul, Nat.reduceEqDiff, eq_self, true_and, and_true, false_and, and_false, Option.some.injEq, Prod.mk.injEq, l_0, l_1, l_2, l_3, l_4, l_5, l_6, l_7, l_8, l_9, l_10, l_100, l_160, ↓m_1, ↓m_2, ↓m_3, ↓m_4, ↓m_5, ↓m_6, ↓m_7])
  · rw [if_neg h0] at hS ⊢
    rw [rz_s h0] at hS
    exact c_no_end hG hI (by simp (disch := first | assumption | omega) only [f_X8_quickest_96, f_X8_quickest_c67, f_X8_quickest_c60, bd_X8_quickest_31, f_X8_quickest_c13, f_X8_quickest_c3, f_X8_quickest, gt_20, gr_20_0, gr_20_5, gr_20_7, gt_21, gt_50, gl_50, gs_50, gst_67, gt_52, gr_20_6, gt_51, gl_51, hS, c_refM, n_sub10, l_of, n_ltT, n_ltF, n_leT, n_leF, n_eqT, n_eqF, n_neM, n_Mne, n_M0, n_Mlt, n_0leM, nI_clamp, x_in_nI, n_1, nI_add, x_at, x_bd_s, x_bv_s, ↓x_lt, decide_true, decide_false, Bool.and_self, Bool.true_and, Bool.and_true, if_true, if_false, ite_true, ite_false, ↓reduceIte, not_true_eq_false, not_false_eq_true, Nat.reduceAdd, Nat.reduceMul, Nat.reduceEqDiff, eq_self, true_and, and_true, false_and, and_false, Option.some.injEq, Prod.mk.injEq, l_0, l_1, l_2, l_3, l_4, l_5, l_6, l_7, l_8, l_9, l_10, l_100, l_160, ↓m_1, ↓m_2, ↓m_3, ↓m_4, ↓m_5, ↓m_6, ↓m_7])
theorem om_quickest {B : Nat} {σ : XS} (hW : WFS B σ) (hB : B ≤ 800000) (s n : Int32) : OpM (f_X9_quickest 83 s n) σ (sp_quickest σ s n).1 (sp_quickest σ s n).2 := by
  intro L b1 b2 M hG hI hMW
  obtain ⟨⟨⟨e0, e1, e2, e3, e4, e5, e6, e7⟩, hc, ht⟩, hi, hsh, hrf, hft, hrn, htr⟩ := id hI
  show EndM L b1 b2 (f_X9_quickest 83 s n) M (sp_quickest σ s n)
  have hS := m_bars hG hI hW s n
  have hl := pr_le σ s n
  have w0 := hW.1.1.1
  unfold sp_quickest
  by_cases h0 : pr σ s n = 0
  · rw [if_pos h0]
    rw [h0, rz_0] at hS
    obtain ⟨k, m, rfl, k8, k1, rfl, mb, hm⟩ := pr_0 h0
    by_cases h4 : m ≤ 40
    · have ha := m_are hG hI hW k8 k1 hm h4
      by_cases h1 : okS σ (nI k) (nI m) = true
      · rw [if_pos h1] at ha ⊢
        obtain ⟨M2, g1, g2, g3⟩ := m_qk (L := L) (b1 := b1) (b2 := b2) hW hB k8 k1 hm h4 (r_s (s_now σ) 0) x_fuel 0 401 none M (fu (by omega)) hG hI (by omega) (by omega)
        rw [nI_clamp (by omega), nI_clamp (by omega)]
        refine m_w_end g2 hI hMW (g3.mono (fun a k q => by omega)) ?_
        rw [show oI none = nM 1 from rfl] at g1
        simp (disch := first | assumption | omega) only [f_X9_quickest_93, f_X9_quickest_c64, bd_X9_quickest_50, f_X9_quickest_29, f_X9_quickest_26, f_X9_quickest_c20, f_X9_quickest_c3, f_X9_quickest, gt_83, gr_83_9, gt_84, gl_84, hS, ha, l_40, l_401, l_of, n_ltT, n_ltF, n_leT, n_leF, n_eqT, n_eqF, n_neM, n_Mne, n_M0, n_Mlt, n_0leM, nI_clamp, x_in_nI, n_1, nI_add, x_at, x_bd_s, x_bv_s, ↓x_lt, decide_true, decide_false, Bool.and_self, Bool.true_and, Bool.and_true, if_true, if_false, ite_true, ite_false, ↓reduceIte, not_true_eq_false, not_false_eq_true, Nat.reduceAdd, Nat.reduceMul, Nat.reduceEqDiff, eq_self, true_and, and_true, false_and, and_false, Option.some.injEq, Prod.mk.injEq, l_0, l_1, l_2, l_3, l_4, l_5, l_6, l_7, l_8, l_9, l_10, l_100, l_160, ↓m_1, ↓m_2, ↓m_3, ↓m_4, ↓m_5, ↓m_6, ↓m_7]
        exact g1
      · rw [if_neg h1] at ha ⊢
        exact m_no_end hG hI hMW (by simp (disch := first | assumption | omega) only [f_X9_quickest_93, f_X9_quickest_c64, bd_X9_quickest_50, f_X9_quickest_29, f_X9_quickest_26, f_X9_quickest_c20, f_X9_quickest_c3, f_X9_quickest, gt_83, gr_83_9, gt_84, gl_84, hS, ha, m_noTen, l_40, l_of, n_ltT, n_ltF, n_leT, n_leF, n_eqT, n_eqF, n_neM, n_Mne, n_M0, n_Mlt, n_0leM, nI_clamp, x_in_nI, n_1, nI_add, x_at, x_bd_s, x_bv_s, ↓x_lt, decide_true, decide_false, Bool.and_self, Bool.true_and, Bool.and_true, if_true, if_false, ite_true, ite_false, ↓reduceIte, not_true_eq_false, not_false_eq_true, Nat.reduceAdd, Nat.reduceMul, Nat.reduceEqDiff, eq_self, true_and, and_true, false_and, and_false, Option.some.injEq, Prod.mk.injEq, l_0, l_1, l_2, l_3, l_4, l_5, l_6, l_7, l_8, l_9, l_10, l_100, l_160, ↓m_1, ↓m_2, ↓m_3, ↓m_4, ↓m_5, ↓m_6, ↓m_7])
    · have h1 : ¬ okS σ (nI k) (nI m) = true := fun q => by
        unfold okS at q
        rw [nI_clamp (show m < 2 ^ 31 by omega)] at q
        exact h4 (of_decide_eq_true (Bool.and_eq_true_iff.mp q).1)
      rw [if_neg h1]
      exact m_no_end hG hI hMW (by simp (disch := first | assumption | omega) only [f_X9_quickest_93, f_X9_quickest_c64, bd_X9_quickest_50, f_X9_quickest_29, f_X9_quickest_26, f_X9_quickest_c20, f_X9_quickest_c3, f_X9_quickest, gt_83, gr_83_9, gt_84, gl_84, hS, m_noTen, l_40, l_of, n_ltT, n_ltF, n_leT, n_leF, n_eqT, n_eqF, n_neM, n_Mne, n_M0, n_Mlt, n_0leM, nI_clamp, x_in_nI, n_1, nI_add, x_at, x_bd_s, x_bv_s, ↓x_lt, decide_true, decide_false, Bool.and_self, Bool.true_and, Bool.and_true, if_true, if_false, ite_true, ite_false, ↓reduceIte, not_true_eq_false, not_false_eq_true, Nat.reduceAdd, Nat.reduceMul, Nat.reduceEqDiff, eq_self, true_and, and_true, false_and, and_false, Option.some.injEq, Prod.mk.injEq, l_0, l_1, l_2, l_3, l_4, l_5, l_6, l_7, l_8, l_9, l_10, l_100, l_160, ↓m_1, ↓m_2, ↓m_3, ↓m_4, ↓m_5, ↓m_6, ↓m_7])
  · rw [if_neg h0]
    rw [rz_s h0] at hS
    exact m_no_end hG hI hMW (by simp (disch := first | assumption | omega) only [f_X9_quickest_93, f_X9_quickest_c64, bd_X9_quickest_50, f_X9_quickest_29, f_X9_quickest_26, f_X9_quickest_c20, f_X9_quickest_c3, f_X9_quickest, gt_83, gr_83_9, gt_84, gl_84, hS, m_noTen, l_of, n_ltT, n_ltF, n_leT, n_leF, n_eqT, n_eqF, n_neM, n_Mne, n_M0, n_Mlt, n_0leM, nI_clamp, x_in_nI, n_1, nI_add, x_at, x_bd_s, x_bv_s, ↓x_lt, decide_true, decide_false, Bool.and_self, Bool.true_and, Bool.and_true, if_true, if_false, ite_true, ite_false, ↓reduceIte, not_true_eq_false, not_false_eq_true, Nat.reduceAdd, Nat.reduceMul, Nat.reduceEqDiff, eq_self, true_and, and_true, false_and, and_false, Option.some.injEq, Prod.mk.injEq, l_0, l_1, l_2, l_3, l_4, l_5, l_6, l_7, l_8, l_9, l_10, l_100, l_160, ↓m_1, ↓m_2, ↓m_3, ↓m_4, ↓m_5, ↓m_6, ↓m_7])
