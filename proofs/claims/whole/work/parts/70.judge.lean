/-! told evenings -/
def jg (n p kd a : Nat) (br : Nat → Int32) : Nat → Nat → Nat → Nat → Nat → Option Nat × Nat
  | 0, _, _, _, b => (none, b)
  | d + 1, i, x, h, b => if n ≤ x then (some i, b) else if br i = nI (x + 1) then jg n p kd a br d (i + 1) (x + 1) h b else if br i = nI (lf p kd a x (h + 1)) then jg n p kd a br d (i + 1) (lf p kd a x (h + 1)) (h + 1) (b + 1) else (some i, b)
def jq (σ : XS) (c s n : Int32) : Nat := if qc σ c s n = 0 then (if n.toNatClampNeg ≤ 40 then 0 else 6) else qc σ c s n
theorem jq_le (σ : XS) (c s n : Int32) : jq σ c s n ≤ 6 := by
  have := qc_le σ c s n
  unfold jq; repeat' split
  all_goals omega
theorem jq_0 {σ : XS} {c s n : Int32} (h : jq σ c s n = 0) : ∃ j k m, c = nI j ∧ j < r_s (s_now σ) 0 ∧ s = nI k ∧ k < 8 ∧ s_sh σ 0 k = 1 ∧ n = nI m ∧ m ≤ s_sh σ 2 k ∧ m ≤ 40 := by
  unfold jq at h
  split at h
  · next h0 =>
    obtain ⟨j, k, m, e1, e2, e3, e4, e5, e6, e7, e8, e9⟩ := qc_0 h0
    subst e6
    rw [nI_clamp (by omega)] at h
    split at h
    · exact ⟨j, k, m, e1, e2, e3, e4, e5, rfl, e8, by omega⟩
    · omega
  · omega
def jj (σ : XS) (c k m : Nat) : Option Nat × Nat := jg (r_s (s_now σ) 1) (r_s (s_now σ) 2) (r_q (s_now σ) 0 c) (r_q (s_now σ) 1 c) (ea σ k) m 0 (r_q (s_now σ) 2 c) (r_q (s_now σ) 3 c) 0
section
variable {L : Nat} {b1 b2 : Bool} {σ : XS} {B : Nat}
theorem c_said {M : XM} (hG : Geo L b1 b2 M) (hI : CInv σ M) (hW : WFS B σ) (c s n : Int32) : f_X8_saidRefusal 20 c s n M = some (rz (jq σ c s n), M) := by
  have hC := c_isC hG hI hW c
  have hS := c_part hG hI hW s n
  have hl := qc_le σ c s n
  unfold jq
  by_cases h0 : qc σ c s n = 0
  · rw [if_pos h0]
    obtain ⟨j, k, m, rfl, hj, rfl, k8, k1, rfl, mb, hm, hp⟩ := qc_0 h0
    have w0 := hW.1.1.1
    rw [nI_clamp (by omega), if_neg (fun q => by rcases q with q | q; exact nI_pos (by omega) q; omega)] at hC
    rw [hp, rz_0] at hS
    rw [nI_clamp (by omega)]
    by_cases h4 : m ≤ 40
    · rw [if_pos h4]
      simp (disch := first | assumption | omega) only [f_X8_saidRefusal_18, f_X8_saidRefusal_c11, f_X8_saidRefusal_c2, f_X8_saidRefusal, gt_20, hC, hS, l_40, rz, l_of, n_ltT, n_ltF, n_leT, n_leF, n_eqT, n_eqF, n_neM, n_Mne, n_M0, n_Mlt, n_0leM, nI_clamp, x_in_nI, n_1, nI_add, x_at, x_bd_s, x_bv_s, ↓x_lt, decide_true, decide_false, Bool.and_self, Bool.true_and, Bool.and_true, if_true, if_false, ite_true, ite_false, ↓reduceIte, not_true_eq_false, not_false_eq_true, Nat.reduceAdd, Nat.reduceMul, Nat.reduceEqDiff, eq_self, true_and, and_true, false_and, and_false, Option.some.injEq, Prod.mk.injEq, l_0, l_1, l_2, l_3, l_4, l_5, l_6, l_7, l_8, l_9, l_10, l_100, l_160, ↓m_1, ↓m_2, ↓m_3, ↓m_4, ↓m_5, ↓m_6, ↓m_7]
    · rw [if_neg h4]
      simp (disch := first | assumption | omega) only [f_X8_saidRefusal_18, f_X8_saidRefusal_c11, f_X8_saidRefusal_c2, f_X8_saidRefusal, gt_20, hC, hS, l_40, rz, l_of, n_ltT, n_ltF, n_leT, n_leF, n_eqT, n_eqF, n_neM, n_Mne, n_M0, n_Mlt, n_0leM, nI_clamp, x_in_nI, n_1, nI_add, x_at, x_bd_s, x_bv_s, ↓x_lt, decide_true, decide_false, Bool.and_self, Bool.true_and, Bool.and_true, if_true, if_false, ite_true, ite_false, ↓reduceIte, not_true_eq_false, not_false_eq_true, Nat.reduceAdd, Nat.reduceMul, Nat.reduceEqDiff, eq_self, true_and, and_true, false_and, and_false, Option.some.injEq, Prod.mk.injEq, l_0, l_1, l_2, l_3, l_4, l_5, l_6, l_7, l_8, l_9, l_10, l_100, l_160, ↓m_1, ↓m_2, ↓m_3, ↓m_4, ↓m_5, ↓m_6, ↓m_7]
  · rw [if_neg h0]
    by_cases hc : c < nI 0 ∨ r_s (s_now σ) 0 ≤ c.toNatClampNeg
    · have e : qc σ c s n = 1 := by unfold qc; rw [if_pos hc]
      rw [if_pos hc] at hC
      rw [e]
      simp (disch := first | assumption | omega) only [f_X8_saidRefusal_18, f_X8_saidRefusal_c11, f_X8_saidRefusal_c2, f_X8_saidRefusal, gt_20, hC, rz, l_of, n_ltT, n_ltF, n_leT, n_leF, n_eqT, n_eqF, n_neM, n_Mne, n_M0, n_Mlt, n_0leM, nI_clamp, x_in_nI, n_1, nI_add, x_at, x_bd_s, x_bv_s, ↓x_lt, decide_true, decide_false, Bool.and_self, Bool.true_and, Bool.and_true, if_true, if_false, ite_true, ite_false, ↓reduceIte, not_true_eq_false, not_false_eq_true, Nat.reduceAdd, Nat.reduceMul, Nat.reduceEqDiff, eq_self, true_and, and_true, false_and, and_false, Option.some.injEq, Prod.mk.injEq, l_0, l_1, l_2, l_3, l_4, l_5, l_6, l_7, l_8, l_9, l_10, l_100, l_160, ↓m_1, ↓m_2, ↓m_3, ↓m_4, ↓m_5, ↓m_6, ↓m_7]
    · have e : qc σ c s n = pr σ s n := by unfold qc; rw [if_neg hc]
      rw [if_neg hc] at hC
      rw [e] at h0 hl ⊢
      rw [rz_s h0] at hS ⊢
      simp (disch := first | assumption | omega) only [f_X8_saidRefusal_18, f_X8_saidRefusal_c11, f_X8_saidRefusal_c2, f_X8_saidRefusal, gt_20, hC, hS, l_of, n_ltT, n_ltF, n_leT, n_leF, n_eqT, n_eqF, n_neM, n_Mne, n_M0, n_Mlt, n_0leM, nI_clamp, x_in_nI, n_1, nI_add, x_at, x_bd_s, x_bv_s, ↓x_lt, decide_true, decide_false, Bool.and_self, Bool.true_and, Bool.and_true, if_true, if_false, ite_true, ite_false, ↓reduceIte, not_true_eq_false, not_false_eq_true, Nat.reduceAdd, Nat.reduceMul, Nat.reduceEqDiff, eq_self, true_and, and_true, false_and, and_false, Option.some.injEq, Prod.mk.injEq, l_0, l_1, l_2, l_3, l_4, l_5, l_6, l_7, l_8, l_9, l_10, l_100, l_160, ↓m_1, ↓m_2, ↓m_3, ↓m_4, ↓m_5, ↓m_6, ↓m_7]
theorem m_barsOf {M : XM} (hG : Geo L b1 b2 M) (hI : MInv σ M) (hW : WFS B σ) (c s n : Int32) : f_X9_barsOf 83 c s n M = some (rz (jq σ c s n), M) := by
  have hC := m_isC hG hI hW c
  have hS := m_bars hG hI hW s n
  have hl := qc_le σ c s n
  unfold jq
  by_cases h0 : qc σ c s n = 0
  · rw [if_pos h0]
    obtain ⟨j, k, m, rfl, hj, rfl, k8, k1, rfl, mb, hm, hp⟩ := qc_0 h0
    have w0 := hW.1.1.1
    have hs : f_X9_isShelf 83 (nI k) M = some (nI 1, M) := by simp (disch := first | assumption | omega) only [f_X9_isShelf, l_of, n_ltT, n_ltF, n_leT, n_leF, n_eqT, n_eqF, n_neM, n_Mne, n_M0, n_Mlt, n_0leM, nI_clamp, x_in_nI, n_1, nI_add, x_at, x_bd_s, x_bv_s, ↓x_lt, decide_true, decide_false, Bool.and_self, Bool.true_and, Bool.and_true, if_true, if_false, ite_true, ite_false, ↓reduceIte, not_true_eq_false, not_false_eq_true, Nat.reduceAdd, Nat.reduceMul, Nat.reduceEqDiff, eq_self, true_and, and_true, false_and, and_false, Option.some.injEq, Prod.mk.injEq, l_0, l_1, l_2, l_3, l_4, l_5, l_6, l_7, l_8, l_9, l_10, l_100, l_160, ↓m_1, ↓m_2, ↓m_3, ↓m_4, ↓m_5, ↓m_6, ↓m_7]
    rw [nI_clamp (by omega), if_neg (fun q => by rcases q with q | q; exact nI_pos (by omega) q; omega)] at hC
    rw [hp, rz_0] at hS
    rw [nI_clamp (by omega)]
    by_cases h4 : m ≤ 40
    · rw [if_pos h4]
      simp (disch := first | assumption | omega) only [f_X9_barsOf_26, f_X9_barsOf_c23, f_X9_barsOf_20, f_X9_barsOf_c10, f_X9_barsOf_c2, f_X9_barsOf, gt_83, hC, hS, hs, l_40, rz, l_of, n_ltT, n_ltF, n_leT, n_leF, n_eqT, n_eqF, n_neM, n_Mne, n_M0, n_Mlt, n_0leM, nI_clamp, x_in_nI, n_1, nI_add, x_at, x_bd_s, x_bv_s, ↓x_lt, decide_true, decide_false, Bool.and_self, Bool.true_and, Bool.and_true, if_true, if_false, ite_true, ite_false, ↓reduceIte, not_true_eq_false, not_false_eq_true, Nat.reduceAdd, Nat.reduceMul, Nat.reduceEqDiff, eq_self, true_and, and_true, false_and, and_false, Option.some.injEq, Prod.mk.injEq, l_0, l_1, l_2, l_3, l_4, l_5, l_6, l_7, l_8, l_9, l_10, l_100, l_160, ↓m_1, ↓m_2, ↓m_3, ↓m_4, ↓m_5, ↓m_6, ↓m_7]
    · rw [if_neg h4]
      simp (disch := first | assumption | omega) only [f_X9_barsOf_26, f_X9_barsOf_c23, f_X9_barsOf_20, f_X9_barsOf_c10, f_X9_barsOf_c2, f_X9_barsOf, gt_83, hC, hS, hs, l_40, rz, l_of, n_ltT, n_ltF, n_leT, n_leF, n_eqT, n_eqF, n_neM, n_Mne, n_M0, n_Mlt, n_0leM, nI_clamp, x_in_nI, n_1, nI_add, x_at, x_bd_s, x_bv_s, ↓x_lt, decide_true, decide_false, Bool.and_self, Bool.true_and, Bool.and_true, if_true, if_false, ite_true, ite_false, ↓reduceIte, not_true_eq_false, not_false_eq_true, Nat.reduceAdd, Nat.reduceMul, Nat.reduceEqDiff, eq_self, true_and, and_true, false_and, and_false, Option.some.injEq, Prod.mk.injEq, l_0, l_1, l_2, l_3, l_4, l_5, l_6, l_7, l_8, l_9, l_10, l_100, l_160, ↓m_1, ↓m_2, ↓m_3, ↓m_4, ↓m_5, ↓m_6, ↓m_7]
  · rw [if_neg h0]
    by_cases hc : c < nI 0 ∨ r_s (s_now σ) 0 ≤ c.toNatClampNeg
    · have e : qc σ c s n = 1 := by unfold qc; rw [if_pos hc]
      rw [if_pos hc] at hC
      rw [e]
      rcases m_isS σ s n hG with ⟨hs, hp⟩ | hs
      · rw [hp, rz_s (by omega)] at hS
        simp (disch := first | assumption | omega) only [f_X9_barsOf_26, f_X9_barsOf_c23, f_X9_barsOf_20, f_X9_barsOf_c10, f_X9_barsOf_c2, f_X9_barsOf, gt_83, hS, hs, rz, l_of, n_ltT, n_ltF, n_leT, n_leF, n_eqT, n_eqF, n_neM, n_Mne, n_M0, n_Mlt, n_0leM, nI_clamp, x_in_nI, n_1, nI_add, x_at, x_bd_s, x_bv_s, ↓x_lt, decide_true, decide_false, Bool.and_self, Bool.true_and, Bool.and_true, if_true, if_false, ite_true, ite_false, ↓reduceIte, not_true_eq_false, not_false_eq_true, Nat.reduceAdd, Nat.reduceMul, Nat.reduceEqDiff, eq_self, true_and, and_true, false_and, and_false, Option.some.injEq, Prod.mk.injEq, l_0, l_1, l_2, l_3, l_4, l_5, l_6, l_7, l_8, l_9, l_10, l_100, l_160, ↓m_1, ↓m_2, ↓m_3, ↓m_4, ↓m_5, ↓m_6, ↓m_7]
      · simp (disch := first | assumption | omega) only [f_X9_barsOf_26, f_X9_barsOf_c23, f_X9_barsOf_20, f_X9_barsOf_c10, f_X9_barsOf_c2, f_X9_barsOf, gt_83, hC, hs, rz, l_of, n_ltT, n_ltF, n_leT, n_leF, n_eqT, n_eqF, n_neM, n_Mne, n_M0, n_Mlt, n_0leM, nI_clamp, x_in_nI, n_1, nI_add, x_at, x_bd_s, x_bv_s, ↓x_lt, decide_true, decide_false, Bool.and_self, Bool.true_and, Bool.and_true, if_true, if_false, ite_true, ite_false, ↓reduceIte, not_true_eq_false, not_false_eq_true, Nat.reduceAdd, Nat.reduceMul, Nat.reduceEqDiff, eq_self, true_and, and_true, false_and, and_false, Option.some.injEq, Prod.mk.injEq, l_0, l_1, l_2, l_3, l_4, l_5, l_6, l_7, l_8, l_9, l_10, l_100, l_160, ↓m_1, ↓m_2, ↓m_3, ↓m_4, ↓m_5, ↓m_6, ↓m_7]
    · have e : qc σ c s n = pr σ s n := by unfold qc; rw [if_neg hc]
      rw [if_neg hc] at hC
      rw [e] at h0 hl ⊢
      rw [rz_s h0] at hS ⊢
      rcases m_isS σ s n hG with ⟨hs, hp⟩ | hs
      · simp (disch := first | assumption | omega) only [f_X9_barsOf_26, f_X9_barsOf_c23, f_X9_barsOf_20, f_X9_barsOf_c10, f_X9_barsOf_c2, f_X9_barsOf, gt_83, hS, hs, l_of, n_ltT, n_ltF, n_leT, n_leF, n_eqT, n_eqF, n_neM, n_Mne, n_M0, n_Mlt, n_0leM, nI_clamp, x_in_nI, n_1, nI_add, x_at, x_bd_s, x_bv_s, ↓x_lt, decide_true, decide_false, Bool.and_self, Bool.true_and, Bool.and_true, if_true, if_false, ite_true, ite_false, ↓reduceIte, not_true_eq_false, not_false_eq_true, Nat.reduceAdd, Nat.reduceMul, Nat.reduceEqDiff, eq_self, true_and, and_true, false_and, and_false, Option.some.injEq, Prod.mk.injEq, l_0, l_1, l_2, l_3, l_4, l_5, l_6, l_7, l_8, l_9, l_10, l_100, l_160, ↓m_1, ↓m_2, ↓m_3, ↓m_4, ↓m_5, ↓m_6, ↓m_7]
      · simp (disch := first | assumption | omega) only [f_X9_barsOf_26, f_X9_barsOf_c23, f_X9_barsOf_20, f_X9_barsOf_c10, f_X9_barsOf_c2, f_X9_barsOf, gt_83, hC, hS, hs, l_of, n_ltT, n_ltF, n_leT, n_leF, n_eqT, n_eqF, n_neM, n_Mne, n_M0, n_Mlt, n_0leM, nI_clamp, x_in_nI, n_1, nI_add, x_at, x_bd_s, x_bv_s, ↓x_lt, decide_true, decide_false, Bool.and_self, Bool.true_and, Bool.and_true, if_true, if_false, ite_true, ite_false, ↓reduceIte, not_true_eq_false, not_false_eq_true, Nat.reduceAdd, Nat.reduceMul, Nat.reduceEqDiff, eq_self, true_and, and_true, false_and, and_false, Option.some.injEq, Prod.mk.injEq, l_0, l_1, l_2, l_3, l_4, l_5, l_6, l_7, l_8, l_9, l_10, l_100, l_160, ↓m_1, ↓m_2, ↓m_3, ↓m_4, ↓m_5, ↓m_6, ↓m_7]
theorem CO.fr {v kd a x : Nat} {o : Int32} {h : Nat} {M M' : XM} (hc : CO v kd a x o h M) (hx : ∀ k, x_i M' v k = x_i M v k) : CO v kd a x o h M' :=
  ⟨(hx _).trans hc.1, (hx _).trans hc.2.1, (hx _).trans hc.2.2.1, (hx _).trans hc.2.2.2.1, (hx _).trans hc.2.2.2.2⟩
set_option maxHeartbeats 800000 in
theorem c_jg {k z m n p kd a H : Nat} (hk : k < 8) (hz : z ≤ 160) (hm : m ≤ z) (hn : n ≤ 200) (hkd : kd ≤ 6) (ha : a ≤ 9) (hp : 1 ≤ p) (hp2 : p ≤ 200) (hH : H ≤ 800000) (hm4 : m ≤ 40) (d : Nat) : ∀ (N i x h b : Nat) (o : Int32) (M : XM), d < N → Geo L b1 b2 M → x_i M 21 2 = nI n → x_i M 21 3 = nI p → x_i M (67 + 2 * k) 2 = nI z → (∀ i, i < 160 → x_j M (68 + 2 * k) i = s_el σ k i) → CO 62 kd a x o h M → i + d = m → x ≤ n → h = H + b → b ≤ i →
    ∃ M' o', lp_X8_firstWrong_19 N 20 (nI k) (nI m) (nI i) M = some (oI (jg n p kd a (ea σ k) d i x h b).1, M') ∧ Geo L b1 b2 M' ∧ x_i M' 62 4 = nI (H + (jg n p kd a (ea σ k) d i x h b).2) ∧ o' = (0 : Nat) ∧ Fr (fun a _ => a = 62) M M' := by
  induction d with
  | zero =>
    intro N i x h b o M hN hG en ep p3 p4 hO hi hx hh hb
    obtain ⟨N, rfl⟩ : ∃ i, N = i + 1 := ⟨N - 1, by omega⟩
    refine ⟨M, 0, ?_, hG, ?_, rfl, Fr.rf⟩
    · rw [s_lp_X8_firstWrong_19, show i = m by omega]
      simp (disch := first | assumption | omega) only [bd_X8_firstWrong_19, jg, oI, l_of, n_ltT, n_ltF, n_leT, n_leF, n_eqT, n_eqF, n_neM, n_Mne, n_M0, n_Mlt, n_0leM, nI_clamp, x_in_nI, n_1, nI_add, x_at, x_bd_s, x_bv_s, ↓x_lt, decide_true, decide_false, Bool.and_self, Bool.true_and, Bool.and_true, if_true, if_false, ite_true, ite_false, ↓reduceIte, not_true_eq_false, not_false_eq_true, Nat.reduceAdd, Nat.reduceMul, Nat.reduceEqDiff, eq_self, true_and, and_true, false_and, and_false, Option.some.injEq, Prod.mk.injEq, l_0, l_1, l_2, l_3, l_4, l_5, l_6, l_7, l_8, l_9, l_10, l_100, l_160, ↓m_1, ↓m_2, ↓m_3, ↓m_4, ↓m_5, ↓m_6, ↓m_7]
    · exact hO.2.2.2.2.trans (by rw [hh]; rfl)
  | succ d ih =>
    intro N i x h b o M hN hG en ep p3 p4 hO hi hx hh hb
    obtain ⟨N, rfl⟩ : ∃ i, N = i + 1 := ⟨N - 1, by omega⟩
    have hin := c_int (i := i) hG hk hz p3 p4 (by omega)
    obtain ⟨d0, d1, d2, d3, d4⟩ := id hO
    have hl := lf_le p kd a x (h + 1)
    rw [s_lp_X8_firstWrong_19]
    unfold jg
    by_cases h1 : n ≤ x
    · rw [if_pos h1]
      refine ⟨M, 0, ?_, hG, by rw [d4, hh], rfl, Fr.rf⟩
      simp (disch := first | assumption | omega) only [bd_X8_firstWrong_19, gt_20, gr_20_0, gr_20_5, gr_20_10, gt_21, gr_21_0, gt_22, gl_22, gc_22, gct_24, gt_50, gl_50, gs_50, gst_67, gt_62, gr_20_6, gt_51, gl_51, en, d2, oI, l_of, n_ltT, n_ltF, n_leT, n_leF, n_eqT, n_eqF, n_neM, n_Mne, n_M0, n_Mlt, n_0leM, nI_clamp, x_in_nI, n_1, nI_add, x_at, x_bd_s, x_bv_s, ↓x_lt, decide_true, decide_false, Bool.and_self, Bool.true_and, Bool.and_true, if_true, if_false, ite_true, ite_false, ↓reduceIte, not_true_eq_false, not_false_eq_true, Nat.reduceAdd, Nat.reduceMul, Nat.reduceEqDiff, eq_self, true_and, and_true, false_and, and_false, Option.some.injEq, Prod.mk.injEq, l_0, l_1, l_2, l_3, l_4, l_5, l_6, l_7, l_8, l_9, l_10, l_100, l_160, ↓m_1, ↓m_2, ↓m_3, ↓m_4, ↓m_5, ↓m_6, ↓m_7]
    rw [if_neg h1]
    by_cases h2 : ea σ k i = nI (x + 1)
    · rw [if_pos h2]
      have f0 : Fr (fun a _ => a = 62) M (x_wi M 62 2 (nI (x + 1))) := Fr.rf.wi (by omega)
      obtain ⟨M2, o', g1, g2, g3, g4, g5⟩ := ih N (i + 1) (x + 1) h b o (x_wi M 62 2 (nI (x + 1))) (by omega) hG ((f0.1 _ _ (by omega)).trans en) ((f0.1 _ _ (by omega)).trans ep) ((f0.1 _ _ (by omega)).trans p3) p4 ⟨by simp (disch := first | assumption | omega) only [ii_wi, ji_wi, ri_wi, ti_wi, li_wi, ii_wj, ji_wj, ri_wj, ti_wj, li_wj, l_of, n_ltT, n_ltF, n_leT, n_leF, n_eqT, n_eqF, n_neM, n_Mne, n_M0, n_Mlt, n_0leM, nI_clamp, x_in_nI, n_1, nI_add, x_at, x_bd_s, x_bv_s, ↓x_lt, decide_true, decide_false, Bool.and_self, Bool.true_and, Bool.and_true, if_true, if_false, ite_true, ite_false, ↓reduceIte, not_true_eq_false, not_false_eq_true, Nat.reduceAdd, Nat.reduceMul, Nat.reduceEqDiff, eq_self, true_and, and_true, false_and, and_false, Option.some.injEq, Prod.mk.injEq, l_0, l_1, l_2, l_3, l_4, l_5, l_6, l_7, l_8, l_9, l_10, l_100, l_160, ↓m_1, ↓m_2, ↓m_3, ↓m_4, ↓m_5, ↓m_6, ↓m_7]; exact d0, by simp (disch := first | assumption | omega) only [ii_wi, ji_wi, ri_wi, ti_wi, li_wi, ii_wj, ji_wj, ri_wj, ti_wj, li_wj, l_of, n_ltT, n_ltF, n_leT, n_leF, n_eqT, n_eqF, n_neM, n_Mne, n_M0, n_Mlt, n_0leM, nI_clamp, x_in_nI, n_1, nI_add, x_at, x_bd_s, x_bv_s, ↓x_lt, decide_true, decide_false, Bool.and_self, Bool.true_and, Bool.and_true, if_true, if_false, ite_true, ite_false, ↓reduceIte, not_true_eq_false, not_false_eq_true, Nat.reduceAdd, Nat.reduceMul, Nat.reduceEqDiff, eq_self, true_and, and_true, false_and, and_false, Option.some.injEq, Prod.mk.injEq, l_0, l_1, l_2, l_3, l_4, l_5, l_6, l_7, l_8, l_9, l_10, l_100, l_160, ↓m_1, ↓m_2, ↓m_3, ↓m_4, ↓m_5, ↓m_6, ↓m_7]; exact d1, by simp (disch := first | assumption | omega) only [ii_wi, ji_wi, ri_wi, ti_wi, li_wi, ii_wj, ji_wj, ri_wj, ti_wj, li_wj, l_of, n_ltT, n_ltF, n_leT, n_leF, n_eqT, n_eqF, n_neM, n_Mne, n_M0, n_Mlt, n_0leM, nI_clamp, x_in_nI, n_1, nI_add, x_at, x_bd_s, x_bv_s, ↓x_lt, decide_true, decide_false, Bool.and_self, Bool.true_and, Bool.and_true, if_true, if_false, ite_true, ite_false, ↓reduceIte, not_true_eq_false, not_false_eq_true, Nat.reduceAdd, Nat.reduceMul, Nat.reduceEqDiff, eq_self, true_and, and_true, false_and, and_false, Option.some.injEq, Prod.mk.injEq, l_0, l_1, l_2, l_3, l_4, l_5, l_6, l_7, l_8, l_9, l_10, l_100, l_160, ↓m_1, ↓m_2, ↓m_3, ↓m_4, ↓m_5, ↓m_6, ↓m_7], by simp (disch := first | assumption | omega) only [ii_wi, ji_wi, ri_wi, ti_wi, li_wi, ii_wj, ji_wj, ri_wj, ti_wj, li_wj, l_of, n_ltT, n_ltF, n_leT, n_leF, n_eqT, n_eqF, n_neM, n_Mne, n_M0, n_Mlt, n_0leM, nI_clamp, x_in_nI, n_1, nI_add, x_at, x_bd_s, x_bv_s, ↓x_lt, decide_true, decide_false, Bool.and_self, Bool.true_and, Bool.and_true, if_true, if_false, ite_true, ite_false, ↓reduceIte, not_true_eq_false, not_false_eq_true, Nat.reduceAdd, Nat.reduceMul, Nat.reduceEqDiff, eq_self, true_and, and_true, false_and, and_false, Option.some.injEq, Prod.mk.injEq, l_0, l_1, l_2, l_3, l_4, l_5, l_6, l_7, l_8, l_9, l_10, l_100, l_160, ↓m_1, ↓m_2, ↓m_3, ↓m_4, ↓m_5, ↓m_6, ↓m_7]; exact d3, by simp (disch := first | assumption | omega) only [ii_wi, ji_wi, ri_wi, ti_wi, li_wi, ii_wj, ji_wj, ri_wj, ti_wj, li_wj, l_of, n_ltT, n_ltF, n_leT, n_leF, n_eqT, n_eqF, n_neM, n_Mne, n_M0, n_Mlt, n_0leM, nI_clamp, x_in_nI, n_1, nI_add, x_at, x_bd_s, x_bv_s, ↓x_lt, decide_true, decide_false, Bool.and_self, Bool.true_and, Bool.and_true, if_true, if_false, ite_true, ite_false, ↓reduceIte, not_true_eq_false, not_false_eq_true, Nat.reduceAdd, Nat.reduceMul, Nat.reduceEqDiff, eq_self, true_and, and_true, false_and, and_false, Option.some.injEq, Prod.mk.injEq, l_0, l_1, l_2, l_3, l_4, l_5, l_6, l_7, l_8, l_9, l_10, l_100, l_160, ↓m_1, ↓m_2, ↓m_3, ↓m_4, ↓m_5, ↓m_6, ↓m_7]; exact d4⟩ (by omega) (by omega) hh (by omega)
      refine ⟨M2, o', ?_, g2, g3, g4, f0.tr g5⟩
      rw [h2] at hin
      simp (disch := first | assumption | omega) only [bd_X8_firstWrong_19, f_X8_firstWrong_c53, f_X8_firstWrong_139, gt_20, gr_20_0, gr_20_5, gr_20_10, gt_21, gr_21_0, gt_22, gl_22, gc_22, gct_24, gt_50, gl_50, gs_50, gst_67, gt_62, gr_20_6, gt_51, gl_51, en, d2, hin, l_of, n_ltT, n_ltF, n_leT, n_leF, n_eqT, n_eqF, n_neM, n_Mne, n_M0, n_Mlt, n_0leM, nI_clamp, x_in_nI, n_1, nI_add, x_at, x_bd_s, x_bv_s, ↓x_lt, decide_true, decide_false, Bool.and_self, Bool.true_and, Bool.and_true, if_true, if_false, ite_true, ite_false, ↓reduceIte, not_true_eq_false, not_false_eq_true, Nat.reduceAdd, Nat.reduceMul, Nat.reduceEqDiff, eq_self, true_and, and_true, false_and, and_false, Option.some.injEq, Prod.mk.injEq, l_0, l_1, l_2, l_3, l_4, l_5, l_6, l_7, l_8, l_9, l_10, l_100, l_160, ↓m_1, ↓m_2, ↓m_3, ↓m_4, ↓m_5, ↓m_6, ↓m_7]
      exact g1
    rw [if_neg h2]
    have hlf := c_left (M := M) (v0 := 62) (kd := kd) (a := a) (x := x) (h := h + 1) (p := p) (gt_62 hG) d0 d1 hkd ha (by omega) (by omega) hp hp2
    by_cases h3 : ea σ k i = nI (lf p kd a x (h + 1))
    · rw [if_pos h3]
      have hr := c_hear (M := M) (v0 := 62) (kd := kd) (a := a) (x := x) (h := h) (p := p) (o := o) (gt_62 hG) hO hkd ha (by omega) (by omega) hp hp2
      have f0 : Fr (fun a _ => a = 62) M (x_wi (x_wi (x_wi M 62 4 (nI (h + 1))) 62 2 (nI (lf p kd a x (h + 1)))) 62 3 (of kd a o)) := ((Fr.rf.wi (by omega)).wi (by omega)).wi (by omega)
      have hr : f_X2_hear 62 (nI p) M = some (x_wi (x_wi (x_wi M 62 4 (nI (h + 1))) 62 2 (nI (lf p kd a x (h + 1)))) 62 3 (of kd a o)) := hr
      obtain ⟨M2, o', g1, g2, g3, g4, g5⟩ := ih N (i + 1) (lf p kd a x (h + 1)) (h + 1) (b + 1) (of kd a o) (x_wi (x_wi (x_wi M 62 4 (nI (h + 1))) 62 2 (nI (lf p kd a x (h + 1)))) 62 3 (of kd a o)) (by omega) hG ((f0.1 _ _ (by omega)).trans en) ((f0.1 _ _ (by omega)).trans ep) ((f0.1 _ _ (by omega)).trans p3) p4 ⟨by simp (disch := first | assumption | omega) only [ii_wi, ji_wi, ri_wi, ti_wi, li_wi, ii_wj, ji_wj, ri_wj, ti_wj, li_wj, l_of, n_ltT, n_ltF, n_leT, n_leF, n_eqT, n_eqF, n_neM, n_Mne, n_M0, n_Mlt, n_0leM, nI_clamp, x_in_nI, n_1, nI_add, x_at, x_bd_s, x_bv_s, ↓x_lt, decide_true, decide_false, Bool.and_self, Bool.true_and, Bool.and_true, if_true, if_false, ite_true, ite_false, ↓reduceIte, not_true_eq_false, not_false_eq_true, Nat.reduceAdd, Nat.reduceMul, Nat.reduceEqDiff, eq_self, true_and, and_true, false_and, and_false, Option.some.injEq, Prod.mk.injEq, l_0, l_1, l_2, l_3, l_4, l_5, l_6, l_7, l_8, l_9, l_10, l_100, l_160, ↓m_1, ↓m_2, ↓m_3, ↓m_4, ↓m_5, ↓m_6, ↓m_7]; exact d0, by simp (disch := first | assumption | omega) only [ii_wi, ji_wi, ri_wi, ti_wi, li_wi, ii_wj, ji_wj, ri_wj, ti_wj, li_wj, l_of, n_ltT, n_ltF, n_leT, n_leF, n_eqT, n_eqF, n_neM, n_Mne, n_M0, n_Mlt, n_0leM, nI_clamp, x_in_nI, n_1, nI_add, x_at, x_bd_s, x_bv_s, ↓x_lt, decide_true, decide_false, Bool.and_self, Bool.true_and, Bool.and_true, if_true, if_false, ite_true, ite_false, ↓reduceIte, not_true_eq_false, not_false_eq_true, Nat.reduceAdd, Nat.reduceMul, Nat.reduceEqDiff, eq_self, true_and, and_true, false_and, and_false, Option.some.injEq, Prod.mk.injEq, l_0, l_1, l_2, l_3, l_4, l_5, l_6, l_7, l_8, l_9, l_10, l_100, l_160, ↓m_1, ↓m_2, ↓m_3, ↓m_4, ↓m_5, ↓m_6, ↓m_7]; exact d1, by simp (disch := first | assumption | omega) only [ii_wi, ji_wi, ri_wi, ti_wi, li_wi, ii_wj, ji_wj, ri_wj, ti_wj, li_wj, l_of, n_ltT, n_ltF, n_leT, n_leF, n_eqT, n_eqF, n_neM, n_Mne, n_M0, n_Mlt, n_0leM, nI_clamp, x_in_nI, n_1, nI_add, x_at, x_bd_s, x_bv_s, ↓x_lt, decide_true, decide_false, Bool.and_self, Bool.true_and, Bool.and_true, if_true, if_false, ite_true, ite_false, ↓reduceIte, not_true_eq_false, not_false_eq_true, Nat.reduceAdd, Nat.reduceMul, Nat.reduceEqDiff, eq_self, true_and, and_true, false_and, and_false, Option.some.injEq, Prod.mk.injEq, l_0, l_1, l_2, l_3, l_4, l_5, l_6, l_7, l_8, l_9, l_10, l_100, l_160, ↓m_1, ↓m_2, ↓m_3, ↓m_4, ↓m_5, ↓m_6, ↓m_7], by simp (disch := first | assumption | omega) only [ii_wi, ji_wi, ri_wi, ti_wi, li_wi, ii_wj, ji_wj, ri_wj, ti_wj, li_wj, l_of, n_ltT, n_ltF, n_leT, n_leF, n_eqT, n_eqF, n_neM, n_Mne, n_M0, n_Mlt, n_0leM, nI_clamp, x_in_nI, n_1, nI_add, x_at, x_bd_s, x_bv_s, ↓x_lt, decide_true, decide_false, Bool.and_self, Bool.true_and, Bool.and_true, if_true, if_false, ite_true, ite_false, ↓reduceIte, not_true_eq_false, not_false_eq_true, Nat.reduceAdd, Nat.reduceMul, Nat.reduceEqDiff, eq_self, true_and, and_true, false_and, and_false, Option.some.injEq, Prod.mk.injEq, l_0, l_1, l_2, l_3, l_4, l_5, l_6, l_7, l_8, l_9, l_10, l_100, l_160, ↓m_1, ↓m_2, ↓m_3, ↓m_4, ↓m_5, ↓m_6, ↓m_7], by simp (disch := first | assumption | omega) only [ii_wi, ji_wi, ri_wi, ti_wi, li_wi, ii_wj, ji_wj, ri_wj, ti_wj, li_wj, l_of, n_ltT, n_ltF, n_leT, n_leF, n_eqT, n_eqF, n_neM, n_Mne, n_M0, n_Mlt, n_0leM, nI_clamp, x_in_nI, n_1, nI_add, x_at, x_bd_s, x_bv_s, ↓x_lt, decide_true, decide_false, Bool.and_self, Bool.true_and, Bool.and_true, if_true, if_false, ite_true, ite_false, ↓reduceIte, not_true_eq_false, not_false_eq_true, Nat.reduceAdd, Nat.reduceMul, Nat.reduceEqDiff, eq_self, true_and, and_true, false_and, and_false, Option.some.injEq, Prod.mk.injEq, l_0, l_1, l_2, l_3, l_4, l_5, l_6, l_7, l_8, l_9, l_10, l_100, l_160, ↓m_1, ↓m_2, ↓m_3, ↓m_4, ↓m_5, ↓m_6, ↓m_7]⟩ (by omega) (by omega) (by omega) (by omega)
      refine ⟨M2, o', ?_, g2, g3, g4, f0.tr g5⟩
      rw [h3] at hin h2
      simp (disch := first | assumption | omega) only [bd_X8_firstWrong_19, f_X8_firstWrong_c53, f_X8_firstWrong_c113, f_X8_firstWrong_c130, f_X8_firstWrong_139, gt_20, gr_20_0, gr_20_5, gr_20_10, gt_21, gr_21_0, gt_22, gl_22, gc_22, gct_24, gt_50, gl_50, gs_50, gst_67, gt_62, gr_20_6, gt_51, gl_51, en, ep, d2, d4, hin, h2, hlf, hr, l_of, n_ltT, n_ltF, n_leT, n_leF, n_eqT, n_eqF, n_neM, n_Mne, n_M0, n_Mlt, n_0leM, nI_clamp, x_in_nI, n_1, nI_add, x_at, x_bd_s, x_bv_s, ↓x_lt, decide_true, decide_false, Bool.and_self, Bool.true_and, Bool.and_true, if_true, if_false, ite_true, ite_false, ↓reduceIte, not_true_eq_false, not_false_eq_true, Nat.reduceAdd, Nat.reduceMul, Nat.reduceEqDiff, eq_self, true_and, and_true, false_and, and_false, Option.some.injEq, Prod.mk.injEq, l_0, l_1, l_2, l_3, l_4, l_5, l_6, l_7, l_8, l_9, l_10, l_100, l_160, ↓m_1, ↓m_2, ↓m_3, ↓m_4, ↓m_5, ↓m_6, ↓m_7]
      exact g1
    · rw [if_neg h3]
      refine ⟨M, 0, ?_, hG, by rw [d4, hh], rfl, Fr.rf⟩
      simp (disch := first | assumption | omega) only [bd_X8_firstWrong_19, f_X8_firstWrong_c53, f_X8_firstWrong_c113, gt_20, gr_20_0, gr_20_5, gr_20_10, gt_21, gr_21_0, gt_22, gl_22, gc_22, gct_24, gt_50, gl_50, gs_50, gst_67, gt_62, gr_20_6, gt_51, gl_51, en, ep, d2, d4, hin, h2, h3, hlf, oI, l_of, n_ltT, n_ltF, n_leT, n_leF, n_eqT, n_eqF, n_neM, n_Mne, n_M0, n_Mlt, n_0leM, nI_clamp, x_in_nI, n_1, nI_add, x_at, x_bd_s, x_bv_s, ↓x_lt, decide_true, decide_false, Bool.and_self, Bool.true_and, Bool.and_true, if_true, if_false, ite_true, ite_false, ↓reduceIte, not_true_eq_false, not_false_eq_true, Nat.reduceAdd, Nat.reduceMul, Nat.reduceEqDiff, eq_self, true_and, and_true, false_and, and_false, Option.some.injEq, Prod.mk.injEq, l_0, l_1, l_2, l_3, l_4, l_5, l_6, l_7, l_8, l_9, l_10, l_100, l_160, ↓m_1, ↓m_2, ↓m_3, ↓m_4, ↓m_5, ↓m_6, ↓m_7]
theorem c_fw {M : XM} {j k m : Nat} (hG : Geo L b1 b2 M) (hI : CInv σ M) (hW : WFS B σ) (hB : B ≤ 800000) (hj : j < r_s (s_now σ) 0) (hk : k < 8) (h1 : s_sh σ 0 k = 1) (hm : m ≤ s_sh σ 2 k) (h4 : m ≤ 40) :
    ∃ M', f_X8_firstWrong 20 (nI j) (nI k) (nI m) M = some (oI (jj σ j k m).1, M') ∧ Geo L b1 b2 M' ∧ x_i M' 62 4 = nI (r_q (s_now σ) 3 j + (jj σ j k m).2) ∧ Fr (fun a _ => a = 62) M M' := by
  obtain ⟨p1, p2, p3, p4⟩ := (hI.2.2.1 k hk).2.1 h1
  obtain ⟨z1, z2⟩ := (hW.2.2.1 k hk).2.1 h1
  obtain ⟨⟨w0, w1, w2, w3, w4, w5, w6, w7⟩, wc, wl, wtt⟩ := id hW.1
  obtain ⟨y1, y2, y3, y4⟩ := wc j (by omega)
  have y5 := wl j hj
  have e1 := hI.1.1.2.1
  have e2 := hI.1.1.2.2.1
  obtain ⟨q1, q2, q3, q4, q5⟩ := hI.1.2.1 j (by omega)
  have f0 : Fr (fun a _ => a = 62) M (x_wi (x_wi (x_wi (x_wi (x_wi M 62 0 (nI (r_q (s_now σ) 0 j))) 62 1 (nI (r_q (s_now σ) 1 j))) 62 2 (nI (r_q (s_now σ) 2 j))) 62 3 (r_off (s_now σ) j)) 62 4 (nI (r_q (s_now σ) 3 j))) := ((((Fr.rf.wi (by omega)).wi (by omega)).wi (by omega)).wi (by omega)).wi (by omega)
  obtain ⟨M2, o', g1, g2, g3, g4, g5⟩ := c_jg (L := L) (b1 := b1) (b2 := b2) (σ := σ) hk z2 hm w2 y1 y2 w3 w4 (show r_q (s_now σ) 3 j ≤ 800000 by omega) h4 m x_fuel 0 (r_q (s_now σ) 2 j) (r_q (s_now σ) 3 j) 0 (r_off (s_now σ) j) (x_wi (x_wi (x_wi (x_wi (x_wi M 62 0 (nI (r_q (s_now σ) 0 j))) 62 1 (nI (r_q (s_now σ) 1 j))) 62 2 (nI (r_q (s_now σ) 2 j))) 62 3 (r_off (s_now σ) j)) 62 4 (nI (r_q (s_now σ) 3 j))) (fu (by omega)) hG ((f0.1 _ _ (by omega)).trans e1) ((f0.1 _ _ (by omega)).trans e2) ((f0.1 _ _ (by omega)).trans p3) p4 ⟨by simp (disch := first | assumption | omega) only [ii_wi, ji_wi, ri_wi, ti_wi, li_wi, ii_wj, ji_wj, ri_wj, ti_wj, li_wj, l_of, n_ltT, n_ltF, n_leT, n_leF, n_eqT, n_eqF, n_neM, n_Mne, n_M0, n_Mlt, n_0leM, nI_clamp, x_in_nI, n_1, nI_add, x_at, x_bd_s, x_bv_s, ↓x_lt, decide_true, decide_false, Bool.and_self, Bool.true_and, Bool.and_true, if_true, if_false, ite_true, ite_false, ↓reduceIte, not_true_eq_false, not_false_eq_true, Nat.reduceAdd, Nat.reduceMul, Nat.reduceEqDiff, eq_self, true_and, and_true, false_and, and_false, Option.some.injEq, Prod.mk.injEq, l_0, l_1, l_2, l_3, l_4, l_5, l_6, l_7, l_8, l_9, l_10, l_100, l_160, ↓m_1, ↓m_2, ↓m_3, ↓m_4, ↓m_5, ↓m_6, ↓m_7], by simp (disch := first | assumption | omega) only [ii_wi, ji_wi, ri_wi, ti_wi, li_wi, ii_wj, ji_wj, ri_wj, ti_wj, li_wj, l_of, n_ltT, n_ltF, n_leT, n_leF, n_eqT, n_eqF, n_neM, n_Mne, n_M0, n_Mlt, n_0leM, nI_clamp, x_in_nI, n_1, nI_add, x_at, x_bd_s, x_bv_s, ↓x_lt, decide_true, decide_false, Bool.and_self, Bool.true_and, Bool.and_true, if_true, if_false, ite_true, ite_false, ↓reduceIte, not_true_eq_false, not_false_eq_true, Nat.reduceAdd, Nat.reduceMul, Nat.reduceEqDiff, eq_self, true_and, and_true, false_and, and_false, Option.some.injEq, Prod.mk.injEq, l_0, l_1, l_2, l_3, l_4, l_5, l_6, l_7, l_8, l_9, l_10, l_100, l_160, ↓m_1, ↓m_2, ↓m_3, ↓m_4, ↓m_5, ↓m_6, ↓m_7], by simp (disch := first | assumption | omega) only [ii_wi, ji_wi, ri_wi, ti_wi, li_wi, ii_wj, ji_wj, ri_wj, ti_wj, li_wj, l_of, n_ltT, n_ltF, n_leT, n_leF, n_eqT, n_eqF, n_neM, n_Mne, n_M0, n_Mlt, n_0leM, nI_clamp, x_in_nI, n_1, nI_add, x_at, x_bd_s, x_bv_s, ↓x_lt, decide_true, decide_false, Bool.and_self, Bool.true_and, Bool.and_true, if_true, if_false, ite_true, ite_false, ↓reduceIte, not_true_eq_false, not_false_eq_true, Nat.reduceAdd, Nat.reduceMul, Nat.reduceEqDiff, eq_self, true_and, and_true, false_and, and_false, Option.some.injEq, Prod.mk.injEq, l_0, l_1, l_2, l_3, l_4, l_5, l_6, l_7, l_8, l_9, l_10, l_100, l_160, ↓m_1, ↓m_2, ↓m_3, ↓m_4, ↓m_5, ↓m_6, ↓m_7], by simp (disch := first | assumption | omega) only [ii_wi, ji_wi, ri_wi, ti_wi, li_wi, ii_wj, ji_wj, ri_wj, ti_wj, li_wj, l_of, n_ltT, n_ltF, n_leT, n_leF, n_eqT, n_eqF, n_neM, n_Mne, n_M0, n_Mlt, n_0leM, nI_clamp, x_in_nI, n_1, nI_add, x_at, x_bd_s, x_bv_s, ↓x_lt, decide_true, decide_false, Bool.and_self, Bool.true_and, Bool.and_true, if_true, if_false, ite_true, ite_false, ↓reduceIte, not_true_eq_false, not_false_eq_true, Nat.reduceAdd, Nat.reduceMul, Nat.reduceEqDiff, eq_self, true_and, and_true, false_and, and_false, Option.some.injEq, Prod.mk.injEq, l_0, l_1, l_2, l_3, l_4, l_5, l_6, l_7, l_8, l_9, l_10, l_100, l_160, ↓m_1, ↓m_2, ↓m_3, ↓m_4, ↓m_5, ↓m_6, ↓m_7], by simp (disch := first | assumption | omega) only [ii_wi, ji_wi, ri_wi, ti_wi, li_wi, ii_wj, ji_wj, ri_wj, ti_wj, li_wj, l_of, n_ltT, n_ltF, n_leT, n_leF, n_eqT, n_eqF, n_neM, n_Mne, n_M0, n_Mlt, n_0leM, nI_clamp, x_in_nI, n_1, nI_add, x_at, x_bd_s, x_bv_s, ↓x_lt, decide_true, decide_false, Bool.and_self, Bool.true_and, Bool.and_true, if_true, if_false, ite_true, ite_false, ↓reduceIte, not_true_eq_false, not_false_eq_true, Nat.reduceAdd, Nat.reduceMul, Nat.reduceEqDiff, eq_self, true_and, and_true, false_and, and_false, Option.some.injEq, Prod.mk.injEq, l_0, l_1, l_2, l_3, l_4, l_5, l_6, l_7, l_8, l_9, l_10, l_100, l_160, ↓m_1, ↓m_2, ↓m_3, ↓m_4, ↓m_5, ↓m_6, ↓m_7]⟩ (by omega) y5 (by omega) (by omega)
  refine ⟨M2, ?_, g2, g3, f0.tr g5⟩
  have ne : (24 + j = 62) = False := eq_false (by omega)
  simp (disch := first | assumption | omega) only [f_X8_firstWrong, f_X8_firstWrong_c13, f_X2_becomeLike, gt_20, gr_20_0, gr_20_5, gr_20_10, gt_21, gr_21_0, gt_22, gl_22, gc_22, gct_24, gt_50, gl_50, gs_50, gst_67, gt_62, gr_20_6, gt_51, gl_51, q1, q2, q3, q4, q5, ne, l_of, n_ltT, n_ltF, n_leT, n_leF, n_eqT, n_eqF, n_neM, n_Mne, n_M0, n_Mlt, n_0leM, nI_clamp, x_in_nI, n_1, nI_add, x_at, x_bd_s, x_bv_s, ↓x_lt, decide_true, decide_false, Bool.and_self, Bool.true_and, Bool.and_true, if_true, if_false, ite_true, ite_false, ↓reduceIte, not_true_eq_false, not_false_eq_true, Nat.reduceAdd, Nat.reduceMul, Nat.reduceEqDiff, eq_self, true_and, and_true, false_and, and_false, Option.some.injEq, Prod.mk.injEq, l_0, l_1, l_2, l_3, l_4, l_5, l_6, l_7, l_8, l_9, l_10, l_100, l_160, ↓m_1, ↓m_2, ↓m_3, ↓m_4, ↓m_5, ↓m_6, ↓m_7, ii_wi, ji_wi, ri_wi, ti_wi, li_wi, ii_wj, ji_wj, ri_wj, ti_wj, li_wj]
  exact g1
set_option maxHeartbeats 800000 in
theorem m_jg {c k m H B' : Nat} {ρ : XR} (hk : k < 8) (hm4 : m ≤ 40) (hc : c < 6) (hV : WF B' ρ) (hH : H ≤ 800000) (d : Nat) : ∀ (N i x h b : Nat) (M : XM), d < N → Geo L b1 b2 M → MR ρ M → (∀ i, i < 160 → x_j M 95 (160 * k + i) = s_el σ k i) → x_i M 83 37 = nI b → i + d = m → x ≤ r_s ρ 1 → h ≤ H + i → b ≤ i →
    ∃ M', lp_X9_wrongIn_24 N 83 (nI c) (nI k) (nI m) (nI x) (nI h) (nI i) M = some (oI (jg (r_s ρ 1) (r_s ρ 2) (r_q ρ 0 c) (r_q ρ 1 c) (ea σ k) d i x h b).1, M') ∧ Geo L b1 b2 M' ∧ x_i M' 83 37 = nI (jg (r_s ρ 1) (r_s ρ 2) (r_q ρ 0 c) (r_q ρ 1 c) (ea σ k) d i x h b).2 ∧ Fr (fun a k => a = 83 ∧ k = 37) M M' := by
  induction d with
  | zero =>
    intro N i x h b M hN hG hR p3 hb hi hx hh hb2
    obtain ⟨N, rfl⟩ : ∃ i, N = i + 1 := ⟨N - 1, by omega⟩
    refine ⟨M, ?_, hG, hb, Fr.rf⟩
    rw [s_lp_X9_wrongIn_24, show i = m by omega]
    simp (disch := first | assumption | omega) only [bd_X9_wrongIn_24, jg, oI, l_of, n_ltT, n_ltF, n_leT, n_leF, n_eqT, n_eqF, n_neM, n_Mne, n_M0, n_Mlt, n_0leM, nI_clamp, x_in_nI, n_1, nI_add, x_at, x_bd_s, x_bv_s, ↓x_lt, decide_true, decide_false, Bool.and_self, Bool.true_and, Bool.and_true, if_true, if_false, ite_true, ite_false, ↓reduceIte, not_true_eq_false, not_false_eq_true, Nat.reduceAdd, Nat.reduceMul, Nat.reduceEqDiff, eq_self, true_and, and_true, false_and, and_false, Option.some.injEq, Prod.mk.injEq, l_0, l_1, l_2, l_3, l_4, l_5, l_6, l_7, l_8, l_9, l_10, l_100, l_160, ↓m_1, ↓m_2, ↓m_3, ↓m_4, ↓m_5, ↓m_6, ↓m_7]
  | succ d ih =>
    intro N i x h b M hN hG hR p3 hb hi hx hh hb2
    obtain ⟨N, rfl⟩ : ∃ i, N = i + 1 := ⟨N - 1, by omega⟩
    have hin := m_int (i := i) hG hk p3 (by omega)
    obtain ⟨⟨e0, e1, e2, e3, e4, e5, e6, e7⟩, hcc, ht⟩ := id hR
    obtain ⟨⟨w0, w1, w2, w3, w4, w5, w6, w7⟩, wc, wl, wtt⟩ := id hV
    obtain ⟨q1, q2, q3, q4, q5⟩ := hcc c hc
    obtain ⟨y1, y2, y3, y4⟩ := wc c hc
    have hl := lf_le (r_s ρ 2) (r_q ρ 0 c) (r_q ρ 1 c) x (h + 1)
    rw [s_lp_X9_wrongIn_24]
    unfold jg
    by_cases h1 : r_s ρ 1 ≤ x
    · rw [if_pos h1]
      refine ⟨M, ?_, hG, hb, Fr.rf⟩
      have hx2 : x = r_s ρ 1 := by omega
      simp (disch := first | assumption | omega) only [bd_X9_wrongIn_24, f_X9_wrongIn_c34, gt_83, hin, e1, hx2, oI, l_of, n_ltT, n_ltF, n_leT, n_leF, n_eqT, n_eqF, n_neM, n_Mne, n_M0, n_Mlt, n_0leM, nI_clamp, x_in_nI, n_1, nI_add, x_at, x_bd_s, x_bv_s, ↓x_lt, decide_true, decide_false, Bool.and_self, Bool.true_and, Bool.and_true, if_true, if_false, ite_true, ite_false, ↓reduceIte, not_true_eq_false, not_false_eq_true, Nat.reduceAdd, Nat.reduceMul, Nat.reduceEqDiff, eq_self, true_and, and_true, false_and, and_false, Option.some.injEq, Prod.mk.injEq, l_0, l_1, l_2, l_3, l_4, l_5, l_6, l_7, l_8, l_9, l_10, l_100, l_160, ↓m_1, ↓m_2, ↓m_3, ↓m_4, ↓m_5, ↓m_6, ↓m_7]
    rw [if_neg h1]
    by_cases h2 : ea σ k i = nI (x + 1)
    · rw [if_pos h2]
      obtain ⟨M2, g1, g2, g3, g4⟩ := ih N (i + 1) (x + 1) h b M (by omega) hG hR p3 hb (by omega) (by omega) (by omega) (by omega)
      refine ⟨M2, ?_, g2, g3, g4⟩
      rw [h2] at hin
      simp (disch := first | assumption | omega) only [bd_X9_wrongIn_24, f_X9_wrongIn_c34, f_X9_wrongIn_90, gt_83, hin, e1, l_of, n_ltT, n_ltF, n_leT, n_leF, n_eqT, n_eqF, n_neM, n_Mne, n_M0, n_Mlt, n_0leM, nI_clamp, x_in_nI, n_1, nI_add, x_at, x_bd_s, x_bv_s, ↓x_lt, decide_true, decide_false, Bool.and_self, Bool.true_and, Bool.and_true, if_true, if_false, ite_true, ite_false, ↓reduceIte, not_true_eq_false, not_false_eq_true, Nat.reduceAdd, Nat.reduceMul, Nat.reduceEqDiff, eq_self, true_and, and_true, false_and, and_false, Option.some.injEq, Prod.mk.injEq, l_0, l_1, l_2, l_3, l_4, l_5, l_6, l_7, l_8, l_9, l_10, l_100, l_160, ↓m_1, ↓m_2, ↓m_3, ↓m_4, ↓m_5, ↓m_6, ↓m_7]
      exact g1
    rw [if_neg h2]
    have hlf := m_left (x := x) (h := h + 1) hG hc q1 q2 e2 y1 y2 (by omega) (by omega) w3 w4
    by_cases h3 : ea σ k i = nI (lf (r_s ρ 2) (r_q ρ 0 c) (r_q ρ 1 c) x (h + 1))
    · rw [if_pos h3]
      have f0 : Fr (fun a k => a = 83 ∧ k = 37) M (x_wi M 83 37 (nI (b + 1))) := Fr.rf.wi (by omega)
      obtain ⟨M2, g1, g2, g3, g4⟩ := ih N (i + 1) (lf (r_s ρ 2) (r_q ρ 0 c) (r_q ρ 1 c) x (h + 1)) (h + 1) (b + 1) (x_wi M 83 37 (nI (b + 1))) (by omega) hG (hR.ag2 (fun a j q => f0.1 _ _ (by omega))) p3 (by simp (disch := first | assumption | omega) only [ii_wi, ji_wi, ri_wi, ti_wi, li_wi, ii_wj, ji_wj, ri_wj, ti_wj, li_wj, l_of, n_ltT, n_ltF, n_leT, n_leF, n_eqT, n_eqF, n_neM, n_Mne, n_M0, n_Mlt, n_0leM, nI_clamp, x_in_nI, n_1, nI_add, x_at, x_bd_s, x_bv_s, ↓x_lt, decide_true, decide_false, Bool.and_self, Bool.true_and, Bool.and_true, if_true, if_false, ite_true, ite_false, ↓reduceIte, not_true_eq_false, not_false_eq_true, Nat.reduceAdd, Nat.reduceMul, Nat.reduceEqDiff, eq_self, true_and, and_true, false_and, and_false, Option.some.injEq, Prod.mk.injEq, l_0, l_1, l_2, l_3, l_4, l_5, l_6, l_7, l_8, l_9, l_10, l_100, l_160, ↓m_1, ↓m_2, ↓m_3, ↓m_4, ↓m_5, ↓m_6, ↓m_7]) (by omega) (by omega) (by omega) (by omega)
      refine ⟨M2, ?_, g2, g3, f0.tr g4⟩
      rw [h3] at hin h2
      simp (disch := first | assumption | omega) only [bd_X9_wrongIn_24, f_X9_wrongIn_c34, f_X9_wrongIn_c71, f_X9_wrongIn_90, gt_83, hin, h2, hlf, hb, e1, l_of, n_ltT, n_ltF, n_leT, n_leF, n_eqT, n_eqF, n_neM, n_Mne, n_M0, n_Mlt, n_0leM, nI_clamp, x_in_nI, n_1, nI_add, x_at, x_bd_s, x_bv_s, ↓x_lt, decide_true, decide_false, Bool.and_self, Bool.true_and, Bool.and_true, if_true, if_false, ite_true, ite_false, ↓reduceIte, not_true_eq_false, not_false_eq_true, Nat.reduceAdd, Nat.reduceMul, Nat.reduceEqDiff, eq_self, true_and, and_true, false_and, and_false, Option.some.injEq, Prod.mk.injEq, l_0, l_1, l_2, l_3, l_4, l_5, l_6, l_7, l_8, l_9, l_10, l_100, l_160, ↓m_1, ↓m_2, ↓m_3, ↓m_4, ↓m_5, ↓m_6, ↓m_7]
      exact g1
    · rw [if_neg h3]
      refine ⟨M, ?_, hG, hb, Fr.rf⟩
      simp (disch := first | assumption | omega) only [bd_X9_wrongIn_24, f_X9_wrongIn_c34, f_X9_wrongIn_c71, f_X9_wrongIn_90, gt_83, hin, h2, h3, hlf, e1, oI, l_of, n_ltT, n_ltF, n_leT, n_leF, n_eqT, n_eqF, n_neM, n_Mne, n_M0, n_Mlt, n_0leM, nI_clamp, x_in_nI, n_1, nI_add, x_at, x_bd_s, x_bv_s, ↓x_lt, decide_true, decide_false, Bool.and_self, Bool.true_and, Bool.and_true, if_true, if_false, ite_true, ite_false, ↓reduceIte, not_true_eq_false, not_false_eq_true, Nat.reduceAdd, Nat.reduceMul, Nat.reduceEqDiff, eq_self, true_and, and_true, false_and, and_false, Option.some.injEq, Prod.mk.injEq, l_0, l_1, l_2, l_3, l_4, l_5, l_6, l_7, l_8, l_9, l_10, l_100, l_160, ↓m_1, ↓m_2, ↓m_3, ↓m_4, ↓m_5, ↓m_6, ↓m_7]
theorem m_fw {M : XM} {j k m : Nat} (hG : Geo L b1 b2 M) (hI : MInv σ M) (hW : WFS B σ) (hB : B ≤ 800000) (hj : j < r_s (s_now σ) 0) (hk : k < 8) (h1 : s_sh σ 0 k = 1) (hm : m ≤ s_sh σ 2 k) (h4 : m ≤ 40) :
    ∃ M', f_X9_wrongIn 83 (nI j) (nI k) (nI m) M = some (oI (jj σ j k m).1, M') ∧ Geo L b1 b2 M' ∧ x_i M' 83 37 = nI (jj σ j k m).2 ∧ Fr (fun a k => a = 83 ∧ k = 37) M M' := by
  obtain ⟨p1, p2, p3⟩ := (hI.2.2.1 k hk).2.1 h1
  have w0 := hW.1.1.1
  obtain ⟨q1, q2, q3, q4, q5⟩ := hI.1.2.1 j (by omega)
  have y4 := (hW.1.2.1 j (by omega)).2.2.2
  have hR := hI.1
  have f0 : Fr (fun a k => a = 83 ∧ k = 37) M (x_wi M 83 37 (nI 0)) := Fr.rf.wi (by omega)
  obtain ⟨M2, g1, g2, g3, g4⟩ := m_jg (L := L) (b1 := b1) (b2 := b2) (σ := σ) (c := j) (m := m) hk h4 (by omega) hW.1 (show r_q (s_now σ) 3 j ≤ 800000 by omega) m x_fuel 0 (r_q (s_now σ) 2 j) (r_q (s_now σ) 3 j) 0 (x_wi M 83 37 (nI 0)) (fu (by omega)) hG (hR.ag2 (fun a j q => f0.1 _ _ (by omega))) p3 (by simp (disch := first | assumption | omega) only [ii_wi, ji_wi, ri_wi, ti_wi, li_wi, ii_wj, ji_wj, ri_wj, ti_wj, li_wj, l_of, n_ltT, n_ltF, n_leT, n_leF, n_eqT, n_eqF, n_neM, n_Mne, n_M0, n_Mlt, n_0leM, nI_clamp, x_in_nI, n_1, nI_add, x_at, x_bd_s, x_bv_s, ↓x_lt, decide_true, decide_false, Bool.and_self, Bool.true_and, Bool.and_true, if_true, if_false, ite_true, ite_false, ↓reduceIte, not_true_eq_false, not_false_eq_true, Nat.reduceAdd, Nat.reduceMul, Nat.reduceEqDiff, eq_self, true_and, and_true, false_and, and_false, Option.some.injEq, Prod.mk.injEq, l_0, l_1, l_2, l_3, l_4, l_5, l_6, l_7, l_8, l_9, l_10, l_100, l_160, ↓m_1, ↓m_2, ↓m_3, ↓m_4, ↓m_5, ↓m_6, ↓m_7]) (by omega) (hW.1.2.2.1 j hj) (by omega) (by omega)
  refine ⟨M2, ?_, g2, g3, f0.tr g4⟩
  simp (disch := first | assumption | omega) only [f_X9_wrongIn, gt_83, gr_83_9, gt_84, gl_84, gr_83_12, gr_83_14, gt_87, gl_87, gt_89, gl_89, q3, q5, l_of, n_ltT, n_ltF, n_leT, n_leF, n_eqT, n_eqF, n_neM, n_Mne, n_M0, n_Mlt, n_0leM, nI_clamp, x_in_nI, n_1, nI_add, x_at, x_bd_s, x_bv_s, ↓x_lt, decide_true, decide_false, Bool.and_self, Bool.true_and, Bool.and_true, if_true, if_false, ite_true, ite_false, ↓reduceIte, not_true_eq_false, not_false_eq_true, Nat.reduceAdd, Nat.reduceMul, Nat.reduceEqDiff, eq_self, true_and, and_true, false_and, and_false, Option.some.injEq, Prod.mk.injEq, l_0, l_1, l_2, l_3, l_4, l_5, l_6, l_7, l_8, l_9, l_10, l_100, l_160, ↓m_1, ↓m_2, ↓m_3, ↓m_4, ↓m_5, ↓m_6, ↓m_7, ii_wi, ji_wi, ri_wi, ti_wi, li_wi, ii_wj, ji_wj, ri_wj, ti_wj, li_wj]
  exact g1
end
theorem c_w_no {L : Nat} {b1 b2 : Bool} {M M' : XM} {σ : XS} {α : Type} {f : XM → Option (α × XM)} {r : α} {k : Nat} (hG : Geo L b1 b2 M') (hI : CInv σ M) (hF : Fr (fun a _ => 39 ≤ a ∧ a < 51 ∨ 52 ≤ a ∧ a < 65) M M') (he : f M = some (r, b_no M' k)) : EndC L f M (r, u_rf σ k) :=
  ⟨b_no M' k, b1, b2, he, hG, (hI.fr hF (fun a k q r => by omega)).rf, Agr.tr (hF.agr (fun a k h1 h2 q => by omega)) (Agr.rf.wi (by omega)), Agr.tr (hF.agr (fun a k h1 h2 q => by omega)) (Agr.rf.wi (by omega))⟩
theorem m_w_no {L : Nat} {b1 b2 : Bool} {M M' : XM} {σ : XS} {α : Type} {f : XM → Option (α × XM)} {r : α} {k : Nat} (hG : Geo L b1 b2 M') (hI : MInv σ M) (hMW : MW M) (hF : Fr (fun a k => a = 83 ∧ 9 ≤ k ∧ k < 40 ∨ a = 96 ∨ a = 98 ∨ a = 99 ∨ 101 ≤ a ∧ a < 104) M M') (he : f M = some (r, a_no M' k)) : EndM L b1 b2 f M (r, u_rf σ k) :=
  ⟨a_no M' k, he, hG, (hI.fr hF (fun a k q r => by omega)).rf, hMW.ag (Agr.tr (hF.agr (fun a k h1 h2 q => by omega)) (Agr.rf.wi (by omega))), Agr.tr (hF.agr (fun a k h1 h2 q => by omega)) (Agr.rf.wi (by omega))⟩
def sp_judge (σ : XS) (c s n : Int32) : Int32 × XS :=
  if jq σ c s n = 0 then (oI (jj σ c.toNatClampNeg s.toNatClampNeg n.toNatClampNeg).1, σ) else (nM (jq σ c s n + 10), u_rf σ (jq σ c s n))
def sp_breaks (σ : XS) (c s n : Int32) : Int32 × XS :=
  if jq σ c s n = 0 then (if (jj σ c.toNatClampNeg s.toNatClampNeg n.toNatClampNeg).1 = none then (nI (jj σ c.toNatClampNeg s.toNatClampNeg n.toNatClampNeg).2, σ) else (nM 6, u_rf σ 6)) else (nM (jq σ c s n), u_rf σ (jq σ c s n))
theorem oI_ne {o : Option Nat} (h : ¬ o = none) (hb : ∀ x, o = some x → x < 1000) : (oI o = nM 1) = False := by
  cases o with
  | none => exact absurd rfl h
  | some x => exact n_neM (by have := hb x rfl; omega) (by omega) (by omega)
theorem jg_lt (n p kd a : Nat) (br : Nat → Int32) (d : Nat) : ∀ (i x h b y : Nat), (jg n p kd a br d i x h b).1 = some y → y < i + d := by
  induction d with
  | zero => intro i x h b y hy; cases hy
  | succ d ih =>
    intro i x h b y hy
    unfold jg at hy
    split at hy
    · cases hy; omega
    split at hy
    · have := ih _ _ _ _ _ hy; omega
    split at hy
    · have := ih _ _ _ _ _ hy; omega
    · cases hy; omega
theorem jg_b (n p kd a : Nat) (br : Nat → Int32) (d : Nat) : ∀ (i x h b : Nat), (jg n p kd a br d i x h b).2 ≤ b + d := by
  induction d with
  | zero => intro i x h b; exact Nat.le_refl _
  | succ d ih =>
    intro i x h b
    unfold jg
    split
    · show b ≤ b + (d + 1); omega
    split
    · have := ih (i + 1) (x + 1) h b; omega
    split
    · have := ih (i + 1) (lf p kd a x (h + 1)) (h + 1) (b + 1); omega
    · show b ≤ b + (d + 1); omega
theorem oc_judge {B : Nat} {σ : XS} (hW : WFS B σ) (hB : B ≤ 800000) (c s n : Int32) : OpC (f_X8_judge 20 c s n) σ (sp_judge σ c s n).1 (sp_judge σ c s n).2 := by
  intro L b1 b2 M hG hI
  obtain ⟨⟨⟨e0, e1, e2, e3, e4, e5, e6, e7⟩, hc, ht⟩, hi, hsh, hrf, hft, hrn, htr⟩ := id hI
  show EndC L (f_X8_judge 20 c s n) M (sp_judge σ c s n)
  have hS := c_said hG hI hW c s n
  have hl := jq_le σ c s n
  unfold sp_judge
  by_cases h0 : jq σ c s n = 0
  · rw [if_pos h0]
    rw [h0, rz_0] at hS
    obtain ⟨j, k, m, rfl, hj, rfl, k8, k1, rfl, hm, h4⟩ := jq_0 h0
    have w0 := hW.1.1.1
    obtain ⟨M2, g1, g2, g3, g4⟩ := c_fw hG hI hW hB hj k8 k1 hm h4
    rw [nI_clamp (by omega), nI_clamp (by omega), nI_clamp (by omega)]
    refine c_w_end g2 hI (g4.mono (fun a k q => by omega)) ?_
    simp (disch := first | assumption | omega) only [f_X8_judge_c17, f_X8_judge_c4, f_X8_judge, gt_20, hS, g1, l_of, n_ltT, n_ltF, n_leT, n_leF, n_eqT, n_eqF, n_neM, n_Mne, n_M0, n_Mlt, n_0leM, nI_clamp, x_in_nI, n_1, nI_add, x_at, x_bd_s, x_bv_s, ↓x_lt, decide_true, decide_false, Bool.and_self, Bool.true_and, Bool.and_true, if_true, if_false, ite_true, ite_false, ↓reduceIte, not_true_eq_false, not_false_eq_true, Nat.reduceAdd, Nat.reduceMul, Nat.reduceEqDiff, eq_self, true_and, and_true, false_and, and_false, Option.some.injEq, Prod.mk.injEq, l_0, l_1, l_2, l_3, l_4, l_5, l_6, l_7, l_8, l_9, l_10, l_100, l_160, ↓m_1, ↓m_2, ↓m_3, ↓m_4, ↓m_5, ↓m_6, ↓m_7]
  · rw [if_neg h0]
    rw [rz_s h0] at hS
    exact c_no_end hG hI (by simp (disch := first | assumption | omega) only [f_X8_judge_c17, f_X8_judge_c4, f_X8_judge, gt_20, gr_20_0, gr_20_5, gr_20_10, gt_21, gr_21_0, gt_22, gl_22, gc_22, gct_24, gt_50, gl_50, gs_50, gst_67, gt_62, gr_20_6, gt_51, gl_51, hS, c_refM, n_sub10, l_of, n_ltT, n_ltF, n_leT, n_leF, n_eqT, n_eqF, n_neM, n_Mne, n_M0, n_Mlt, n_0leM, nI_clamp, x_in_nI, n_1, nI_add, x_at, x_bd_s, x_bv_s, ↓x_lt, decide_true, decide_false, Bool.and_self, Bool.true_and, Bool.and_true, if_true, if_false, ite_true, ite_false, ↓reduceIte, not_true_eq_false, not_false_eq_true, Nat.reduceAdd, Nat.reduceMul, Nat.reduceEqDiff, eq_self, true_and, and_true, false_and, and_false, Option.some.injEq, Prod.mk.injEq, l_0, l_1, l_2, l_3, l_4, l_5, l_6, l_7, l_8, l_9, l_10, l_100, l_160, ↓m_1, ↓m_2, ↓m_3, ↓m_4, ↓m_5, ↓m_6, ↓m_7])
theorem om_judge {B : Nat} {σ : XS} (hW : WFS B σ) (hB : B ≤ 800000) (c s n : Int32) : OpM (f_X9_judge 83 c s n) σ (sp_judge σ c s n).1 (sp_judge σ c s n).2 := by
  intro L b1 b2 M hG hI hMW
  obtain ⟨⟨⟨e0, e1, e2, e3, e4, e5, e6, e7⟩, hc, ht⟩, hi, hsh, hrf, hft, hrn, htr⟩ := id hI
  show EndM L b1 b2 (f_X9_judge 83 c s n) M (sp_judge σ c s n)
  have hS := m_barsOf hG hI hW c s n
  have hl := jq_le σ c s n
  unfold sp_judge
  by_cases h0 : jq σ c s n = 0
  · rw [if_pos h0]
    rw [h0, rz_0] at hS
    obtain ⟨j, k, m, rfl, hj, rfl, k8, k1, rfl, hm, h4⟩ := jq_0 h0
    have w0 := hW.1.1.1
    obtain ⟨M2, g1, g2, g3, g4⟩ := m_fw hG hI hW hB hj k8 k1 hm h4
    rw [nI_clamp (by omega), nI_clamp (by omega), nI_clamp (by omega)]
    refine m_w_end g2 hI hMW (g4.mono (fun a k q => by omega)) ?_
    simp (disch := first | assumption | omega) only [f_X9_judge_c4, f_X9_judge, gt_83, hS, g1, l_of, n_ltT, n_ltF, n_leT, n_leF, n_eqT, n_eqF, n_neM, n_Mne, n_M0, n_Mlt, n_0leM, nI_clamp, x_in_nI, n_1, nI_add, x_at, x_bd_s, x_bv_s, ↓x_lt, decide_true, decide_false, Bool.and_self, Bool.true_and, Bool.and_true, if_true, if_false, ite_true, ite_false, ↓reduceIte, not_true_eq_false, not_false_eq_true, Nat.reduceAdd, Nat.reduceMul, Nat.reduceEqDiff, eq_self, true_and, and_true, false_and, and_false, Option.some.injEq, Prod.mk.injEq, l_0, l_1, l_2, l_3, l_4, l_5, l_6, l_7, l_8, l_9, l_10, l_100, l_160, ↓m_1, ↓m_2, ↓m_3, ↓m_4, ↓m_5, ↓m_6, ↓m_7]
  · rw [if_neg h0]
    rw [rz_s h0] at hS
    exact m_no_end hG hI hMW (by simp (disch := first | assumption | omega) only [f_X9_judge_c4, f_X9_judge, gt_83, gr_83_9, gt_84, gl_84, gr_83_12, gr_83_14, gt_87, gl_87, gt_89, gl_89, hS, m_noTen, l_of, n_ltT, n_ltF, n_leT, n_leF, n_eqT, n_eqF, n_neM, n_Mne, n_M0, n_Mlt, n_0leM, nI_clamp, x_in_nI, n_1, nI_add, x_at, x_bd_s, x_bv_s, ↓x_lt, decide_true, decide_false, Bool.and_self, Bool.true_and, Bool.and_true, if_true, if_false, ite_true, ite_false, ↓reduceIte, not_true_eq_false, not_false_eq_true, Nat.reduceAdd, Nat.reduceMul, Nat.reduceEqDiff, eq_self, true_and, and_true, false_and, and_false, Option.some.injEq, Prod.mk.injEq, l_0, l_1, l_2, l_3, l_4, l_5, l_6, l_7, l_8, l_9, l_10, l_100, l_160, ↓m_1, ↓m_2, ↓m_3, ↓m_4, ↓m_5, ↓m_6, ↓m_7])
theorem oc_breaks {B : Nat} {σ : XS} (hW : WFS B σ) (hB : B ≤ 800000) (c s n : Int32) : OpC (f_X8_breaks 20 c s n) σ (sp_breaks σ c s n).1 (sp_breaks σ c s n).2 := by
  intro L b1 b2 M hG hI
  obtain ⟨⟨⟨e0, e1, e2, e3, e4, e5, e6, e7⟩, hc, ht⟩, hi, hsh, hrf, hft, hrn, htr⟩ := id hI
  show EndC L (f_X8_breaks 20 c s n) M (sp_breaks σ c s n)
  have hS := c_said hG hI hW c s n
  have hl := jq_le σ c s n
  unfold sp_breaks
  by_cases h0 : jq σ c s n = 0
  · rw [if_pos h0]
    rw [h0, rz_0] at hS
    obtain ⟨j, k, m, rfl, hj, rfl, k8, k1, rfl, hm, h4⟩ := jq_0 h0
    have w0 := hW.1.1.1
    obtain ⟨M2, g1, g2, g3, g4⟩ := c_fw hG hI hW hB hj k8 k1 hm h4
    rw [nI_clamp (by omega), nI_clamp (by omega), nI_clamp (by omega)]
    by_cases h1 : (jj σ j k m).1 = none
    · rw [if_pos h1]
      rw [h1] at g1
      have q5 : x_i M2 (24 + j) 4 = nI (r_q (s_now σ) 3 j) := (g4.1 _ _ (by omega)).trans (hc j (by omega)).2.2.2.2
      refine c_w_end g2 hI (g4.mono (fun a k q => by omega)) ?_
      simp (disch := first | assumption | omega) only [f_X8_breaks_29, f_X8_breaks_c18, f_X8_breaks_c4, f_X8_breaks, gt_20, gr_20_0, gr_20_5, gr_20_10, gt_21, gr_21_0, gt_22, gl_22, gc_22, gct_24, gt_50, gl_50, gs_50, gst_67, gt_62, gr_20_6, gt_51, gl_51, hS, g1, g3, q5, oI, pk_sub, Nat.add_sub_cancel_left, l_of, n_ltT, n_ltF, n_leT, n_leF, n_eqT, n_eqF, n_neM, n_Mne, n_M0, n_Mlt, n_0leM, nI_clamp, x_in_nI, n_1, nI_add, x_at, x_bd_s, x_bv_s, ↓x_lt, decide_true, decide_false, Bool.and_self, Bool.true_and, Bool.and_true, if_true, if_false, ite_true, ite_false, ↓reduceIte, not_true_eq_false, not_false_eq_true, Nat.reduceAdd, Nat.reduceMul, Nat.reduceEqDiff, eq_self, true_and, and_true, false_and, and_false, Option.some.injEq, Prod.mk.injEq, l_0, l_1, l_2, l_3, l_4, l_5, l_6, l_7, l_8, l_9, l_10, l_100, l_160, ↓m_1, ↓m_2, ↓m_3, ↓m_4, ↓m_5, ↓m_6, ↓m_7]
    · rw [if_neg h1]
      have hne := oI_ne h1 (fun x hx => by have := jg_lt _ _ _ _ _ _ _ _ _ _ _ hx; omega)
      refine c_w_no g2 hI (g4.mono (fun a k q => by omega)) ?_
      simp (disch := first | assumption | omega) only [f_X8_breaks_29, f_X8_breaks_c18, f_X8_breaks_c4, f_X8_breaks, gt_20, gr_20_0, gr_20_5, gr_20_10, gt_21, gr_21_0, gt_22, gl_22, gc_22, gct_24, gt_50, gl_50, gs_50, gst_67, gt_62, gr_20_6, gt_51, gl_51, hS, g1, hne, c_refM, l_of, n_ltT, n_ltF, n_leT, n_leF, n_eqT, n_eqF, n_neM, n_Mne, n_M0, n_Mlt, n_0leM, nI_clamp, x_in_nI, n_1, nI_add, x_at, x_bd_s, x_bv_s, ↓x_lt, decide_true, decide_false, Bool.and_self, Bool.true_and, Bool.and_true, if_true, if_false, ite_true, ite_false, ↓reduceIte, not_true_eq_false, not_false_eq_true, Nat.reduceAdd, Nat.reduceMul, Nat.reduceEqDiff, eq_self, true_and, and_true, false_and, and_false, Option.some.injEq, Prod.mk.injEq, l_0, l_1, l_2, l_3, l_4, l_5, l_6, l_7, l_8, l_9, l_10, l_100, l_160, ↓m_1, ↓m_2, ↓m_3, ↓m_4, ↓m_5, ↓m_6, ↓m_7]
  · rw [if_neg h0]
    rw [rz_s h0] at hS
    exact c_no_end hG hI (by simp (disch := first | assumption | omega) only [f_X8_breaks_29, f_X8_breaks_c18, f_X8_breaks_c4, f_X8_breaks, gt_20, gr_20_0, gr_20_5, gr_20_10, gt_21, gr_21_0, gt_22, gl_22, gc_22, gct_24, gt_50, gl_50, gs_50, gst_67, gt_62, gr_20_6, gt_51, gl_51, hS, c_refM, l_of, n_ltT, n_ltF, n_leT, n_leF, n_eqT, n_eqF, n_neM, n_Mne, n_M0, n_Mlt, n_0leM, nI_clamp, x_in_nI, n_1, nI_add, x_at, x_bd_s, x_bv_s, ↓x_lt, decide_true, decide_false, Bool.and_self, Bool.true_and, Bool.and_true, if_true, if_false, ite_true, ite_false, ↓reduceIte, not_true_eq_false, not_false_eq_true, Nat.reduceAdd, Nat.reduceMul, Nat.reduceEqDiff, eq_self, true_and, and_true, false_and, and_false, Option.some.injEq, Prod.mk.injEq, l_0, l_1, l_2, l_3, l_4, l_5, l_6, l_7, l_8, l_9, l_10, l_100, l_160, ↓m_1, ↓m_2, ↓m_3, ↓m_4, ↓m_5, ↓m_6, ↓m_7])
theorem om_breaks {B : Nat} {σ : XS} (hW : WFS B σ) (hB : B ≤ 800000) (c s n : Int32) : OpM (f_X9_breaks 83 c s n) σ (sp_breaks σ c s n).1 (sp_breaks σ c s n).2 := by
  intro L b1 b2 M hG hI hMW
  obtain ⟨⟨⟨e0, e1, e2, e3, e4, e5, e6, e7⟩, hc, ht⟩, hi, hsh, hrf, hft, hrn, htr⟩ := id hI
  show EndM L b1 b2 (f_X9_breaks 83 c s n) M (sp_breaks σ c s n)
  have hS := m_barsOf hG hI hW c s n
  have hl := jq_le σ c s n
  unfold sp_breaks
  by_cases h0 : jq σ c s n = 0
  · rw [if_pos h0]
    rw [h0, rz_0] at hS
    obtain ⟨j, k, m, rfl, hj, rfl, k8, k1, rfl, hm, h4⟩ := jq_0 h0
    have w0 := hW.1.1.1
    obtain ⟨M2, g1, g2, g3, g4⟩ := m_fw hG hI hW hB hj k8 k1 hm h4
    rw [nI_clamp (by omega), nI_clamp (by omega), nI_clamp (by omega)]
    by_cases h1 : (jj σ j k m).1 = none
    · rw [if_pos h1]
      rw [h1] at g1
      refine m_w_end g2 hI hMW (g4.mono (fun a k q => by omega)) ?_
      simp (disch := first | assumption | omega) only [f_X9_breaks_29, f_X9_breaks_c18, f_X9_breaks_c4, f_X9_breaks, gt_83, hS, g1, g3, oI, l_of, n_ltT, n_ltF, n_leT, n_leF, n_eqT, n_eqF, n_neM, n_Mne, n_M0, n_Mlt, n_0leM, nI_clamp, x_in_nI, n_1, nI_add, x_at, x_bd_s, x_bv_s, ↓x_lt, decide_true, decide_false, Bool.and_self, Bool.true_and, Bool.and_true, if_true, if_false, ite_true, ite_false, ↓reduceIte, not_true_eq_false, not_false_eq_true, Nat.reduceAdd, Nat.reduceMul, Nat.reduceEqDiff, eq_self, true_and, and_true, false_and, and_false, Option.some.injEq, Prod.mk.injEq, l_0, l_1, l_2, l_3, l_4, l_5, l_6, l_7, l_8, l_9, l_10, l_100, l_160, ↓m_1, ↓m_2, ↓m_3, ↓m_4, ↓m_5, ↓m_6, ↓m_7]
    · rw [if_neg h1]
      have hne := oI_ne h1 (fun x hx => by have := jg_lt _ _ _ _ _ _ _ _ _ _ _ hx; omega)
      refine m_w_no g2 hI hMW (g4.mono (fun a k q => by omega)) ?_
      simp (disch := first | assumption | omega) only [f_X9_breaks_29, f_X9_breaks_c18, f_X9_breaks_c4, f_X9_breaks, gt_83, gr_83_9, gt_84, gl_84, gr_83_12, gr_83_14, gt_87, gl_87, gt_89, gl_89, hS, g1, hne, m_noM, l_of, n_ltT, n_ltF, n_leT, n_leF, n_eqT, n_eqF, n_neM, n_Mne, n_M0, n_Mlt, n_0leM, nI_clamp, x_in_nI, n_1, nI_add, x_at, x_bd_s, x_bv_s, ↓x_lt, decide_true, decide_false, Bool.and_self, Bool.true_and, Bool.and_true, if_true, if_false, ite_true, ite_false, ↓reduceIte, not_true_eq_false, not_false_eq_true, Nat.reduceAdd, Nat.reduceMul, Nat.reduceEqDiff, eq_self, true_and, and_true, false_and, and_false, Option.some.injEq, Prod.mk.injEq, l_0, l_1, l_2, l_3, l_4, l_5, l_6, l_7, l_8, l_9, l_10, l_100, l_160, ↓m_1, ↓m_2, ↓m_3, ↓m_4, ↓m_5, ↓m_6, ↓m_7]
  · rw [if_neg h0]
    rw [rz_s h0] at hS
    exact m_no_end hG hI hMW (by simp (disch := first | assumption | omega) only [f_X9_breaks_29, f_X9_breaks_c18, f_X9_breaks_c4, f_X9_breaks, gt_83, gr_83_9, gt_84, gl_84, gr_83_12, gr_83_14, gt_87, gl_87, gt_89, gl_89, hS, m_noM, l_of, n_ltT, n_ltF, n_leT, n_leF, n_eqT, n_eqF, n_neM, n_Mne, n_M0, n_Mlt, n_0leM, nI_clamp, x_in_nI, n_1, nI_add, x_at, x_bd_s, x_bv_s, ↓x_lt, decide_true, decide_false, Bool.and_self, Bool.true_and, Bool.and_true, if_true, if_false, ite_true, ite_false, ↓reduceIte, not_true_eq_false, not_false_eq_true, Nat.reduceAdd, Nat.reduceMul, Nat.reduceEqDiff, eq_self, true_and, and_true, false_and, and_false, Option.some.injEq, Prod.mk.injEq, l_0, l_1, l_2, l_3, l_4, l_5, l_6, l_7, l_8, l_9, l_10, l_100, l_160, ↓m_1, ↓m_2, ↓m_3, ↓m_4, ↓m_5, ↓m_6, ↓m_7])
