/-! THE IMAGE, the reference's side: rows carried there and back -/
theorem carry0 {L : Nat} {b1 b2 : Bool} {a t w f m : Nat} (hat : a ≠ t) (hf : f + m ≤ 50) (hw : m ≤ w) (hw8 : w ≤ 8) (d : Nat) : ∀ (n j : Nat) (M : XM), d < n → Geo L b1 b2 M → x_tag M a = 1 → x_len M a = w → x_tag M t = 1 → x_len M t = 50 → j + d = m → (∀ i, i < j → x_i M t (f + i) = x_i M a i) →
    ∃ M', lp_X9_carries_3 n a (nI m) t (nI f) (nI 0) (nI j) M = some (nI (f + m), M') ∧ Geo L b1 b2 M' ∧ (∀ i, i < m → x_i M' t (f + i) = x_i M a i) ∧ Fr (fun b k => b = t ∧ f ≤ k ∧ k < f + m) M M' := by
  induction d with
  | zero =>
    intro n j M hn hG ta la tt lt hj hi
    obtain ⟨n, rfl⟩ : ∃ i, n = i + 1 := ⟨n - 1, by omega⟩
    refine ⟨M, ?_, hG, fun i h => hi i (by omega), Fr.rf⟩
    rw [s_lp_X9_carries_3, show j = m by omega]
    simp (disch := first | assumption | omega) only [bd_X9_carries_3, nI_add, l_of, n_ltT, n_ltF, n_leT, n_leF, n_eqT, n_eqF, n_neM, n_Mne, n_M0, n_Mlt, n_0leM, nI_clamp, x_in_nI, n_1, nI_add, x_at, x_bd_s, x_bv_s, ↓x_lt, decide_true, decide_false, Bool.and_self, Bool.true_and, Bool.and_true, if_true, if_false, ite_true, ite_false, ↓reduceIte, not_true_eq_false, not_false_eq_true, Nat.reduceAdd, Nat.reduceMul, Nat.reduceEqDiff, eq_self, true_and, and_true, false_and, and_false, Option.some.injEq, Prod.mk.injEq, l_0, l_1, l_2, l_3, l_4, l_5, l_6, l_7, l_8, l_9, l_10, l_100, l_160, ↓m_1, ↓m_2, ↓m_3, ↓m_4, ↓m_5, ↓m_6, ↓m_7]
  | succ d ih =>
    intro n j M hn hG ta la tt lt hj hi
    obtain ⟨n, rfl⟩ : ∃ i, n = i + 1 := ⟨n - 1, by omega⟩
    have f0 : Fr (fun b k => b = t ∧ f ≤ k ∧ k < f + m) M (x_wi M t (f + j) (x_i M a j)) := Fr.rf.wi ⟨rfl, by omega, by omega⟩
    obtain ⟨M2, g1, g2, g3, g4⟩ := ih n (j + 1) (x_wi M t (f + j) (x_i M a j)) (by omega) hG ta la tt lt (by omega) (fun i h => by
      rw [f0.1 a i (fun q => hat q.1), ii_wi]
      split
      · next q => rw [show i = j by omega]
      · exact hi i (by omega))
    refine ⟨M2, ?_, g2, fun i h => (g3 i h).trans (f0.1 _ _ (fun q => hat q.1)), f0.tr g4⟩
    rw [s_lp_X9_carries_3]
    simp (disch := first | assumption | omega) only [bd_X9_carries_3, f_X9_carries_39, ta, la, tt, lt, nI_add, l_of, n_ltT, n_ltF, n_leT, n_leF, n_eqT, n_eqF, n_neM, n_Mne, n_M0, n_Mlt, n_0leM, nI_clamp, x_in_nI, n_1, nI_add, x_at, x_bd_s, x_bv_s, ↓x_lt, decide_true, decide_false, Bool.and_self, Bool.true_and, Bool.and_true, if_true, if_false, ite_true, ite_false, ↓reduceIte, not_true_eq_false, not_false_eq_true, Nat.reduceAdd, Nat.reduceMul, Nat.reduceEqDiff, eq_self, true_and, and_true, false_and, and_false, Option.some.injEq, Prod.mk.injEq, l_0, l_1, l_2, l_3, l_4, l_5, l_6, l_7, l_8, l_9, l_10, l_100, l_160, ↓m_1, ↓m_2, ↓m_3, ↓m_4, ↓m_5, ↓m_6, ↓m_7, ii_wi, ji_wi, ri_wi, ti_wi, li_wi, ii_wj, ji_wj, ri_wj, ti_wj, li_wj]
    exact g1
theorem carry1 {L : Nat} {b1 b2 : Bool} {a t w f m : Nat} (hat : a ≠ t) (hf : f + m ≤ 50) (hw : m ≤ w) (hw8 : w ≤ 8) (d : Nat) : ∀ (n j : Nat) (M : XM), d < n → Geo L b1 b2 M → x_tag M a = 1 → x_len M a = w → x_tag M t = 1 → x_len M t = 50 → j + d = m → (∀ i, i < j → x_i M a i = x_i M t (f + i)) →
    ∃ M', lp_X9_carries_3 n a (nI m) t (nI f) (nI 1) (nI j) M = some (nI (f + m), M') ∧ Geo L b1 b2 M' ∧ (∀ i, i < m → x_i M' a i = x_i M t (f + i)) ∧ Fr (fun b k => b = a) M M' := by
  induction d with
  | zero =>
    intro n j M hn hG ta la tt lt hj hi
    obtain ⟨n, rfl⟩ : ∃ i, n = i + 1 := ⟨n - 1, by omega⟩
    refine ⟨M, ?_, hG, fun i h => hi i (by omega), Fr.rf⟩
    rw [s_lp_X9_carries_3, show j = m by omega]
    simp (disch := first | assumption | omega) only [bd_X9_carries_3, nI_add, l_of, n_ltT, n_ltF, n_leT, n_leF, n_eqT, n_eqF, n_neM, n_Mne, n_M0, n_Mlt, n_0leM, nI_clamp, x_in_nI, n_1, nI_add, x_at, x_bd_s, x_bv_s, ↓x_lt, decide_true, decide_false, Bool.and_self, Bool.true_and, Bool.and_true, if_true, if_false, ite_true, ite_false, ↓reduceIte, not_true_eq_false, not_false_eq_true, Nat.reduceAdd, Nat.reduceMul, Nat.reduceEqDiff, eq_self, true_and, and_true, false_and, and_false, Option.some.injEq, Prod.mk.injEq, l_0, l_1, l_2, l_3, l_4, l_5, l_6, l_7, l_8, l_9, l_10, l_100, l_160, ↓m_1, ↓m_2, ↓m_3, ↓m_4, ↓m_5, ↓m_6, ↓m_7]
  | succ d ih =>
    intro n j M hn hG ta la tt lt hj hi
    obtain ⟨n, rfl⟩ : ∃ i, n = i + 1 := ⟨n - 1, by omega⟩
    have f0 : Fr (fun b k => b = a) M (x_wi M a j (x_i M t (f + j))) := Fr.rf.wi rfl
    obtain ⟨M2, g1, g2, g3, g4⟩ := ih n (j + 1) (x_wi M a j (x_i M t (f + j))) (by omega) hG ta la tt lt (by omega) (fun i h => by
      rw [f0.1 t (f + i) (fun q => hat q.symm), ii_wi]
      split
      · next q => rw [q.2]
      · exact hi i (by omega))
    refine ⟨M2, ?_, g2, fun i h => (g3 i h).trans (f0.1 _ _ (fun q => hat q.symm)), f0.tr g4⟩
    rw [s_lp_X9_carries_3]
    simp (disch := first | assumption | omega) only [bd_X9_carries_3, f_X9_carries_39, ta, la, tt, lt, nI_add, l_of, n_ltT, n_ltF, n_leT, n_leF, n_eqT, n_eqF, n_neM, n_Mne, n_M0, n_Mlt, n_0leM, nI_clamp, x_in_nI, n_1, nI_add, x_at, x_bd_s, x_bv_s, ↓x_lt, decide_true, decide_false, Bool.and_self, Bool.true_and, Bool.and_true, if_true, if_false, ite_true, ite_false, ↓reduceIte, not_true_eq_false, not_false_eq_true, Nat.reduceAdd, Nat.reduceMul, Nat.reduceEqDiff, eq_self, true_and, and_true, false_and, and_false, Option.some.injEq, Prod.mk.injEq, l_0, l_1, l_2, l_3, l_4, l_5, l_6, l_7, l_8, l_9, l_10, l_100, l_160, ↓m_1, ↓m_2, ↓m_3, ↓m_4, ↓m_5, ↓m_6, ↓m_7, ii_wi, ji_wi, ri_wi, ti_wi, li_wi, ii_wj, ji_wj, ri_wj, ti_wj, li_wj]
    exact g1
/-- what a row that was carried to holds -/
def MKt (t : Nat) (κ : XR) (M : XM) : Prop :=
  (x_i M t 38 = nI (r_s κ 0) ∧ x_i M t 39 = nI (r_s κ 1) ∧ x_i M t 40 = nI (r_s κ 2) ∧ x_i M t 41 = nI (r_s κ 3) ∧ x_i M t 42 = nI (r_s κ 4) ∧ x_i M t 44 = nI (r_s κ 5) ∧ x_i M t 43 = r_done κ ∧ x_i M t 45 = r_seed κ) ∧
  (∀ c, c < 6 → x_i M t c = nI (r_q κ 0 c) ∧ x_i M t (6 + c) = nI (r_q κ 1 c) ∧ x_i M t (12 + c) = nI (r_q κ 2 c) ∧ x_i M t (18 + c) = r_off κ c ∧ x_i M t (24 + c) = nI (r_q κ 3 c)) ∧
  ∀ i, i < 8 → x_i M t (30 + i) = nI (r_q κ 4 i)
set_option maxHeartbeats 1000000 in
theorem m_all0 {L : Nat} {b1 b2 : Bool} {M : XM} {t : Nat} {ρ : XR} (hG : Geo L b1 b2 M) (tt : x_tag M t = 1) (lt : x_len M t = 50) (ht2 : 91 ≤ t) (hR : MR ρ M) :
    ∃ M', f_X9_all 83 t (nI 0) M = some M' ∧ Geo L b1 b2 M' ∧ MKt t ρ M' ∧ Fr (fun b k => b = t) M M' := by
  obtain ⟨⟨e0, e1, e2, e3, e4, e5, e6, e7⟩, hc, hl⟩ := id hR
  have tg : ∀ {N : XM}, Geo L b1 b2 N → x_tag N t = 1 ∧ x_len N t = 50 := fun h => ⟨((ge_tag h).trans (ge_tag hG).symm).trans tt, ((ge_len h).trans (ge_len hG).symm).trans lt⟩
  obtain ⟨M1, a1, a2, a3, a4⟩ := carry0 (a := 85) (t := t) (w := 6) (f := 0) (m := 6) (by omega) (by omega) (by omega) (by omega) 6 x_fuel 0 M (fu (by omega)) hG (gt_85 hG) (gl_85 hG) tt lt (by omega) (fun i h => absurd h (by omega))
  obtain ⟨M2, c1, c2, c3, c4⟩ := carry0 (a := 86) (t := t) (w := 6) (f := 6) (m := 6) (by omega) (by omega) (by omega) (by omega) 6 x_fuel 0 M1 (fu (by omega)) a2 (gt_86 a2) (gl_86 a2) (tg a2).1 (tg a2).2 (by omega) (fun i h => absurd h (by omega))
  obtain ⟨M3, d1, d2, d3, d4⟩ := carry0 (a := 87) (t := t) (w := 6) (f := 12) (m := 6) (by omega) (by omega) (by omega) (by omega) 6 x_fuel 0 M2 (fu (by omega)) c2 (gt_87 c2) (gl_87 c2) (tg c2).1 (tg c2).2 (by omega) (fun i h => absurd h (by omega))
  obtain ⟨M4, f1, f2, f3, f4⟩ := carry0 (a := 88) (t := t) (w := 6) (f := 18) (m := 6) (by omega) (by omega) (by omega) (by omega) 6 x_fuel 0 M3 (fu (by omega)) d2 (gt_88 d2) (gl_88 d2) (tg d2).1 (tg d2).2 (by omega) (fun i h => absurd h (by omega))
  obtain ⟨M5, g1, g2, g3, g4⟩ := carry0 (a := 89) (t := t) (w := 6) (f := 24) (m := 6) (by omega) (by omega) (by omega) (by omega) 6 x_fuel 0 M4 (fu (by omega)) f2 (gt_89 f2) (gl_89 f2) (tg f2).1 (tg f2).2 (by omega) (fun i h => absurd h (by omega))
  obtain ⟨M6, h1, h2, h3, h4⟩ := carry0 (a := 90) (t := t) (w := 8) (f := 30) (m := 8) (by omega) (by omega) (by omega) (by omega) 8 x_fuel 0 M5 (fu (by omega)) g2 (gt_90 g2) (gl_90 g2) (tg g2).1 (tg g2).2 (by omega) (fun i h => absurd h (by omega))
  have k1 : Fr (fun b k => b = t) M M1 := a4.mono (fun b k q => q.1)
  have k2 : Fr (fun b k => b = t) M M2 := k1.tr (c4.mono (fun b k q => q.1))
  have k3 : Fr (fun b k => b = t) M M3 := k2.tr (d4.mono (fun b k q => q.1))
  have k4 : Fr (fun b k => b = t) M M4 := k3.tr (f4.mono (fun b k q => q.1))
  have k5 : Fr (fun b k => b = t) M M5 := k4.tr (g4.mono (fun b k q => q.1))
  have k6 : Fr (fun b k => b = t) M M6 := k5.tr (h4.mono (fun b k q => q.1))
  have z : ∀ j, x_i M6 83 j = x_i M 83 j := fun j => k6.1 _ _ (by omega)
  have z0 := (z 0).trans e0
  have z1 := (z 1).trans e1
  have z2 := (z 2).trans e2
  have z3 := (z 3).trans e3
  have z4 := (z 4).trans e4
  have z5 := (z 6).trans e5
  have z6 := (z 5).trans e6
  have z7 := (z 7).trans e7
  have nt : (83 = t) = False := eq_false (by omega)
  have tt6 := (tg h2).1
  have lt6 := (tg h2).2
  refine ⟨x_wi (x_wi (x_wi (x_wi (x_wi (x_wi (x_wi (x_wi M6 t 38 (nI (r_s ρ 0))) t 39 (nI (r_s ρ 1))) t 40 (nI (r_s ρ 2))) t 41 (nI (r_s ρ 3))) t 42 (nI (r_s ρ 4))) t 43 (r_done ρ)) t 44 (nI (r_s ρ 5))) t 45 (r_seed ρ), ?_, h2, ⟨⟨?_, ?_, ?_, ?_, ?_, ?_, ?_, ?_⟩, fun c hc6 => ⟨?_, ?_, ?_, ?_, ?_⟩, fun i hi8 => ?_⟩, (((((((k6.wi (by omega)).wi (by omega)).wi (by omega)).wi (by omega)).wi (by omega)).wi (by omega)).wi (by omega)).wi (by omega)⟩
  · rw [show (0 + 6 : Nat) = 6 from rfl] at a1
    rw [show (6 + 6 : Nat) = 12 from rfl] at c1
    rw [show (12 + 6 : Nat) = 18 from rfl] at d1
    rw [show (18 + 6 : Nat) = 24 from rfl] at f1
    rw [show (24 + 6 : Nat) = 30 from rfl] at g1
    rw [show (30 + 8 : Nat) = 38 from rfl] at h1
    simp (disch := first | assumption | omega) only [f_X9_all, f_X9_all_c10, f_X9_all_c24, f_X9_all_c38, f_X9_all_c52, f_X9_all_c66, f_X9_carries, gt_83, gr_83_10, gr_83_11, gr_83_12, gr_83_13, gr_83_14, gr_83_15, l_of, n_ltT, n_ltF, n_leT, n_leF, n_eqT, n_eqF, n_neM, n_Mne, n_M0, n_Mlt, n_0leM, nI_clamp, x_in_nI, n_1, nI_add, x_at, x_bd_s, x_bv_s, ↓x_lt, decide_true, decide_false, Bool.and_self, Bool.true_and, Bool.and_true, if_true, if_false, ite_true, ite_false, ↓reduceIte, not_true_eq_false, not_false_eq_true, Nat.reduceAdd, Nat.reduceMul, Nat.reduceEqDiff, eq_self, true_and, and_true, false_and, and_false, Option.some.injEq, Prod.mk.injEq, l_0, l_1, l_2, l_3, l_4, l_5, l_6, l_7, l_8, l_9, l_10, l_100, l_160, ↓m_1, ↓m_2, ↓m_3, ↓m_4, ↓m_5, ↓m_6, ↓m_7, a1, c1, d1, f1, g1, h1]
    simp (disch := first | assumption | omega) only [f_X9_all_c80, gt_83, tt6, lt6, nI_add, l_of, n_ltT, n_ltF, n_leT, n_leF, n_eqT, n_eqF, n_neM, n_Mne, n_M0, n_Mlt, n_0leM, nI_clamp, x_in_nI, n_1, nI_add, x_at, x_bd_s, x_bv_s, ↓x_lt, decide_true, decide_false, Bool.and_self, Bool.true_and, Bool.and_true, if_true, if_false, ite_true, ite_false, ↓reduceIte, not_true_eq_false, not_false_eq_true, Nat.reduceAdd, Nat.reduceMul, Nat.reduceEqDiff, eq_self, true_and, and_true, false_and, and_false, Option.some.injEq, Prod.mk.injEq, l_0, l_1, l_2, l_3, l_4, l_5, l_6, l_7, l_8, l_9, l_10, l_100, l_160, ↓m_1, ↓m_2, ↓m_3, ↓m_4, ↓m_5, ↓m_6, ↓m_7, ii_wi, ji_wi, ri_wi, ti_wi, li_wi, ii_wj, ji_wj, ri_wj, ti_wj, li_wj, z0, z1, z2, z3, z4, z5, z6, z7, nt]
  · simp (disch := first | assumption | omega) only [ii_wi, ji_wi, ri_wi, ti_wi, li_wi, ii_wj, ji_wj, ri_wj, ti_wj, li_wj, l_of, n_ltT, n_ltF, n_leT, n_leF, n_eqT, n_eqF, n_neM, n_Mne, n_M0, n_Mlt, n_0leM, nI_clamp, x_in_nI, n_1, nI_add, x_at, x_bd_s, x_bv_s, ↓x_lt, decide_true, decide_false, Bool.and_self, Bool.true_and, Bool.and_true, if_true, if_false, ite_true, ite_false, ↓reduceIte, not_true_eq_false, not_false_eq_true, Nat.reduceAdd, Nat.reduceMul, Nat.reduceEqDiff, eq_self, true_and, and_true, false_and, and_false, Option.some.injEq, Prod.mk.injEq, l_0, l_1, l_2, l_3, l_4, l_5, l_6, l_7, l_8, l_9, l_10, l_100, l_160, ↓m_1, ↓m_2, ↓m_3, ↓m_4, ↓m_5, ↓m_6, ↓m_7]
  · simp (disch := first | assumption | omega) only [ii_wi, ji_wi, ri_wi, ti_wi, li_wi, ii_wj, ji_wj, ri_wj, ti_wj, li_wj, l_of, n_ltT, n_ltF, n_leT, n_leF, n_eqT, n_eqF, n_neM, n_Mne, n_M0, n_Mlt, n_0leM, nI_clamp, x_in_nI, n_1, nI_add, x_at, x_bd_s, x_bv_s, ↓x_lt, decide_true, decide_false, Bool.and_self, Bool.true_and, Bool.and_true, if_true, if_false, ite_true, ite_false, ↓reduceIte, not_true_eq_false, not_false_eq_true, Nat.reduceAdd, Nat.reduceMul, Nat.reduceEqDiff, eq_self, true_and, and_true, false_and, and_false, Option.some.injEq, Prod.mk.injEq, l_0, l_1, l_2, l_3, l_4, l_5, l_6, l_7, l_8, l_9, l_10, l_100, l_160, ↓m_1, ↓m_2, ↓m_3, ↓m_4, ↓m_5, ↓m_6, ↓m_7]
  · simp (disch := first | assumption | omega) only [ii_wi, ji_wi, ri_wi, ti_wi, li_wi, ii_wj, ji_wj, ri_wj, ti_wj, li_wj, l_of, n_ltT, n_ltF, n_leT, n_leF, n_eqT, n_eqF, n_neM, n_Mne, n_M0, n_Mlt, n_0leM, nI_clamp, x_in_nI, n_1, nI_add, x_at, x_bd_s, x_bv_s, ↓x_lt, decide_true, decide_false, Bool.and_self, Bool.true_and, Bool.and_true, if_true, if_false, ite_true, ite_false, ↓reduceIte, not_true_eq_false, not_false_eq_true, Nat.reduceAdd, Nat.reduceMul, Nat.reduceEqDiff, eq_self, true_and, and_true, false_and, and_false, Option.some.injEq, Prod.mk.injEq, l_0, l_1, l_2, l_3, l_4, l_5, l_6, l_7, l_8, l_9, l_10, l_100, l_160, ↓m_1, ↓m_2, ↓m_3, ↓m_4, ↓m_5, ↓m_6, ↓m_7]
  · simp (disch := first | assumption | omega) only [ii_wi, ji_wi, ri_wi, ti_wi, li_wi, ii_wj, ji_wj, ri_wj, ti_wj, li_wj, l_of, n_ltT, n_ltF, n_leT, n_leF, n_eqT, n_eqF, n_neM, n_Mne, n_M0, n_Mlt, n_0leM, nI_clamp, x_in_nI, n_1, nI_add, x_at, x_bd_s, x_bv_s, ↓x_lt, decide_true, decide_false, Bool.and_self, Bool.true_and, Bool.and_true, if_true, if_false, ite_true, ite_false, ↓reduceIte, not_true_eq_false, not_false_eq_true, Nat.reduceAdd, Nat.reduceMul, Nat.reduceEqDiff, eq_self, true_and, and_true, false_and, and_false, Option.some.injEq, Prod.mk.injEq, l_0, l_1, l_2, l_3, l_4, l_5, l_6, l_7, l_8, l_9, l_10, l_100, l_160, ↓m_1, ↓m_2, ↓m_3, ↓m_4, ↓m_5, ↓m_6, ↓m_7]
  · simp (disch := first | assumption | omega) only [ii_wi, ji_wi, ri_wi, ti_wi, li_wi, ii_wj, ji_wj, ri_wj, ti_wj, li_wj, l_of, n_ltT, n_ltF, n_leT, n_leF, n_eqT, n_eqF, n_neM, n_Mne, n_M0, n_Mlt, n_0leM, nI_clamp, x_in_nI, n_1, nI_add, x_at, x_bd_s, x_bv_s, ↓x_lt, decide_true, decide_false, Bool.and_self, Bool.true_and, Bool.and_true, if_true, if_false, ite_true, ite_false, ↓reduceIte, not_true_eq_false, not_false_eq_true, Nat.reduceAdd, Nat.reduceMul, Nat.reduceEqDiff, eq_self, true_and, and_true, false_and, and_false, Option.some.injEq, Prod.mk.injEq, l_0, l_1, l_2, l_3, l_4, l_5, l_6, l_7, l_8, l_9, l_10, l_100, l_160, ↓m_1, ↓m_2, ↓m_3, ↓m_4, ↓m_5, ↓m_6, ↓m_7]
  · simp (disch := first | assumption | omega) only [ii_wi, ji_wi, ri_wi, ti_wi, li_wi, ii_wj, ji_wj, ri_wj, ti_wj, li_wj, l_of, n_ltT, n_ltF, n_leT, n_leF, n_eqT, n_eqF, n_neM, n_Mne, n_M0, n_Mlt, n_0leM, nI_clamp, x_in_nI, n_1, nI_add, x_at, x_bd_s, x_bv_s, ↓x_lt, decide_true, decide_false, Bool.and_self, Bool.true_and, Bool.and_true, if_true, if_false, ite_true, ite_false, ↓reduceIte, not_true_eq_false, not_false_eq_true, Nat.reduceAdd, Nat.reduceMul, Nat.reduceEqDiff, eq_self, true_and, and_true, false_and, and_false, Option.some.injEq, Prod.mk.injEq, l_0, l_1, l_2, l_3, l_4, l_5, l_6, l_7, l_8, l_9, l_10, l_100, l_160, ↓m_1, ↓m_2, ↓m_3, ↓m_4, ↓m_5, ↓m_6, ↓m_7]
  · simp (disch := first | assumption | omega) only [ii_wi, ji_wi, ri_wi, ti_wi, li_wi, ii_wj, ji_wj, ri_wj, ti_wj, li_wj, l_of, n_ltT, n_ltF, n_leT, n_leF, n_eqT, n_eqF, n_neM, n_Mne, n_M0, n_Mlt, n_0leM, nI_clamp, x_in_nI, n_1, nI_add, x_at, x_bd_s, x_bv_s, ↓x_lt, decide_true, decide_false, Bool.and_self, Bool.true_and, Bool.and_true, if_true, if_false, ite_true, ite_false, ↓reduceIte, not_true_eq_false, not_false_eq_true, Nat.reduceAdd, Nat.reduceMul, Nat.reduceEqDiff, eq_self, true_and, and_true, false_and, and_false, Option.some.injEq, Prod.mk.injEq, l_0, l_1, l_2, l_3, l_4, l_5, l_6, l_7, l_8, l_9, l_10, l_100, l_160, ↓m_1, ↓m_2, ↓m_3, ↓m_4, ↓m_5, ↓m_6, ↓m_7]
  · simp (disch := first | assumption | omega) only [ii_wi, ji_wi, ri_wi, ti_wi, li_wi, ii_wj, ji_wj, ri_wj, ti_wj, li_wj, l_of, n_ltT, n_ltF, n_leT, n_leF, n_eqT, n_eqF, n_neM, n_Mne, n_M0, n_Mlt, n_0leM, nI_clamp, x_in_nI, n_1, nI_add, x_at, x_bd_s, x_bv_s, ↓x_lt, decide_true, decide_false, Bool.and_self, Bool.true_and, Bool.and_true, if_true, if_false, ite_true, ite_false, ↓reduceIte, not_true_eq_false, not_false_eq_true, Nat.reduceAdd, Nat.reduceMul, Nat.reduceEqDiff, eq_self, true_and, and_true, false_and, and_false, Option.some.injEq, Prod.mk.injEq, l_0, l_1, l_2, l_3, l_4, l_5, l_6, l_7, l_8, l_9, l_10, l_100, l_160, ↓m_1, ↓m_2, ↓m_3, ↓m_4, ↓m_5, ↓m_6, ↓m_7]
  · have q := (hc c hc6).1
    simp only [ii_wi]; repeat rw [if_neg (by omega)]
    rw [h4.1 _ _ (by omega), g4.1 _ _ (by omega), f4.1 _ _ (by omega), d4.1 _ _ (by omega), c4.1 _ _ (by omega)]
    have y := a3 c hc6
    rw [Nat.zero_add] at y
    exact y.trans q
  · have q := (hc c hc6).2.1
    simp only [ii_wi]; repeat rw [if_neg (by omega)]
    rw [h4.1 _ _ (by omega), g4.1 _ _ (by omega), f4.1 _ _ (by omega), d4.1 _ _ (by omega)]
    exact ((c3 c hc6).trans (k1.1 _ _ (by omega))).trans q
  · have q := (hc c hc6).2.2.1
    simp only [ii_wi]; repeat rw [if_neg (by omega)]
    rw [h4.1 _ _ (by omega), g4.1 _ _ (by omega), f4.1 _ _ (by omega)]
    exact ((d3 c hc6).trans (k2.1 _ _ (by omega))).trans q
  · have q := (hc c hc6).2.2.2.1
    simp only [ii_wi]; repeat rw [if_neg (by omega)]
    rw [h4.1 _ _ (by omega), g4.1 _ _ (by omega)]
    exact ((f3 c hc6).trans (k3.1 _ _ (by omega))).trans q
  · have q := (hc c hc6).2.2.2.2
    simp only [ii_wi]; repeat rw [if_neg (by omega)]
    rw [h4.1 _ _ (by omega)]
    exact ((g3 c hc6).trans (k4.1 _ _ (by omega))).trans q
  · have q := hl i hi8
    simp only [ii_wi]; repeat rw [if_neg (by omega)]
    exact ((h3 i hi8).trans (k5.1 _ _ (by omega))).trans q
set_option maxHeartbeats 1000000 in
theorem m_all1 {L : Nat} {b1 b2 : Bool} {M : XM} {t : Nat} {ρ : XR} (hG : Geo L b1 b2 M) (tt : x_tag M t = 1) (lt : x_len M t = 50) (ht2 : 91 ≤ t) (hK : MKt t ρ M) :
    ∃ M', f_X9_all 83 t (nI 1) M = some M' ∧ Geo L b1 b2 M' ∧ MR ρ M' ∧ Fr (fun b k => 85 ≤ b ∧ b < 91 ∨ b = 83 ∧ k < 8) M M' := by
  obtain ⟨⟨e0, e1, e2, e3, e4, e5, e6, e7⟩, hc, hl⟩ := id hK
  have tg : ∀ {N : XM}, Geo L b1 b2 N → x_tag N t = 1 ∧ x_len N t = 50 := fun h => ⟨((ge_tag h).trans (ge_tag hG).symm).trans tt, ((ge_len h).trans (ge_len hG).symm).trans lt⟩
  obtain ⟨M1, a1, a2, a3, a4⟩ := carry1 (a := 85) (t := t) (w := 6) (f := 0) (m := 6) (by omega) (by omega) (by omega) (by omega) 6 x_fuel 0 M (fu (by omega)) hG (gt_85 hG) (gl_85 hG) tt lt (by omega) (fun i h => absurd h (by omega))
  obtain ⟨M2, c1, c2, c3, c4⟩ := carry1 (a := 86) (t := t) (w := 6) (f := 6) (m := 6) (by omega) (by omega) (by omega) (by omega) 6 x_fuel 0 M1 (fu (by omega)) a2 (gt_86 a2) (gl_86 a2) (tg a2).1 (tg a2).2 (by omega) (fun i h => absurd h (by omega))
  obtain ⟨M3, d1, d2, d3, d4⟩ := carry1 (a := 87) (t := t) (w := 6) (f := 12) (m := 6) (by omega) (by omega) (by omega) (by omega) 6 x_fuel 0 M2 (fu (by omega)) c2 (gt_87 c2) (gl_87 c2) (tg c2).1 (tg c2).2 (by omega) (fun i h => absurd h (by omega))
  obtain ⟨M4, f1, f2, f3, f4⟩ := carry1 (a := 88) (t := t) (w := 6) (f := 18) (m := 6) (by omega) (by omega) (by omega) (by omega) 6 x_fuel 0 M3 (fu (by omega)) d2 (gt_88 d2) (gl_88 d2) (tg d2).1 (tg d2).2 (by omega) (fun i h => absurd h (by omega))
  obtain ⟨M5, g1, g2, g3, g4⟩ := carry1 (a := 89) (t := t) (w := 6) (f := 24) (m := 6) (by omega) (by omega) (by omega) (by omega) 6 x_fuel 0 M4 (fu (by omega)) f2 (gt_89 f2) (gl_89 f2) (tg f2).1 (tg f2).2 (by omega) (fun i h => absurd h (by omega))
  obtain ⟨M6, h1, h2, h3, h4⟩ := carry1 (a := 90) (t := t) (w := 8) (f := 30) (m := 8) (by omega) (by omega) (by omega) (by omega) 8 x_fuel 0 M5 (fu (by omega)) g2 (gt_90 g2) (gl_90 g2) (tg g2).1 (tg g2).2 (by omega) (fun i h => absurd h (by omega))
  have z : ∀ j, x_i M6 t j = x_i M t j := fun j => (h4.1 _ _ (by omega)).trans ((g4.1 _ _ (by omega)).trans ((f4.1 _ _ (by omega)).trans ((d4.1 _ _ (by omega)).trans ((c4.1 _ _ (by omega)).trans (a4.1 _ _ (by omega))))))
  have z0 := (z 38).trans e0
  have z1 := (z 39).trans e1
  have z2 := (z 40).trans e2
  have z3 := (z 41).trans e3
  have z4 := (z 42).trans e4
  have z5 := (z 44).trans e5
  have z6 := (z 43).trans e6
  have z7 := (z 45).trans e7
  have y1 : ∀ j, x_i M1 t j = x_i M t j := fun j => a4.1 _ _ (by omega)
  have y2 : ∀ j, x_i M2 t j = x_i M t j := fun j => (c4.1 _ _ (by omega)).trans (y1 j)
  have y3 : ∀ j, x_i M3 t j = x_i M t j := fun j => (d4.1 _ _ (by omega)).trans (y2 j)
  have y4 : ∀ j, x_i M4 t j = x_i M t j := fun j => (f4.1 _ _ (by omega)).trans (y3 j)
  have y5 : ∀ j, x_i M5 t j = x_i M t j := fun j => (g4.1 _ _ (by omega)).trans (y4 j)
  have nt : (t = 83) = False := eq_false (by omega)
  have tt6 := (tg h2).1
  have lt6 := (tg h2).2
  have k6 : Fr (fun b k => 85 ≤ b ∧ b < 91 ∨ b = 83 ∧ k < 8) M M6 := (((((a4.mono (fun b k q => by omega)).tr (c4.mono (fun b k q => by omega))).tr (d4.mono (fun b k q => by omega))).tr (f4.mono (fun b k q => by omega))).tr (g4.mono (fun b k q => by omega))).tr (h4.mono (fun b k q => by omega))
  refine ⟨x_wi (x_wi (x_wi (x_wi (x_wi (x_wi (x_wi (x_wi M6 83 0 (nI (r_s ρ 0))) 83 1 (nI (r_s ρ 1))) 83 2 (nI (r_s ρ 2))) 83 3 (nI (r_s ρ 3))) 83 4 (nI (r_s ρ 4))) 83 5 (r_done ρ)) 83 6 (nI (r_s ρ 5))) 83 7 (r_seed ρ), ?_, h2, ⟨⟨?_, ?_, ?_, ?_, ?_, ?_, ?_, ?_⟩, fun c hc6 => ⟨?_, ?_, ?_, ?_, ?_⟩, fun i hi8 => ?_⟩, (((((((k6.wi (by omega)).wi (by omega)).wi (by omega)).wi (by omega)).wi (by omega)).wi (by omega)).wi (by omega)).wi (by omega)⟩
  · rw [show (0 + 6 : Nat) = 6 from rfl] at a1
    rw [show (6 + 6 : Nat) = 12 from rfl] at c1
    rw [show (12 + 6 : Nat) = 18 from rfl] at d1
    rw [show (18 + 6 : Nat) = 24 from rfl] at f1
    rw [show (24 + 6 : Nat) = 30 from rfl] at g1
    rw [show (30 + 8 : Nat) = 38 from rfl] at h1
    simp (disch := first | assumption | omega) only [f_X9_all, f_X9_all_c10, f_X9_all_c24, f_X9_all_c38, f_X9_all_c52, f_X9_all_c66, f_X9_carries, gt_83, gr_83_10, gr_83_11, gr_83_12, gr_83_13, gr_83_14, gr_83_15, l_of, n_ltT, n_ltF, n_leT, n_leF, n_eqT, n_eqF, n_neM, n_Mne, n_M0, n_Mlt, n_0leM, nI_clamp, x_in_nI, n_1, nI_add, x_at, x_bd_s, x_bv_s, ↓x_lt, decide_true, decide_false, Bool.and_self, Bool.true_and, Bool.and_true, if_true, if_false, ite_true, ite_false, ↓reduceIte, not_true_eq_false, not_false_eq_true, Nat.reduceAdd, Nat.reduceMul, Nat.reduceEqDiff, eq_self, true_and, and_true, false_and, and_false, Option.some.injEq, Prod.mk.injEq, l_0, l_1, l_2, l_3, l_4, l_5, l_6, l_7, l_8, l_9, l_10, l_100, l_160, ↓m_1, ↓m_2, ↓m_3, ↓m_4, ↓m_5, ↓m_6, ↓m_7, a1, c1, d1, f1, g1, h1]
    simp (disch := first | assumption | omega) only [f_X9_all_c80, gt_83, tt6, lt6, nI_add, l_of, n_ltT, n_ltF, n_leT, n_leF, n_eqT, n_eqF, n_neM, n_Mne, n_M0, n_Mlt, n_0leM, nI_clamp, x_in_nI, n_1, nI_add, x_at, x_bd_s, x_bv_s, ↓x_lt, decide_true, decide_false, Bool.and_self, Bool.true_and, Bool.and_true, if_true, if_false, ite_true, ite_false, ↓reduceIte, not_true_eq_false, not_false_eq_true, Nat.reduceAdd, Nat.reduceMul, Nat.reduceEqDiff, eq_self, true_and, and_true, false_and, and_false, Option.some.injEq, Prod.mk.injEq, l_0, l_1, l_2, l_3, l_4, l_5, l_6, l_7, l_8, l_9, l_10, l_100, l_160, ↓m_1, ↓m_2, ↓m_3, ↓m_4, ↓m_5, ↓m_6, ↓m_7, ii_wi, ji_wi, ri_wi, ti_wi, li_wi, ii_wj, ji_wj, ri_wj, ti_wj, li_wj, z0, z1, z2, z3, z4, z5, z6, z7, nt]
  · simp (disch := first | assumption | omega) only [ii_wi, ji_wi, ri_wi, ti_wi, li_wi, ii_wj, ji_wj, ri_wj, ti_wj, li_wj, l_of, n_ltT, n_ltF, n_leT, n_leF, n_eqT, n_eqF, n_neM, n_Mne, n_M0, n_Mlt, n_0leM, nI_clamp, x_in_nI, n_1, nI_add, x_at, x_bd_s, x_bv_s, ↓x_lt, decide_true, decide_false, Bool.and_self, Bool.true_and, Bool.and_true, if_true, if_false, ite_true, ite_false, ↓reduceIte, not_true_eq_false, not_false_eq_true, Nat.reduceAdd, Nat.reduceMul, Nat.reduceEqDiff, eq_self, true_and, and_true, false_and, and_false, Option.some.injEq, Prod.mk.injEq, l_0, l_1, l_2, l_3, l_4, l_5, l_6, l_7, l_8, l_9, l_10, l_100, l_160, ↓m_1, ↓m_2, ↓m_3, ↓m_4, ↓m_5, ↓m_6, ↓m_7]
  · simp (disch := first | assumption | omega) only [ii_wi, ji_wi, ri_wi, ti_wi, li_wi, ii_wj, ji_wj, ri_wj, ti_wj, li_wj, l_of, n_ltT, n_ltF, n_leT, n_leF, n_eqT, n_eqF, n_neM, n_Mne, n_M0, n_Mlt, n_0leM, nI_clamp, x_in_nI, n_1, nI_add, x_at, x_bd_s, x_bv_s, ↓x_lt, decide_true, decide_false, Bool.and_self, Bool.true_and, Bool.and_true, if_true, if_false, ite_true, ite_false, ↓reduceIte, not_true_eq_false, not_false_eq_true, Nat.reduceAdd, Nat.reduceMul, Nat.reduceEqDiff, eq_self, true_and, and_true, false_and, and_false, Option.some.injEq, Prod.mk.injEq, l_0, l_1, l_2, l_3, l_4, l_5, l_6, l_7, l_8, l_9, l_10, l_100, l_160, ↓m_1, ↓m_2, ↓m_3, ↓m_4, ↓m_5, ↓m_6, ↓m_7]
  · simp (disch := first | assumption | omega) only [ii_wi, ji_wi, ri_wi, ti_wi, li_wi, ii_wj, ji_wj, ri_wj, ti_wj, li_wj, l_of, n_ltT, n_ltF, n_leT, n_leF, n_eqT, n_eqF, n_neM, n_Mne, n_M0, n_Mlt, n_0leM, nI_clamp, x_in_nI, n_1, nI_add, x_at, x_bd_s, x_bv_s, ↓x_lt, decide_true, decide_false, Bool.and_self, Bool.true_and, Bool.and_true, if_true, if_false, ite_true, ite_false, ↓reduceIte, not_true_eq_false, not_false_eq_true, Nat.reduceAdd, Nat.reduceMul, Nat.reduceEqDiff, eq_self, true_and, and_true, false_and, and_false, Option.some.injEq, Prod.mk.injEq, l_0, l_1, l_2, l_3, l_4, l_5, l_6, l_7, l_8, l_9, l_10, l_100, l_160, ↓m_1, ↓m_2, ↓m_3, ↓m_4, ↓m_5, ↓m_6, ↓m_7]
  · simp (disch := first | assumption | omega) only [ii_wi, ji_wi, ri_wi, ti_wi, li_wi, ii_wj, ji_wj, ri_wj, ti_wj, li_wj, l_of, n_ltT, n_ltF, n_leT, n_leF, n_eqT, n_eqF, n_neM, n_Mne, n_M0, n_Mlt, n_0leM, nI_clamp, x_in_nI, n_1, nI_add, x_at, x_bd_s, x_bv_s, ↓x_lt, decide_true, decide_false, Bool.and_self, Bool.true_and, Bool.and_true, if_true, if_false, ite_true, ite_false, ↓reduceIte, not_true_eq_false, not_false_eq_true, Nat.reduceAdd, Nat.reduceMul, Nat.reduceEqDiff, eq_self, true_and, and_true, false_and, and_false, Option.some.injEq, Prod.mk.injEq, l_0, l_1, l_2, l_3, l_4, l_5, l_6, l_7, l_8, l_9, l_10, l_100, l_160, ↓m_1, ↓m_2, ↓m_3, ↓m_4, ↓m_5, ↓m_6, ↓m_7]
  · simp (disch := first | assumption | omega) only [ii_wi, ji_wi, ri_wi, ti_wi, li_wi, ii_wj, ji_wj, ri_wj, ti_wj, li_wj, l_of, n_ltT, n_ltF, n_leT, n_leF, n_eqT, n_eqF, n_neM, n_Mne, n_M0, n_Mlt, n_0leM, nI_clamp, x_in_nI, n_1, nI_add, x_at, x_bd_s, x_bv_s, ↓x_lt, decide_true, decide_false, Bool.and_self, Bool.true_and, Bool.and_true, if_true, if_false, ite_true, ite_false, ↓reduceIte, not_true_eq_false, not_false_eq_true, Nat.reduceAdd, Nat.reduceMul, Nat.reduceEqDiff, eq_self, true_and, and_true, false_and, and_false, Option.some.injEq, Prod.mk.injEq, l_0, l_1, l_2, l_3, l_4, l_5, l_6, l_7, l_8, l_9, l_10, l_100, l_160, ↓m_1, ↓m_2, ↓m_3, ↓m_4, ↓m_5, ↓m_6, ↓m_7]
  · simp (disch := first | assumption | omega) only [ii_wi, ji_wi, ri_wi, ti_wi, li_wi, ii_wj, ji_wj, ri_wj, ti_wj, li_wj, l_of, n_ltT, n_ltF, n_leT, n_leF, n_eqT, n_eqF, n_neM, n_Mne, n_M0, n_Mlt, n_0leM, nI_clamp, x_in_nI, n_1, nI_add, x_at, x_bd_s, x_bv_s, ↓x_lt, decide_true, decide_false, Bool.and_self, Bool.true_and, Bool.and_true, if_true, if_false, ite_true, ite_false, ↓reduceIte, not_true_eq_false, not_false_eq_true, Nat.reduceAdd, Nat.reduceMul, Nat.reduceEqDiff, eq_self, true_and, and_true, false_and, and_false, Option.some.injEq, Prod.mk.injEq, l_0, l_1, l_2, l_3, l_4, l_5, l_6, l_7, l_8, l_9, l_10, l_100, l_160, ↓m_1, ↓m_2, ↓m_3, ↓m_4, ↓m_5, ↓m_6, ↓m_7]
  · simp (disch := first | assumption | omega) only [ii_wi, ji_wi, ri_wi, ti_wi, li_wi, ii_wj, ji_wj, ri_wj, ti_wj, li_wj, l_of, n_ltT, n_ltF, n_leT, n_leF, n_eqT, n_eqF, n_neM, n_Mne, n_M0, n_Mlt, n_0leM, nI_clamp, x_in_nI, n_1, nI_add, x_at, x_bd_s, x_bv_s, ↓x_lt, decide_true, decide_false, Bool.and_self, Bool.true_and, Bool.and_true, if_true, if_false, ite_true, ite_false, ↓reduceIte, not_true_eq_false, not_false_eq_true, Nat.reduceAdd, Nat.reduceMul, Nat.reduceEqDiff, eq_self, true_and, and_true, false_and, and_false, Option.some.injEq, Prod.mk.injEq, l_0, l_1, l_2, l_3, l_4, l_5, l_6, l_7, l_8, l_9, l_10, l_100, l_160, ↓m_1, ↓m_2, ↓m_3, ↓m_4, ↓m_5, ↓m_6, ↓m_7]
  · simp (disch := first | assumption | omega) only [ii_wi, ji_wi, ri_wi, ti_wi, li_wi, ii_wj, ji_wj, ri_wj, ti_wj, li_wj, l_of, n_ltT, n_ltF, n_leT, n_leF, n_eqT, n_eqF, n_neM, n_Mne, n_M0, n_Mlt, n_0leM, nI_clamp, x_in_nI, n_1, nI_add, x_at, x_bd_s, x_bv_s, ↓x_lt, decide_true, decide_false, Bool.and_self, Bool.true_and, Bool.and_true, if_true, if_false, ite_true, ite_false, ↓reduceIte, not_true_eq_false, not_false_eq_true, Nat.reduceAdd, Nat.reduceMul, Nat.reduceEqDiff, eq_self, true_and, and_true, false_and, and_false, Option.some.injEq, Prod.mk.injEq, l_0, l_1, l_2, l_3, l_4, l_5, l_6, l_7, l_8, l_9, l_10, l_100, l_160, ↓m_1, ↓m_2, ↓m_3, ↓m_4, ↓m_5, ↓m_6, ↓m_7]
  · have q := (hc c hc6).1
    simp only [ii_wi]; repeat rw [if_neg (by omega)]
    rw [h4.1 _ _ (by omega), g4.1 _ _ (by omega), f4.1 _ _ (by omega), d4.1 _ _ (by omega), c4.1 _ _ (by omega)]
    have y := a3 c hc6
    rw [Nat.zero_add] at y
    exact y.trans q
  · have q := (hc c hc6).2.1
    simp only [ii_wi]; repeat rw [if_neg (by omega)]
    rw [h4.1 _ _ (by omega), g4.1 _ _ (by omega), f4.1 _ _ (by omega), d4.1 _ _ (by omega)]
    exact ((c3 c hc6).trans (y1 _)).trans q
  · have q := (hc c hc6).2.2.1
    simp only [ii_wi]; repeat rw [if_neg (by omega)]
    rw [h4.1 _ _ (by omega), g4.1 _ _ (by omega), f4.1 _ _ (by omega)]
    exact ((d3 c hc6).trans (y2 _)).trans q
  · have q := (hc c hc6).2.2.2.1
    simp only [ii_wi]; repeat rw [if_neg (by omega)]
    rw [h4.1 _ _ (by omega), g4.1 _ _ (by omega)]
    exact ((f3 c hc6).trans (y3 _)).trans q
  · have q := (hc c hc6).2.2.2.2
    simp only [ii_wi]; repeat rw [if_neg (by omega)]
    rw [h4.1 _ _ (by omega)]
    exact ((g3 c hc6).trans (y4 _)).trans q
  · have q := hl i hi8
    simp only [ii_wi]; repeat rw [if_neg (by omega)]
    exact ((h3 i hi8).trans (y5 _)).trans q
