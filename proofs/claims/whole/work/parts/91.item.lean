section
variable {L : Nat} {b1 b2 : Bool} {M : XM} {T : Nat → Int32} {n : Nat} {ρ : XR} {Q : Nat}
theorem wz_m {p : Nat} (d : Nat) : ∀ (k m : Nat), m ≤ 7 → (wz T n p d k m).2 ≤ 7 := by
  induction d with
  | zero => intro k m h; exact h
  | succ d ih =>
    intro k m h
    unfold wz
    split
    · exact h
    · refine ih _ _ ?_
      have h1 := A_le (T := T) (n := n) (p := p) (k := k)
      have h2 := nl_b k
      split <;> omega
theorem IE.mono {M1 M' : XM} {r : Option Nat × Nat × XR} (h : IE L b1 b2 T n M1 r M') (f : Fr P7 M M1) : IE L b1 b2 T n M r M' := ⟨h.1, f.tr h.2.1, h.2.2⟩
theorem c_room {k : Nat} (hG : Geo L b1 b2 M) (hD : CR 40 ρ M) (hV : WF Q ρ) (hk : k < 7) : f_X5_hasRoomFor 39 (nI k) M = some (if (k = 5 ∧ 6 ≤ r_s ρ 0) ∨ (k = 4 ∧ 8 ≤ r_s ρ 5) then nI 0 else nI 1, M) := by
  obtain ⟨⟨w0, w1, w2, w3, w4, w5, w6, w7⟩, wc, wl, wt⟩ := id hV
  have e0 := hD.1.1
  have e5 := hD.1.2.2.2.2.2.1
  by_cases h5 : k = 5
  · subst h5
    by_cases q : 6 ≤ r_s ρ 0
    · rw [if_pos (Or.inl ⟨rfl, q⟩)]
      simp (disch := first | assumption | omega) only [f_X5_hasRoomFor, f_X5_hasRoomFor_c22, f_X4_hasRoomForCounter, gt_39, gr_39_1, gt_40, gr_40_0, gt_41, gl_41, e0, true_or, or_true, l_of, n_ltT, n_ltF, n_leT, n_leF, n_eqT, n_eqF, n_neM, n_Mne, n_M0, n_Mlt, n_0leM, nI_clamp, x_in_nI, n_1, nI_add, x_at, x_bd_s, x_bv_s, ↓x_lt, decide_true, decide_false, Bool.and_self, Bool.true_and, Bool.and_true, if_true, if_false, ite_true, ite_false, ↓reduceIte, not_true_eq_false, not_false_eq_true, Nat.reduceAdd, Nat.reduceMul, Nat.reduceEqDiff, eq_self, true_and, and_true, false_and, and_false, Option.some.injEq, Prod.mk.injEq, l_0, l_1, l_2, l_3, l_4, l_5, l_6, l_7, l_8, l_9, l_10, l_100, l_160, ↓m_1, ↓m_2, ↓m_3, ↓m_4, ↓m_5, ↓m_6, ↓m_7]
    · rw [if_neg (by omega)]
      simp (disch := first | assumption | omega) only [f_X5_hasRoomFor, f_X5_hasRoomFor_c22, f_X4_hasRoomForCounter, gt_39, gr_39_1, gt_40, gr_40_0, gt_41, gl_41, e0, true_or, or_true, l_of, n_ltT, n_ltF, n_leT, n_leF, n_eqT, n_eqF, n_neM, n_Mne, n_M0, n_Mlt, n_0leM, nI_clamp, x_in_nI, n_1, nI_add, x_at, x_bd_s, x_bv_s, ↓x_lt, decide_true, decide_false, Bool.and_self, Bool.true_and, Bool.and_true, if_true, if_false, ite_true, ite_false, ↓reduceIte, not_true_eq_false, not_false_eq_true, Nat.reduceAdd, Nat.reduceMul, Nat.reduceEqDiff, eq_self, true_and, and_true, false_and, and_false, Option.some.injEq, Prod.mk.injEq, l_0, l_1, l_2, l_3, l_4, l_5, l_6, l_7, l_8, l_9, l_10, l_100, l_160, ↓m_1, ↓m_2, ↓m_3, ↓m_4, ↓m_5, ↓m_6, ↓m_7]
  by_cases h4 : k = 4
  · subst h4
    by_cases q : 8 ≤ r_s ρ 5
    · rw [if_pos (Or.inr ⟨rfl, q⟩)]
      simp (disch := first | assumption | omega) only [f_X5_hasRoomFor, f_X5_hasRoomFor_c22, f_X4_hasRoomForTally, gt_39, gr_39_1, gt_40, gr_40_6, gt_42, gl_42, e5, l_8, l_of, n_ltT, n_ltF, n_leT, n_leF, n_eqT, n_eqF, n_neM, n_Mne, n_M0, n_Mlt, n_0leM, nI_clamp, x_in_nI, n_1, nI_add, x_at, x_bd_s, x_bv_s, ↓x_lt, decide_true, decide_false, Bool.and_self, Bool.true_and, Bool.and_true, if_true, if_false, ite_true, ite_false, ↓reduceIte, not_true_eq_false, not_false_eq_true, Nat.reduceAdd, Nat.reduceMul, Nat.reduceEqDiff, eq_self, true_and, and_true, false_and, and_false, Option.some.injEq, Prod.mk.injEq, l_0, l_1, l_2, l_3, l_4, l_5, l_6, l_7, l_8, l_9, l_10, l_100, l_160, ↓m_1, ↓m_2, ↓m_3, ↓m_4, ↓m_5, ↓m_6, ↓m_7]
    · rw [if_neg (by omega)]
      simp (disch := first | assumption | omega) only [f_X5_hasRoomFor, f_X5_hasRoomFor_c22, f_X4_hasRoomForTally, gt_39, gr_39_1, gt_40, gr_40_6, gt_42, gl_42, e5, l_8, l_of, n_ltT, n_ltF, n_leT, n_leF, n_eqT, n_eqF, n_neM, n_Mne, n_M0, n_Mlt, n_0leM, nI_clamp, x_in_nI, n_1, nI_add, x_at, x_bd_s, x_bv_s, ↓x_lt, decide_true, decide_false, Bool.and_self, Bool.true_and, Bool.and_true, if_true, if_false, ite_true, ite_false, ↓reduceIte, not_true_eq_false, not_false_eq_true, Nat.reduceAdd, Nat.reduceMul, Nat.reduceEqDiff, eq_self, true_and, and_true, false_and, and_false, Option.some.injEq, Prod.mk.injEq, l_0, l_1, l_2, l_3, l_4, l_5, l_6, l_7, l_8, l_9, l_10, l_100, l_160, ↓m_1, ↓m_2, ↓m_3, ↓m_4, ↓m_5, ↓m_6, ↓m_7]
  · rw [if_neg (by omega)]
    simp (disch := first | assumption | omega) only [f_X5_hasRoomFor, h5, h4, l_of, n_ltT, n_ltF, n_leT, n_leF, n_eqT, n_eqF, n_neM, n_Mne, n_M0, n_Mlt, n_0leM, nI_clamp, x_in_nI, n_1, nI_add, x_at, x_bd_s, x_bv_s, ↓x_lt, decide_true, decide_false, Bool.and_self, Bool.true_and, Bool.and_true, if_true, if_false, ite_true, ite_false, ↓reduceIte, not_true_eq_false, not_false_eq_true, Nat.reduceAdd, Nat.reduceMul, Nat.reduceEqDiff, eq_self, true_and, and_true, false_and, and_false, Option.some.injEq, Prod.mk.injEq, l_0, l_1, l_2, l_3, l_4, l_5, l_6, l_7, l_8, l_9, l_10, l_100, l_160, ↓m_1, ↓m_2, ↓m_3, ↓m_4, ↓m_5, ↓m_6, ↓m_7]
theorem c_item {p : Nat} (hG : Geo L b1 b2 M) (hT : CT M) (hS : CS M) (hR : RS T n p (nM 1) M) (hD : CR 40 ρ M) (hV : WF Q ρ) (hQ : Q ≤ 810000) (hn : n ≤ 160) (hp : p ≤ n) :
    ∃ M', f_X5_readItem 39 M = some M' ∧ IE L b1 b2 T n M (it T n p ρ) M' := by
  obtain ⟨r0, r3, r4, r5⟩ := id hR
  have hw : f_X5_readWord 39 M = some (wV (wz T n p 7 0 0), wM p (wz T n p 7 0 0) M) := c_word hG hS hR hn hp 7 x_fuel 0 0 (fu (by omega)) rfl (by omega)
  have hm := wz_m (T := T) (n := n) (p := p) 7 0 0 (by omega)
  have hz := wz_b (T := T) (n := n) (p := p) 7 0 0 rfl
  unfold it
  generalize wz T n p 7 0 0 = r at hw hm hz ⊢
  obtain ⟨k, m⟩ := r
  dsimp only at hm hz ⊢
  by_cases h7 : k = 7
  · subst h7
    rw [if_pos rfl]
    have hw : f_X5_readWord 39 M = some (nM 1, x_wi M 39 0 (nI (p + m))) := hw
    refine ⟨x_wi M 39 0 (nI (p + m)), ?_, hG, Fr.rf.wi (by omega), _, hR.w0, fun z => absurd z (by intro z; cases z)⟩
    simp (disch := first | assumption | omega) only [f_X5_readItem, f_X5_readItem_c15, gt_39, r0, hw, l_of, n_ltT, n_ltF, n_leT, n_leF, n_eqT, n_eqF, n_neM, n_Mne, n_M0, n_Mlt, n_0leM, nI_clamp, x_in_nI, n_1, nI_add, x_at, x_bd_s, x_bv_s, ↓x_lt, decide_true, decide_false, Bool.and_self, Bool.true_and, Bool.and_true, if_true, if_false, ite_true, ite_false, ↓reduceIte, not_true_eq_false, not_false_eq_true, Nat.reduceAdd, Nat.reduceMul, Nat.reduceEqDiff, eq_self, true_and, and_true, false_and, and_false, Option.some.injEq, Prod.mk.injEq, l_0, l_1, l_2, l_3, l_4, l_5, l_6, l_7, l_8, l_9, l_10, l_100, l_160, ↓m_1, ↓m_2, ↓m_3, ↓m_4, ↓m_5, ↓m_6, ↓m_7, ii_wi, ji_wi, ri_wi, ti_wi, li_wi, ii_wj, ji_wj, ri_wj, ti_wj, li_wj]
  rw [if_neg h7]
  have hk : k < 7 := by omega
  have hA := hz.2 hk
  have hp1 := A_n (T := T) (k := k) hp
  rw [hA] at hp1
  have hnl := nl_b k
  have w1 : wV (k, m) = nI k := if_neg h7
  have w2 : wM p (k, m) M = x_wi M 39 4 (nI (p + nl k)) := if_neg h7
  rw [w1, w2] at hw
  have f1 : Fr P7 M (x_wi M 39 4 (nI (p + nl k))) := Fr.rf.wi (by omega)
  have hG1 : Geo L b1 b2 (x_wi M 39 4 (nI (p + nl k))) := hG
  have hR1 : RS T n (p + nl k) (nM 1) (x_wi M 39 4 (nI (p + nl k))) := hR.w4
  have hD1 : CR 40 ρ (x_wi M 39 4 (nI (p + nl k))) := hD.ag (Agr.rf.wi (by omega))
  have hT1 : CT (x_wi M 39 4 (nI (p + nl k))) := hT.ag (Agr.rf.wi (by omega))
  have st : f_X5_readItem 39 M = f_X5_readItem_c15 39 (nI p) (nI k) (x_wi M 39 4 (nI (p + nl k))) := by
    simp (disch := first | assumption | omega) only [f_X5_readItem, gt_39, r0, r4, hw, l_of, n_ltT, n_ltF, n_leT, n_leF, n_eqT, n_eqF, n_neM, n_Mne, n_M0, n_Mlt, n_0leM, nI_clamp, x_in_nI, n_1, nI_add, x_at, x_bd_s, x_bv_s, ↓x_lt, decide_true, decide_false, Bool.and_self, Bool.true_and, Bool.and_true, if_true, if_false, ite_true, ite_false, ↓reduceIte, not_true_eq_false, not_false_eq_true, Nat.reduceAdd, Nat.reduceMul, Nat.reduceEqDiff, eq_self, true_and, and_true, false_and, and_false, Option.some.injEq, Prod.mk.injEq, l_0, l_1, l_2, l_3, l_4, l_5, l_6, l_7, l_8, l_9, l_10, l_100, l_160, ↓m_1, ↓m_2, ↓m_3, ↓m_4, ↓m_5, ↓m_6, ↓m_7]
  rw [st]
  clear st hw w1 w2 hR r0 r3 r4 r5
  generalize x_wi M 39 4 (nI (p + nl k)) = W at f1 hG1 hR1 hD1 hT1 ⊢
  have hr := c_room hG1 hD1 hV hk
  have r0 := hR1.1
  by_cases hf : (k = 5 ∧ 6 ≤ r_s ρ 0) ∨ (k = 4 ∧ 8 ≤ r_s ρ 5)
  · rw [if_pos hf] at hr ⊢
    refine ⟨x_wi W 39 0 (nI p), ?_, hG1, f1.wi (by omega), _, hR1.w0, fun z => absurd z (by intro z; cases z)⟩
    simp (disch := first | assumption | omega) only [f_X5_readItem_c15, f_X5_readItem_c30, gt_39, r0, hr, l_of, n_ltT, n_ltF, n_leT, n_leF, n_eqT, n_eqF, n_neM, n_Mne, n_M0, n_Mlt, n_0leM, nI_clamp, x_in_nI, n_1, nI_add, x_at, x_bd_s, x_bv_s, ↓x_lt, decide_true, decide_false, Bool.and_self, Bool.true_and, Bool.and_true, if_true, if_false, ite_true, ite_false, ↓reduceIte, not_true_eq_false, not_false_eq_true, Nat.reduceAdd, Nat.reduceMul, Nat.reduceEqDiff, eq_self, true_and, and_true, false_and, and_false, Option.some.injEq, Prod.mk.injEq, l_0, l_1, l_2, l_3, l_4, l_5, l_6, l_7, l_8, l_9, l_10, l_100, l_160, ↓m_1, ↓m_2, ↓m_3, ↓m_4, ↓m_5, ↓m_6, ↓m_7]
  rw [if_neg hf] at hr ⊢
  have x1 := c_expect (c := 32) hG1 hR1 hn (by omega) (by omega)
  unfold eM at x1
  have k32 : (32 : Int32) = nI 32 := rfl
  by_cases w : ok1 T n (p + nl k) 32
  · rw [if_pos w] at x1 ⊢
    have wn := w.1
    have f2 : Fr P7 M (x_wi W 39 4 (nI (p + nl k + 1))) := f1.wi (by omega)
    have hG2 : Geo L b1 b2 (x_wi W 39 4 (nI (p + nl k + 1))) := hG1
    have hR2 : RS T n (p + nl k + 1) (nM 1) (x_wi W 39 4 (nI (p + nl k + 1))) := hR1.w4
    have hD2 : CR 40 ρ (x_wi W 39 4 (nI (p + nl k + 1))) := hD1.ag (Agr.rf.wi (by omega))
    have hT2 : CT (x_wi W 39 4 (nI (p + nl k + 1))) := hT1.ag (Agr.rf.wi (by omega))
    have st : f_X5_readItem_c15 39 (nI p) (nI k) W = f_X5_readItem_c45 39 (nI k) (x_wi W 39 4 (nI (p + nl k + 1))) := by
      simp (disch := first | assumption | omega) only [f_X5_readItem_c15, f_X5_readItem_c30, gt_39, r0, hr, k32, x1, l_of, n_ltT, n_ltF, n_leT, n_leF, n_eqT, n_eqF, n_neM, n_Mne, n_M0, n_Mlt, n_0leM, nI_clamp, x_in_nI, n_1, nI_add, x_at, x_bd_s, x_bv_s, ↓x_lt, decide_true, decide_false, Bool.and_self, Bool.true_and, Bool.and_true, if_true, if_false, ite_true, ite_false, ↓reduceIte, not_true_eq_false, not_false_eq_true, Nat.reduceAdd, Nat.reduceMul, Nat.reduceEqDiff, eq_self, true_and, and_true, false_and, and_false, Option.some.injEq, Prod.mk.injEq, l_0, l_1, l_2, l_3, l_4, l_5, l_6, l_7, l_8, l_9, l_10, l_100, l_160, ↓m_1, ↓m_2, ↓m_3, ↓m_4, ↓m_5, ↓m_6, ↓m_7]
    rw [st]
    clear st x1 hr r0
    generalize x_wi W 39 4 (nI (p + nl k + 1)) = V at f2 hG2 hR2 hD2 hT2 ⊢
    by_cases h5 : k = 5
    · subst h5
      obtain ⟨M2, g1, g2⟩ := c_itC hG2 hR2 hD2 hn (by omega) (by omega)
      refine ⟨M2, ?_, g2.mono f2⟩
      simp (disch := first | assumption | omega) only [f_X5_readItem_c45, gt_39, g1, l_of, n_ltT, n_ltF, n_leT, n_leF, n_eqT, n_eqF, n_neM, n_Mne, n_M0, n_Mlt, n_0leM, nI_clamp, x_in_nI, n_1, nI_add, x_at, x_bd_s, x_bv_s, ↓x_lt, decide_true, decide_false, Bool.and_self, Bool.true_and, Bool.and_true, if_true, if_false, ite_true, ite_false, ↓reduceIte, not_true_eq_false, not_false_eq_true, Nat.reduceAdd, Nat.reduceMul, Nat.reduceEqDiff, eq_self, true_and, and_true, false_and, and_false, Option.some.injEq, Prod.mk.injEq, l_0, l_1, l_2, l_3, l_4, l_5, l_6, l_7, l_8, l_9, l_10, l_100, l_160, ↓m_1, ↓m_2, ↓m_3, ↓m_4, ↓m_5, ↓m_6, ↓m_7]
    by_cases h4 : k = 4
    · subst h4
      obtain ⟨M2, g1, g2⟩ := c_itT hG2 hR2 hD2 hn (by omega) (by omega)
      refine ⟨M2, ?_, g2.mono f2⟩
      simp (disch := first | assumption | omega) only [f_X5_readItem_c45, gt_39, g1, l_of, n_ltT, n_ltF, n_leT, n_leF, n_eqT, n_eqF, n_neM, n_Mne, n_M0, n_Mlt, n_0leM, nI_clamp, x_in_nI, n_1, nI_add, x_at, x_bd_s, x_bv_s, ↓x_lt, decide_true, decide_false, Bool.and_self, Bool.true_and, Bool.and_true, if_true, if_false, ite_true, ite_false, ↓reduceIte, not_true_eq_false, not_false_eq_true, Nat.reduceAdd, Nat.reduceMul, Nat.reduceEqDiff, eq_self, true_and, and_true, false_and, and_false, Option.some.injEq, Prod.mk.injEq, l_0, l_1, l_2, l_3, l_4, l_5, l_6, l_7, l_8, l_9, l_10, l_100, l_160, ↓m_1, ↓m_2, ↓m_3, ↓m_4, ↓m_5, ↓m_6, ↓m_7]
    by_cases h6 : k = 6
    · subst h6
      obtain ⟨M2, g1, g2⟩ := c_itA hG2 hR2 hD2 hV hQ hn (by omega)
      refine ⟨M2, ?_, g2.mono f2⟩
      simp (disch := first | assumption | omega) only [f_X5_readItem_c45, gt_39, g1, l_of, n_ltT, n_ltF, n_leT, n_leF, n_eqT, n_eqF, n_neM, n_Mne, n_M0, n_Mlt, n_0leM, nI_clamp, x_in_nI, n_1, nI_add, x_at, x_bd_s, x_bv_s, ↓x_lt, decide_true, decide_false, Bool.and_self, Bool.true_and, Bool.and_true, if_true, if_false, ite_true, ite_false, ↓reduceIte, not_true_eq_false, not_false_eq_true, Nat.reduceAdd, Nat.reduceMul, Nat.reduceEqDiff, eq_self, true_and, and_true, false_and, and_false, Option.some.injEq, Prod.mk.injEq, l_0, l_1, l_2, l_3, l_4, l_5, l_6, l_7, l_8, l_9, l_10, l_100, l_160, ↓m_1, ↓m_2, ↓m_3, ↓m_4, ↓m_5, ↓m_6, ↓m_7]
    · obtain ⟨M2, g1, g2⟩ := c_itS hG2 hT2 hR2 hD2 hV hn (by omega) (show k < 4 by omega)
      refine ⟨M2, ?_, g2.mono f2⟩
      simp (disch := first | assumption | omega) only [f_X5_readItem_c45, gt_39, h5, h4, h6, g1, l_of, n_ltT, n_ltF, n_leT, n_leF, n_eqT, n_eqF, n_neM, n_Mne, n_M0, n_Mlt, n_0leM, nI_clamp, x_in_nI, n_1, nI_add, x_at, x_bd_s, x_bv_s, ↓x_lt, decide_true, decide_false, Bool.and_self, Bool.true_and, Bool.and_true, if_true, if_false, ite_true, ite_false, ↓reduceIte, not_true_eq_false, not_false_eq_true, Nat.reduceAdd, Nat.reduceMul, Nat.reduceEqDiff, eq_self, true_and, and_true, false_and, and_false, Option.some.injEq, Prod.mk.injEq, l_0, l_1, l_2, l_3, l_4, l_5, l_6, l_7, l_8, l_9, l_10, l_100, l_160, ↓m_1, ↓m_2, ↓m_3, ↓m_4, ↓m_5, ↓m_6, ↓m_7]
  · rw [if_neg w] at x1 ⊢
    have hR2 : RS T n (p + nl k) (nI (p + nl k)) (x_wi W 39 0 (nI (p + nl k))) := hR1.w0
    have hG2 : Geo L b1 b2 (x_wi W 39 0 (nI (p + nl k))) := hG1
    refine ⟨x_wi W 39 0 (nI (p + nl k)), ?_, hG1, f1.wi (by omega), _, hR2, fun z => absurd z (by intro z; cases z)⟩
    have st : f_X5_readItem_c15 39 (nI p) (nI k) W = f_X5_readItem_c45 39 (nI k) (x_wi W 39 0 (nI (p + nl k))) := by
      simp (disch := first | assumption | omega) only [f_X5_readItem_c15, f_X5_readItem_c30, gt_39, r0, hr, k32, x1, l_of, n_ltT, n_ltF, n_leT, n_leF, n_eqT, n_eqF, n_neM, n_Mne, n_M0, n_Mlt, n_0leM, nI_clamp, x_in_nI, n_1, nI_add, x_at, x_bd_s, x_bv_s, ↓x_lt, decide_true, decide_false, Bool.and_self, Bool.true_and, Bool.and_true, if_true, if_false, ite_true, ite_false, ↓reduceIte, not_true_eq_false, not_false_eq_true, Nat.reduceAdd, Nat.reduceMul, Nat.reduceEqDiff, eq_self, true_and, and_true, false_and, and_false, Option.some.injEq, Prod.mk.injEq, l_0, l_1, l_2, l_3, l_4, l_5, l_6, l_7, l_8, l_9, l_10, l_100, l_160, ↓m_1, ↓m_2, ↓m_3, ↓m_4, ↓m_5, ↓m_6, ↓m_7]
    rw [st]
    clear st x1 hr
    generalize x_wi W 39 0 (nI (p + nl k)) = V at hR2 hG2 ⊢
    have q0 := hR2.1
    have x2 : ∀ (lo h : Int32), f_X5_readNumber 39 lo h V = some (nM 1, V) := fun lo h => c_nuq hG2 hR2 (by omega)
    have x3 := c_expn (c := 32) hG2 hR2 (by omega)
    by_cases h5 : k = 5
    · subst h5
      simp (disch := first | assumption | omega) only [f_X5_readItem_c45, f_X5_readCounter, f_X5_readCounter_c8, f_X5_readCounter_c15, f_X5_readCounter_c22, gt_2, gl_2, gt_39, k32, x2, x3, q0, l_of, n_ltT, n_ltF, n_leT, n_leF, n_eqT, n_eqF, n_neM, n_Mne, n_M0, n_Mlt, n_0leM, nI_clamp, x_in_nI, n_1, nI_add, x_at, x_bd_s, x_bv_s, ↓x_lt, decide_true, decide_false, Bool.and_self, Bool.true_and, Bool.and_true, if_true, if_false, ite_true, ite_false, ↓reduceIte, not_true_eq_false, not_false_eq_true, Nat.reduceAdd, Nat.reduceMul, Nat.reduceEqDiff, eq_self, true_and, and_true, false_and, and_false, Option.some.injEq, Prod.mk.injEq, l_0, l_1, l_2, l_3, l_4, l_5, l_6, l_7, l_8, l_9, l_10, l_100, l_160, ↓m_1, ↓m_2, ↓m_3, ↓m_4, ↓m_5, ↓m_6, ↓m_7]
    by_cases h4 : k = 4
    · subst h4
      simp (disch := first | assumption | omega) only [f_X5_readItem_c45, f_X5_readTally, f_X5_readTally_c5, gt_39, x2, x3, q0, l_of, n_ltT, n_ltF, n_leT, n_leF, n_eqT, n_eqF, n_neM, n_Mne, n_M0, n_Mlt, n_0leM, nI_clamp, x_in_nI, n_1, nI_add, x_at, x_bd_s, x_bv_s, ↓x_lt, decide_true, decide_false, Bool.and_self, Bool.true_and, Bool.and_true, if_true, if_false, ite_true, ite_false, ↓reduceIte, not_true_eq_false, not_false_eq_true, Nat.reduceAdd, Nat.reduceMul, Nat.reduceEqDiff, eq_self, true_and, and_true, false_and, and_false, Option.some.injEq, Prod.mk.injEq, l_0, l_1, l_2, l_3, l_4, l_5, l_6, l_7, l_8, l_9, l_10, l_100, l_160, ↓m_1, ↓m_2, ↓m_3, ↓m_4, ↓m_5, ↓m_6, ↓m_7]
    by_cases h6 : k = 6
    · subst h6
      simp (disch := first | assumption | omega) only [f_X5_readItem_c45, f_X5_readAsk, f_X5_readAsk_c16, gt_39, gr_39_1, gt_40, x2, x3, q0, l_of, n_ltT, n_ltF, n_leT, n_leF, n_eqT, n_eqF, n_neM, n_Mne, n_M0, n_Mlt, n_0leM, nI_clamp, x_in_nI, n_1, nI_add, x_at, x_bd_s, x_bv_s, ↓x_lt, decide_true, decide_false, Bool.and_self, Bool.true_and, Bool.and_true, if_true, if_false, ite_true, ite_false, ↓reduceIte, not_true_eq_false, not_false_eq_true, Nat.reduceAdd, Nat.reduceMul, Nat.reduceEqDiff, eq_self, true_and, and_true, false_and, and_false, Option.some.injEq, Prod.mk.injEq, l_0, l_1, l_2, l_3, l_4, l_5, l_6, l_7, l_8, l_9, l_10, l_100, l_160, ↓m_1, ↓m_2, ↓m_3, ↓m_4, ↓m_5, ↓m_6, ↓m_7]
    · have hk4 : k < 4 := by omega
      simp (disch := first | assumption | omega) only [f_X5_readItem_c45, f_X5_readSetting, f_X5_readSetting_c1, f_X5_readSetting_c19, f_X8_isSetting, gt_39, gt_3, gl_3, gt_4, gl_4, h5, h4, h6, x2, x3, q0, l_of, n_ltT, n_ltF, n_leT, n_leF, n_eqT, n_eqF, n_neM, n_Mne, n_M0, n_Mlt, n_0leM, nI_clamp, x_in_nI, n_1, nI_add, x_at, x_bd_s, x_bv_s, ↓x_lt, decide_true, decide_false, Bool.and_self, Bool.true_and, Bool.and_true, if_true, if_false, ite_true, ite_false, ↓reduceIte, not_true_eq_false, not_false_eq_true, Nat.reduceAdd, Nat.reduceMul, Nat.reduceEqDiff, eq_self, true_and, and_true, false_and, and_false, Option.some.injEq, Prod.mk.injEq, l_0, l_1, l_2, l_3, l_4, l_5, l_6, l_7, l_8, l_9, l_10, l_100, l_160, ↓m_1, ↓m_2, ↓m_3, ↓m_4, ↓m_5, ↓m_6, ↓m_7]
end
