def acV (w kd m a : Nat) (x : Int32) : Int32 := if w = 0 then cnV kd m a x else if w = 1 then asV kd m a x else enV kd m a x
def acB (w kd : Nat) : List Nat := if w = 0 then cnB kd else if w = 1 then asB kd else enB kd
def lI (l : List Nat) (i : Nat) : Int32 := nI (l.getD i 0)
def sp_act (σ : XS) (c w x : Int32) : Int32 × XS :=
  if c < nI 0 ∨ r_s (s_now σ) 0 ≤ c.toNatClampNeg ∨ w < nI 0 ∨ 2 < w.toNatClampNeg then (nI 0, u_tr σ 0 (s_tr σ)) else
    (acV w.toNatClampNeg (r_q (s_now σ) 0 c.toNatClampNeg) c.toNatClampNeg (r_q (s_now σ) 1 c.toNatClampNeg) x, u_tr σ (acB w.toNatClampNeg (r_q (s_now σ) 0 c.toNatClampNeg)).length (lI (acB w.toNatClampNeg (r_q (s_now σ) 0 c.toNatClampNeg))))
section
variable {M M' : XM} {σ : XS}
theorem CInv.tr {n : Nat} {h : Nat → Int32} (hI : CInv σ M) (f : Fr (fun a k => a = 66 ∨ a = 65) M M') (g0 : x_i M' 65 0 = nI n) (g1 : ∀ i, i < 20 → i < n → x_i M' 66 i = h i) : CInv (u_tr σ n h) M' := by
  obtain ⟨h1, h2, h3, h4, h5, h6, h7⟩ := hI
  have a1 : Agr 20 65 M M' := f.agr (fun a k h1 h2 q => by omega)
  have a2 : Agr 67 83 M M' := f.agr (fun a k h1 h2 q => by omega)
  refine ⟨h1.ag (a1.mono (by omega) (by omega)), ?_, h3.ag (a2.mono (by omega) (by omega)), fun k hk => (a1.i _ (by omega) (by omega)).trans (h4 k hk), (a1.i _ (by omega) (by omega)).trans h5, g0, g1⟩
  unfold CI at h2 ⊢
  show match s_img σ with | none => _ | some κ => _
  cases hm : s_img σ with
  | none => rw [hm] at h2; exact (a1.i _ (by omega) (by omega)).trans h2
  | some κ => rw [hm] at h2; exact ⟨(a1.i _ (by omega) (by omega)).trans h2.1, h2.2.ag (a1.mono (by omega) (by omega))⟩
theorem MInv.tr {n : Nat} {h : Nat → Int32} (hI : MInv σ M) (f : Fr QM M M') (g0 : x_i M' 83 40 = nI n) (g1 : ∀ i, i < 20 → i < n → x_i M' 104 i = h i) : MInv (u_tr σ n h) M' := by
  obtain ⟨h1, h2, h3, h4, h5, h6, h7⟩ := hI
  have a1 : Agr 84 104 M M' := f.agr (fun a k h1 h2 q => by omega)
  refine ⟨h1.ag2 (fun a j q => f.1 _ _ (by omega)), ?_, fun s hs => ?_, fun k hk => (a1.i _ (by omega) (by omega)).trans (h4 k hk), (f.1 _ _ (by omega)).trans h5, g0, g1⟩
  · unfold MI at h2 ⊢
    show match s_img σ with | none => _ | some κ => _
    cases hm : s_img σ with
    | none => rw [hm] at h2; exact (f.1 _ _ (by omega)).trans h2
    | some κ =>
      rw [hm] at h2
      obtain ⟨e1, ⟨d1, d2, d3, d4, d5, d6, d7, d8⟩, dc, dt⟩ := h2
      refine ⟨(f.1 _ _ (by omega)).trans e1, ⟨(f.1 _ _ (by omega)).trans d1, (f.1 _ _ (by omega)).trans d2, (f.1 _ _ (by omega)).trans d3, (f.1 _ _ (by omega)).trans d4, (f.1 _ _ (by omega)).trans d5, (f.1 _ _ (by omega)).trans d6, (f.1 _ _ (by omega)).trans d7, (f.1 _ _ (by omega)).trans d8⟩, fun c hc' => ?_, fun i hi => (f.1 _ _ (by omega)).trans (dt i hi)⟩
      obtain ⟨q1, q2, q3, q4, q5⟩ := dc c hc'
      exact ⟨(f.1 _ _ (by omega)).trans q1, (f.1 _ _ (by omega)).trans q2, (f.1 _ _ (by omega)).trans q3, (f.1 _ _ (by omega)).trans q4, (f.1 _ _ (by omega)).trans q5⟩
  · obtain ⟨q0, q1, q2⟩ := h3 s hs
    refine ⟨(a1.i _ (by omega) (by omega)).trans q0, fun e => ?_, fun e => (a1.i _ (by omega) (by omega)).trans (q2 e)⟩
    obtain ⟨p1, p2, p3⟩ := q1 e
    exact ⟨(a1.i _ (by omega) (by omega)).trans p1, (a1.i _ (by omega) (by omega)).trans p2, fun i hi => (a1.j _ (by omega) (by omega)).trans (p3 i hi)⟩
end
section
variable {L : Nat} {b1 b2 : Bool}
theorem c_ac {M : XM} {kd m a w : Nat} {x : Int32} (hG : Geo L b1 b2 M) (hT : CT M) (hm : m < 6) (hk : kd ≤ 6) (ha : a ≤ 9) (hw : w ≤ 2) (e0 : x_i M (24 + m) 0 = nI kd) (e1 : x_i M (24 + m) 1 = nI a) (e2 : x_i M 65 0 = nI 0) :
    ∃ M', f_X0_perform 65 (24 + m) (nI m) (nI w) x M = some (acV w kd m a x, M') ∧ Geo L b1 b2 M' ∧ Fr (fun a k => a = 66 ∨ a = 65) M M' ∧ TC (acB w kd) M' := by
  have hA : AC L b1 b2 kd m a [] (x_wi (x_wi (x_wi M 65 2 (nI kd)) 65 3 (nI m)) 65 4 (nI a)) := ⟨hG, hT.ag (((Agr.rf.wi (by omega)).wi (by omega)).wi (by omega)), by simp (disch := first | assumption | omega) only [ii_wi, ji_wi, ri_wi, ti_wi, li_wi, ii_wj, ji_wj, ri_wj, ti_wj, li_wj, l_of, n_ltT, n_ltF, n_leT, n_leF, n_eqT, n_eqF, n_neM, n_Mne, n_M0, n_Mlt, n_0leM, nI_clamp, x_in_nI, n_1, nI_add, x_at, x_bd_s, x_bv_s, ↓x_lt, decide_true, decide_false, Bool.and_self, Bool.true_and, Bool.and_true, if_true, if_false, ite_true, ite_false, ↓reduceIte, not_true_eq_false, not_false_eq_true, Nat.reduceAdd, Nat.reduceMul, Nat.reduceEqDiff, eq_self, true_and, and_true, false_and, and_false, Option.some.injEq, Prod.mk.injEq, l_0, l_1, l_2, l_3, l_4, l_5, l_6, l_7, l_8, l_9, l_10, l_100, l_160, ↓m_1, ↓m_2, ↓m_3, ↓m_4, ↓m_5, ↓m_6, ↓m_7], by simp (disch := first | assumption | omega) only [ii_wi, ji_wi, ri_wi, ti_wi, li_wi, ii_wj, ji_wj, ri_wj, ti_wj, li_wj, l_of, n_ltT, n_ltF, n_leT, n_leF, n_eqT, n_eqF, n_neM, n_Mne, n_M0, n_Mlt, n_0leM, nI_clamp, x_in_nI, n_1, nI_add, x_at, x_bd_s, x_bv_s, ↓x_lt, decide_true, decide_false, Bool.and_self, Bool.true_and, Bool.and_true, if_true, if_false, ite_true, ite_false, ↓reduceIte, not_true_eq_false, not_false_eq_true, Nat.reduceAdd, Nat.reduceMul, Nat.reduceEqDiff, eq_self, true_and, and_true, false_and, and_false, Option.some.injEq, Prod.mk.injEq, l_0, l_1, l_2, l_3, l_4, l_5, l_6, l_7, l_8, l_9, l_10, l_100, l_160, ↓m_1, ↓m_2, ↓m_3, ↓m_4, ↓m_5, ↓m_6, ↓m_7], by simp (disch := first | assumption | omega) only [ii_wi, ji_wi, ri_wi, ti_wi, li_wi, ii_wj, ji_wj, ri_wj, ti_wj, li_wj, l_of, n_ltT, n_ltF, n_leT, n_leF, n_eqT, n_eqF, n_neM, n_Mne, n_M0, n_Mlt, n_0leM, nI_clamp, x_in_nI, n_1, nI_add, x_at, x_bd_s, x_bv_s, ↓x_lt, decide_true, decide_false, Bool.and_self, Bool.true_and, Bool.and_true, if_true, if_false, ite_true, ite_false, ↓reduceIte, not_true_eq_false, not_false_eq_true, Nat.reduceAdd, Nat.reduceMul, Nat.reduceEqDiff, eq_self, true_and, and_true, false_and, and_false, Option.some.injEq, Prod.mk.injEq, l_0, l_1, l_2, l_3, l_4, l_5, l_6, l_7, l_8, l_9, l_10, l_100, l_160, ↓m_1, ↓m_2, ↓m_3, ↓m_4, ↓m_5, ↓m_6, ↓m_7], ⟨by
    show _ = nI 0
    simp (disch := first | assumption | omega) only [ii_wi, ji_wi, ri_wi, ti_wi, li_wi, ii_wj, ji_wj, ri_wj, ti_wj, li_wj, l_of, n_ltT, n_ltF, n_leT, n_leF, n_eqT, n_eqF, n_neM, n_Mne, n_M0, n_Mlt, n_0leM, nI_clamp, x_in_nI, n_1, nI_add, x_at, x_bd_s, x_bv_s, ↓x_lt, decide_true, decide_false, Bool.and_self, Bool.true_and, Bool.and_true, if_true, if_false, ite_true, ite_false, ↓reduceIte, not_true_eq_false, not_false_eq_true, Nat.reduceAdd, Nat.reduceMul, Nat.reduceEqDiff, eq_self, true_and, and_true, false_and, and_false, Option.some.injEq, Prod.mk.injEq, l_0, l_1, l_2, l_3, l_4, l_5, l_6, l_7, l_8, l_9, l_10, l_100, l_160, ↓m_1, ↓m_2, ↓m_3, ↓m_4, ↓m_5, ↓m_6, ↓m_7]
    exact e2, fun i hi => absurd hi (Nat.not_lt_zero _)⟩⟩
  have hF : Fr (fun a k => a = 66 ∨ a = 65) M (x_wi (x_wi (x_wi M 65 2 (nI kd)) 65 3 (nI m)) 65 4 (nI a)) := ((Fr.rf.wi (by omega)).wi (by omega)).wi (by omega)
  have hq : ∀ a k, QC a k → (fun a k => a = 66 ∨ a = 65) a k := fun a k q => by
    rcases q with q | q
    · exact Or.inl q
    · exact Or.inr q.1
  have ne : (24 + m = 65) = False := eq_false (by omega)
  rcases (by omega : w = 0 ∨ w = 1 ∨ w = 2) with rfl | rfl | rfl
  · obtain ⟨M3, g1, g2, g3⟩ := c_cnt8 (x := x) hA hk (by decide)
    refine ⟨M3, ?_, g2.1, hF.tr (g3.mono hq), g2.2.2.2.2.2⟩
    simp (disch := first | assumption | omega) only [f_X0_perform, gct_24, gt_65, e0, e1, ne, l_of, n_ltT, n_ltF, n_leT, n_leF, n_eqT, n_eqF, n_neM, n_Mne, n_M0, n_Mlt, n_0leM, nI_clamp, x_in_nI, n_1, nI_add, x_at, x_bd_s, x_bv_s, ↓x_lt, decide_true, decide_false, Bool.and_self, Bool.true_and, Bool.and_true, if_true, if_false, ite_true, ite_false, ↓reduceIte, not_true_eq_false, not_false_eq_true, Nat.reduceAdd, Nat.reduceMul, Nat.reduceEqDiff, eq_self, true_and, and_true, false_and, and_false, Option.some.injEq, Prod.mk.injEq, l_0, l_1, l_2, l_3, l_4, l_5, l_6, l_7, l_8, l_9, l_10, l_100, l_160, ↓m_1, ↓m_2, ↓m_3, ↓m_4, ↓m_5, ↓m_6, ↓m_7, ii_wi, ji_wi, ri_wi, ti_wi, li_wi, ii_wj, ji_wj, ri_wj, ti_wj, li_wj, g1]
    rfl
  · obtain ⟨M3, g1, g2, g3⟩ := c_ask8 (x := x) hA hk (by decide)
    refine ⟨M3, ?_, g2.1, hF.tr (g3.mono hq), g2.2.2.2.2.2⟩
    simp (disch := first | assumption | omega) only [f_X0_perform, gct_24, gt_65, e0, e1, ne, l_of, n_ltT, n_ltF, n_leT, n_leF, n_eqT, n_eqF, n_neM, n_Mne, n_M0, n_Mlt, n_0leM, nI_clamp, x_in_nI, n_1, nI_add, x_at, x_bd_s, x_bv_s, ↓x_lt, decide_true, decide_false, Bool.and_self, Bool.true_and, Bool.and_true, if_true, if_false, ite_true, ite_false, ↓reduceIte, not_true_eq_false, not_false_eq_true, Nat.reduceAdd, Nat.reduceMul, Nat.reduceEqDiff, eq_self, true_and, and_true, false_and, and_false, Option.some.injEq, Prod.mk.injEq, l_0, l_1, l_2, l_3, l_4, l_5, l_6, l_7, l_8, l_9, l_10, l_100, l_160, ↓m_1, ↓m_2, ↓m_3, ↓m_4, ↓m_5, ↓m_6, ↓m_7, ii_wi, ji_wi, ri_wi, ti_wi, li_wi, ii_wj, ji_wj, ri_wj, ti_wj, li_wj, g1]
    rfl
  · obtain ⟨M3, g1, g2, g3⟩ := c_end8 (x := x) hA hk (by decide)
    refine ⟨M3, ?_, g2.1, hF.tr (g3.mono hq), g2.2.2.2.2.2⟩
    simp (disch := first | assumption | omega) only [f_X0_perform, gct_24, gt_65, e0, e1, ne, l_of, n_ltT, n_ltF, n_leT, n_leF, n_eqT, n_eqF, n_neM, n_Mne, n_M0, n_Mlt, n_0leM, nI_clamp, x_in_nI, n_1, nI_add, x_at, x_bd_s, x_bv_s, ↓x_lt, decide_true, decide_false, Bool.and_self, Bool.true_and, Bool.and_true, if_true, if_false, ite_true, ite_false, ↓reduceIte, not_true_eq_false, not_false_eq_true, Nat.reduceAdd, Nat.reduceMul, Nat.reduceEqDiff, eq_self, true_and, and_true, false_and, and_false, Option.some.injEq, Prod.mk.injEq, l_0, l_1, l_2, l_3, l_4, l_5, l_6, l_7, l_8, l_9, l_10, l_100, l_160, ↓m_1, ↓m_2, ↓m_3, ↓m_4, ↓m_5, ↓m_6, ↓m_7, ii_wi, ji_wi, ri_wi, ti_wi, li_wi, ii_wj, ji_wj, ri_wj, ti_wj, li_wj, g1]
    rfl
end
theorem oc_act {B : Nat} {σ : XS} (hW : WFS B σ) (c w x : Int32) : OpCT (f_X8_act 20 c w x) σ (sp_act σ c w x).1 (sp_act σ c w x).2 := by
  intro L b1 b2 M hG hI hT
  obtain ⟨⟨⟨w0, w1, w2, w3, w4, w5, w6, w7⟩, wc, wl, wt⟩, wi, wsh, wrn⟩ := id hW
  have r0 := hI.1.1.1
  have hc := hI.1.2.1
  have h0 : CInv (u_tr σ 0 (s_tr σ)) (x_wi M 65 0 (nI 0)) := hI.tr (Fr.rf.wi (by omega)) (by simp (disch := first | assumption | omega) only [ii_wi, ji_wi, ri_wi, ti_wi, li_wi, ii_wj, ji_wj, ri_wj, ti_wj, li_wj, l_of, n_ltT, n_ltF, n_leT, n_leF, n_eqT, n_eqF, n_neM, n_Mne, n_M0, n_Mlt, n_0leM, nI_clamp, x_in_nI, n_1, nI_add, x_at, x_bd_s, x_bv_s, ↓x_lt, decide_true, decide_false, Bool.and_self, Bool.true_and, Bool.and_true, if_true, if_false, ite_true, ite_false, ↓reduceIte, not_true_eq_false, not_false_eq_true, Nat.reduceAdd, Nat.reduceMul, Nat.reduceEqDiff, eq_self, true_and, and_true, false_and, and_false, Option.some.injEq, Prod.mk.injEq, l_0, l_1, l_2, l_3, l_4, l_5, l_6, l_7, l_8, l_9, l_10, l_100, l_160, ↓m_1, ↓m_2, ↓m_3, ↓m_4, ↓m_5, ↓m_6, ↓m_7]) (fun i _ hi => absurd hi (by omega))
  have g0 : Agr 0 20 M (x_wi M 65 0 (nI 0)) := Agr.rf.wi (by omega)
  have g1 : Agr 83 105 M (x_wi M 65 0 (nI 0)) := Agr.rf.wi (by omega)
  have bad : ∀ (q : sp_act σ c w x = (nI 0, u_tr σ 0 (s_tr σ))), f_X8_act 20 c w x M = some (nI 0, x_wi M 65 0 (nI 0)) → ∃ (M' : XM) (b1' b2' : Bool), f_X8_act 20 c w x M = some ((sp_act σ c w x).1, M') ∧ Geo L b1' b2' M' ∧ CInv (sp_act σ c w x).2 M' ∧ Agr 0 20 M M' ∧ Agr 83 105 M M' := fun q hf => by
    rw [q]
    exact ⟨_, b1, b2, hf, hG, h0, g0, g1⟩
  rcases i_cs c with h1 | ⟨k, kb, rfl⟩
  · refine bad ?_ ?_
    · simp (disch := first | assumption | omega) only [sp_act, h1, true_or, if_true, ite_true]
    · simp (disch := first | assumption | omega) only [f_X8_act_c9, f_X8_act_c4, f_X8_act, f_X0_forgetTrace, f_X8_isCounter, gt_20, gr_20_13, gt_65, gr_20_0, gt_21, h1, l_of, n_ltT, n_ltF, n_leT, n_leF, n_eqT, n_eqF, n_neM, n_Mne, n_M0, n_Mlt, n_0leM, nI_clamp, x_in_nI, n_1, nI_add, x_at, x_bd_s, x_bv_s, ↓x_lt, decide_true, decide_false, Bool.and_self, Bool.true_and, Bool.and_true, if_true, if_false, ite_true, ite_false, ↓reduceIte, not_true_eq_false, not_false_eq_true, Nat.reduceAdd, Nat.reduceMul, Nat.reduceEqDiff, eq_self, true_and, and_true, false_and, and_false, Option.some.injEq, Prod.mk.injEq, l_0, l_1, l_2, l_3, l_4, l_5, l_6, l_7, l_8, l_9, l_10, l_100, l_160, ↓m_1, ↓m_2, ↓m_3, ↓m_4, ↓m_5, ↓m_6, ↓m_7, ii_wi, ji_wi, ri_wi, ti_wi, li_wi, ii_wj, ji_wj, ri_wj, ti_wj, li_wj]
  by_cases h2 : r_s (s_now σ) 0 ≤ k
  · refine bad ?_ ?_
    · simp (disch := first | assumption | omega) only [sp_act, l_of, n_ltT, n_ltF, n_leT, n_leF, n_eqT, n_eqF, n_neM, n_Mne, n_M0, n_Mlt, n_0leM, nI_clamp, x_in_nI, n_1, nI_add, x_at, x_bd_s, x_bv_s, ↓x_lt, decide_true, decide_false, Bool.and_self, Bool.true_and, Bool.and_true, if_true, if_false, ite_true, ite_false, ↓reduceIte, not_true_eq_false, not_false_eq_true, Nat.reduceAdd, Nat.reduceMul, Nat.reduceEqDiff, eq_self, true_and, and_true, false_and, and_false, Option.some.injEq, Prod.mk.injEq, l_0, l_1, l_2, l_3, l_4, l_5, l_6, l_7, l_8, l_9, l_10, l_100, l_160, ↓m_1, ↓m_2, ↓m_3, ↓m_4, ↓m_5, ↓m_6, ↓m_7, h2, true_or, or_true]
    · simp (disch := first | assumption | omega) only [f_X8_act_c9, f_X8_act_c4, f_X8_act, f_X0_forgetTrace, f_X8_isCounter, gt_20, gr_20_13, gt_65, gr_20_0, gt_21, h2, r0, l_of, n_ltT, n_ltF, n_leT, n_leF, n_eqT, n_eqF, n_neM, n_Mne, n_M0, n_Mlt, n_0leM, nI_clamp, x_in_nI, n_1, nI_add, x_at, x_bd_s, x_bv_s, ↓x_lt, decide_true, decide_false, Bool.and_self, Bool.true_and, Bool.and_true, if_true, if_false, ite_true, ite_false, ↓reduceIte, not_true_eq_false, not_false_eq_true, Nat.reduceAdd, Nat.reduceMul, Nat.reduceEqDiff, eq_self, true_and, and_true, false_and, and_false, Option.some.injEq, Prod.mk.injEq, l_0, l_1, l_2, l_3, l_4, l_5, l_6, l_7, l_8, l_9, l_10, l_100, l_160, ↓m_1, ↓m_2, ↓m_3, ↓m_4, ↓m_5, ↓m_6, ↓m_7, ii_wi, ji_wi, ri_wi, ti_wi, li_wi, ii_wj, ji_wj, ri_wj, ti_wj, li_wj]
  rcases i_cs w with h3 | ⟨j, jb, rfl⟩
  · refine bad ?_ ?_
    · simp (disch := first | assumption | omega) only [sp_act, l_of, n_ltT, n_ltF, n_leT, n_leF, n_eqT, n_eqF, n_neM, n_Mne, n_M0, n_Mlt, n_0leM, nI_clamp, x_in_nI, n_1, nI_add, x_at, x_bd_s, x_bv_s, ↓x_lt, decide_true, decide_false, Bool.and_self, Bool.true_and, Bool.and_true, if_true, if_false, ite_true, ite_false, ↓reduceIte, not_true_eq_false, not_false_eq_true, Nat.reduceAdd, Nat.reduceMul, Nat.reduceEqDiff, eq_self, true_and, and_true, false_and, and_false, Option.some.injEq, Prod.mk.injEq, l_0, l_1, l_2, l_3, l_4, l_5, l_6, l_7, l_8, l_9, l_10, l_100, l_160, ↓m_1, ↓m_2, ↓m_3, ↓m_4, ↓m_5, ↓m_6, ↓m_7, h3, true_or, or_true]
    · simp (disch := first | assumption | omega) only [f_X8_act_c9, f_X8_act_c4, f_X8_act, f_X0_forgetTrace, f_X8_isCounter, gt_20, gr_20_13, gt_65, gr_20_0, gt_21, h2, h3, r0, l_of, n_ltT, n_ltF, n_leT, n_leF, n_eqT, n_eqF, n_neM, n_Mne, n_M0, n_Mlt, n_0leM, nI_clamp, x_in_nI, n_1, nI_add, x_at, x_bd_s, x_bv_s, ↓x_lt, decide_true, decide_false, Bool.and_self, Bool.true_and, Bool.and_true, if_true, if_false, ite_true, ite_false, ↓reduceIte, not_true_eq_false, not_false_eq_true, Nat.reduceAdd, Nat.reduceMul, Nat.reduceEqDiff, eq_self, true_and, and_true, false_and, and_false, Option.some.injEq, Prod.mk.injEq, l_0, l_1, l_2, l_3, l_4, l_5, l_6, l_7, l_8, l_9, l_10, l_100, l_160, ↓m_1, ↓m_2, ↓m_3, ↓m_4, ↓m_5, ↓m_6, ↓m_7, ii_wi, ji_wi, ri_wi, ti_wi, li_wi, ii_wj, ji_wj, ri_wj, ti_wj, li_wj]
  by_cases h4 : 2 < j
  · refine bad ?_ ?_
    · simp (disch := first | assumption | omega) only [sp_act, l_of, n_ltT, n_ltF, n_leT, n_leF, n_eqT, n_eqF, n_neM, n_Mne, n_M0, n_Mlt, n_0leM, nI_clamp, x_in_nI, n_1, nI_add, x_at, x_bd_s, x_bv_s, ↓x_lt, decide_true, decide_false, Bool.and_self, Bool.true_and, Bool.and_true, if_true, if_false, ite_true, ite_false, ↓reduceIte, not_true_eq_false, not_false_eq_true, Nat.reduceAdd, Nat.reduceMul, Nat.reduceEqDiff, eq_self, true_and, and_true, false_and, and_false, Option.some.injEq, Prod.mk.injEq, l_0, l_1, l_2, l_3, l_4, l_5, l_6, l_7, l_8, l_9, l_10, l_100, l_160, ↓m_1, ↓m_2, ↓m_3, ↓m_4, ↓m_5, ↓m_6, ↓m_7, h4, true_or, or_true]
    · simp (disch := first | assumption | omega) only [f_X8_act_c9, f_X8_act_c4, f_X8_act, f_X0_forgetTrace, f_X8_isCounter, gt_20, gr_20_13, gt_65, gr_20_0, gt_21, h2, h4, r0, l_of, n_ltT, n_ltF, n_leT, n_leF, n_eqT, n_eqF, n_neM, n_Mne, n_M0, n_Mlt, n_0leM, nI_clamp, x_in_nI, n_1, nI_add, x_at, x_bd_s, x_bv_s, ↓x_lt, decide_true, decide_false, Bool.and_self, Bool.true_and, Bool.and_true, if_true, if_false, ite_true, ite_false, ↓reduceIte, not_true_eq_false, not_false_eq_true, Nat.reduceAdd, Nat.reduceMul, Nat.reduceEqDiff, eq_self, true_and, and_true, false_and, and_false, Option.some.injEq, Prod.mk.injEq, l_0, l_1, l_2, l_3, l_4, l_5, l_6, l_7, l_8, l_9, l_10, l_100, l_160, ↓m_1, ↓m_2, ↓m_3, ↓m_4, ↓m_5, ↓m_6, ↓m_7, ii_wi, ji_wi, ri_wi, ti_wi, li_wi, ii_wj, ji_wj, ri_wj, ti_wj, li_wj]
  obtain ⟨q1, q2, q3, q4, q5⟩ := hc k (by omega)
  obtain ⟨y1, y2, y3, y4⟩ := wc k (by omega)
  have k5 : k < 6 := by omega
  obtain ⟨M3, m1, m2, m3, m4⟩ := c_ac (x := x) (M := x_wi M 65 0 (nI 0)) (m := k) (w := j) hG (hT.ag g0) k5 y1 y2 (by omega) (by rw [ii_wi, if_neg (by omega)]; exact q1) (by rw [ii_wi, if_neg (by omega)]; exact q2) (by simp (disch := first | assumption | omega) only [ii_wi, ji_wi, ri_wi, ti_wi, li_wi, ii_wj, ji_wj, ri_wj, ti_wj, li_wj, l_of, n_ltT, n_ltF, n_leT, n_leF, n_eqT, n_eqF, n_neM, n_Mne, n_M0, n_Mlt, n_0leM, nI_clamp, x_in_nI, n_1, nI_add, x_at, x_bd_s, x_bv_s, ↓x_lt, decide_true, decide_false, Bool.and_self, Bool.true_and, Bool.and_true, if_true, if_false, ite_true, ite_false, ↓reduceIte, not_true_eq_false, not_false_eq_true, Nat.reduceAdd, Nat.reduceMul, Nat.reduceEqDiff, eq_self, true_and, and_true, false_and, and_false, Option.some.injEq, Prod.mk.injEq, l_0, l_1, l_2, l_3, l_4, l_5, l_6, l_7, l_8, l_9, l_10, l_100, l_160, ↓m_1, ↓m_2, ↓m_3, ↓m_4, ↓m_5, ↓m_6, ↓m_7])
  have hF : Fr (fun a k => a = 66 ∨ a = 65) M M3 := (Fr.rf.wi (by omega)).tr m3
  have sp : sp_act σ (nI k) (nI j) x = (acV j (r_q (s_now σ) 0 k) k (r_q (s_now σ) 1 k) x, u_tr σ (acB j (r_q (s_now σ) 0 k)).length (lI (acB j (r_q (s_now σ) 0 k)))) := by
    simp (disch := first | assumption | omega) only [sp_act, l_of, n_ltT, n_ltF, n_leT, n_leF, n_eqT, n_eqF, n_neM, n_Mne, n_M0, n_Mlt, n_0leM, nI_clamp, x_in_nI, n_1, nI_add, x_at, x_bd_s, x_bv_s, ↓x_lt, decide_true, decide_false, Bool.and_self, Bool.true_and, Bool.and_true, if_true, if_false, ite_true, ite_false, ↓reduceIte, not_true_eq_false, not_false_eq_true, Nat.reduceAdd, Nat.reduceMul, Nat.reduceEqDiff, eq_self, true_and, and_true, false_and, and_false, Option.some.injEq, Prod.mk.injEq, l_0, l_1, l_2, l_3, l_4, l_5, l_6, l_7, l_8, l_9, l_10, l_100, l_160, ↓m_1, ↓m_2, ↓m_3, ↓m_4, ↓m_5, ↓m_6, ↓m_7, h2, h4, or_self]
  rw [sp]
  refine ⟨M3, b1, b2, ?_, m2, hI.tr hF m4.1 (fun i _ hi => m4.2 i hi), hF.agr (fun a k h1 h2 q => by omega), hF.agr (fun a k h1 h2 q => by omega)⟩
  simp (disch := first | assumption | omega) only [f_X8_act_c9, f_X8_act_c4, f_X8_act, f_X0_forgetTrace, f_X8_isCounter, gt_20, gr_20_13, gt_65, gr_20_0, gt_21, gr_21_0, gt_22, gl_22, gc_22, h2, h4, r0, m1, l_of, n_ltT, n_ltF, n_leT, n_leF, n_eqT, n_eqF, n_neM, n_Mne, n_M0, n_Mlt, n_0leM, nI_clamp, x_in_nI, n_1, nI_add, x_at, x_bd_s, x_bv_s, ↓x_lt, decide_true, decide_false, Bool.and_self, Bool.true_and, Bool.and_true, if_true, if_false, ite_true, ite_false, ↓reduceIte, not_true_eq_false, not_false_eq_true, Nat.reduceAdd, Nat.reduceMul, Nat.reduceEqDiff, eq_self, true_and, and_true, false_and, and_false, Option.some.injEq, Prod.mk.injEq, l_0, l_1, l_2, l_3, l_4, l_5, l_6, l_7, l_8, l_9, l_10, l_100, l_160, ↓m_1, ↓m_2, ↓m_3, ↓m_4, ↓m_5, ↓m_6, ↓m_7, ii_wi, ji_wi, ri_wi, ti_wi, li_wi, ii_wj, ji_wj, ri_wj, ti_wj, li_wj]
theorem om_act {B : Nat} {σ : XS} (hW : WFS B σ) (c w x : Int32) : OpM (f_X9_act 83 c w x) σ (sp_act σ c w x).1 (sp_act σ c w x).2 := by
  intro L b1 b2 M hG hI hMW
  obtain ⟨⟨⟨w0, w1, w2, w3, w4, w5, w6, w7⟩, wc, wl, wt⟩, wi, wsh, wrn⟩ := id hW
  have r0 := hI.1.1.1
  have hc := hI.1.2.1
  have h0 : MInv (u_tr σ 0 (s_tr σ)) (x_wi M 83 40 (nI 0)) := hI.tr (Fr.rf.wi (by omega)) (by simp (disch := first | assumption | omega) only [ii_wi, ji_wi, ri_wi, ti_wi, li_wi, ii_wj, ji_wj, ri_wj, ti_wj, li_wj, l_of, n_ltT, n_ltF, n_leT, n_leF, n_eqT, n_eqF, n_neM, n_Mne, n_M0, n_Mlt, n_0leM, nI_clamp, x_in_nI, n_1, nI_add, x_at, x_bd_s, x_bv_s, ↓x_lt, decide_true, decide_false, Bool.and_self, Bool.true_and, Bool.and_true, if_true, if_false, ite_true, ite_false, ↓reduceIte, not_true_eq_false, not_false_eq_true, Nat.reduceAdd, Nat.reduceMul, Nat.reduceEqDiff, eq_self, true_and, and_true, false_and, and_false, Option.some.injEq, Prod.mk.injEq, l_0, l_1, l_2, l_3, l_4, l_5, l_6, l_7, l_8, l_9, l_10, l_100, l_160, ↓m_1, ↓m_2, ↓m_3, ↓m_4, ↓m_5, ↓m_6, ↓m_7]) (fun i _ hi => absurd hi (by omega))
  have g0 : Agr 0 83 M (x_wi M 83 40 (nI 0)) := Agr.rf.wi (by omega)
  have g1 : Agr 97 98 M (x_wi M 83 40 (nI 0)) := Agr.rf.wi (by omega)
  have bad : ∀ (q : sp_act σ c w x = (nI 0, u_tr σ 0 (s_tr σ))), f_X9_act 83 c w x M = some (nI 0, x_wi M 83 40 (nI 0)) → ∃ (M' : XM), f_X9_act 83 c w x M = some ((sp_act σ c w x).1, M') ∧ Geo L b1 b2 M' ∧ MInv (sp_act σ c w x).2 M' ∧ MW M' ∧ Agr 0 83 M M' := fun q hf => by
    rw [q]
    exact ⟨_, hf, hG, h0, hMW.ag g1, g0⟩
  rcases i_cs c with h1 | ⟨k, kb, rfl⟩
  · refine bad ?_ ?_
    · simp (disch := first | assumption | omega) only [sp_act, h1, true_or, if_true, ite_true]
    · simp (disch := first | assumption | omega) only [f_X9_act_c7, f_X9_act, f_X9_isCounter, gt_83, h1, l_of, n_ltT, n_ltF, n_leT, n_leF, n_eqT, n_eqF, n_neM, n_Mne, n_M0, n_Mlt, n_0leM, nI_clamp, x_in_nI, n_1, nI_add, x_at, x_bd_s, x_bv_s, ↓x_lt, decide_true, decide_false, Bool.and_self, Bool.true_and, Bool.and_true, if_true, if_false, ite_true, ite_false, ↓reduceIte, not_true_eq_false, not_false_eq_true, Nat.reduceAdd, Nat.reduceMul, Nat.reduceEqDiff, eq_self, true_and, and_true, false_and, and_false, Option.some.injEq, Prod.mk.injEq, l_0, l_1, l_2, l_3, l_4, l_5, l_6, l_7, l_8, l_9, l_10, l_100, l_160, ↓m_1, ↓m_2, ↓m_3, ↓m_4, ↓m_5, ↓m_6, ↓m_7, ii_wi, ji_wi, ri_wi, ti_wi, li_wi, ii_wj, ji_wj, ri_wj, ti_wj, li_wj]
  by_cases h2 : r_s (s_now σ) 0 ≤ k
  · refine bad ?_ ?_
    · simp (disch := first | assumption | omega) only [sp_act, l_of, n_ltT, n_ltF, n_leT, n_leF, n_eqT, n_eqF, n_neM, n_Mne, n_M0, n_Mlt, n_0leM, nI_clamp, x_in_nI, n_1, nI_add, x_at, x_bd_s, x_bv_s, ↓x_lt, decide_true, decide_false, Bool.and_self, Bool.true_and, Bool.and_true, if_true, if_false, ite_true, ite_false, ↓reduceIte, not_true_eq_false, not_false_eq_true, Nat.reduceAdd, Nat.reduceMul, Nat.reduceEqDiff, eq_self, true_and, and_true, false_and, and_false, Option.some.injEq, Prod.mk.injEq, l_0, l_1, l_2, l_3, l_4, l_5, l_6, l_7, l_8, l_9, l_10, l_100, l_160, ↓m_1, ↓m_2, ↓m_3, ↓m_4, ↓m_5, ↓m_6, ↓m_7, h2, true_or, or_true]
    · simp (disch := first | assumption | omega) only [f_X9_act_c7, f_X9_act, f_X9_isCounter, gt_83, h2, r0, l_of, n_ltT, n_ltF, n_leT, n_leF, n_eqT, n_eqF, n_neM, n_Mne, n_M0, n_Mlt, n_0leM, nI_clamp, x_in_nI, n_1, nI_add, x_at, x_bd_s, x_bv_s, ↓x_lt, decide_true, decide_false, Bool.and_self, Bool.true_and, Bool.and_true, if_true, if_false, ite_true, ite_false, ↓reduceIte, not_true_eq_false, not_false_eq_true, Nat.reduceAdd, Nat.reduceMul, Nat.reduceEqDiff, eq_self, true_and, and_true, false_and, and_false, Option.some.injEq, Prod.mk.injEq, l_0, l_1, l_2, l_3, l_4, l_5, l_6, l_7, l_8, l_9, l_10, l_100, l_160, ↓m_1, ↓m_2, ↓m_3, ↓m_4, ↓m_5, ↓m_6, ↓m_7, ii_wi, ji_wi, ri_wi, ti_wi, li_wi, ii_wj, ji_wj, ri_wj, ti_wj, li_wj]
  rcases i_cs w with h3 | ⟨j, jb, rfl⟩
  · refine bad ?_ ?_
    · simp (disch := first | assumption | omega) only [sp_act, l_of, n_ltT, n_ltF, n_leT, n_leF, n_eqT, n_eqF, n_neM, n_Mne, n_M0, n_Mlt, n_0leM, nI_clamp, x_in_nI, n_1, nI_add, x_at, x_bd_s, x_bv_s, ↓x_lt, decide_true, decide_false, Bool.and_self, Bool.true_and, Bool.and_true, if_true, if_false, ite_true, ite_false, ↓reduceIte, not_true_eq_false, not_false_eq_true, Nat.reduceAdd, Nat.reduceMul, Nat.reduceEqDiff, eq_self, true_and, and_true, false_and, and_false, Option.some.injEq, Prod.mk.injEq, l_0, l_1, l_2, l_3, l_4, l_5, l_6, l_7, l_8, l_9, l_10, l_100, l_160, ↓m_1, ↓m_2, ↓m_3, ↓m_4, ↓m_5, ↓m_6, ↓m_7, h3, true_or, or_true]
    · simp (disch := first | assumption | omega) only [f_X9_act_c7, f_X9_act, f_X9_isCounter, gt_83, h2, h3, r0, l_of, n_ltT, n_ltF, n_leT, n_leF, n_eqT, n_eqF, n_neM, n_Mne, n_M0, n_Mlt, n_0leM, nI_clamp, x_in_nI, n_1, nI_add, x_at, x_bd_s, x_bv_s, ↓x_lt, decide_true, decide_false, Bool.and_self, Bool.true_and, Bool.and_true, if_true, if_false, ite_true, ite_false, ↓reduceIte, not_true_eq_false, not_false_eq_true, Nat.reduceAdd, Nat.reduceMul, Nat.reduceEqDiff, eq_self, true_and, and_true, false_and, and_false, Option.some.injEq, Prod.mk.injEq, l_0, l_1, l_2, l_3, l_4, l_5, l_6, l_7, l_8, l_9, l_10, l_100, l_160, ↓m_1, ↓m_2, ↓m_3, ↓m_4, ↓m_5, ↓m_6, ↓m_7, ii_wi, ji_wi, ri_wi, ti_wi, li_wi, ii_wj, ji_wj, ri_wj, ti_wj, li_wj]
  by_cases h4 : 2 < j
  · refine bad ?_ ?_
    · simp (disch := first | assumption | omega) only [sp_act, l_of, n_ltT, n_ltF, n_leT, n_leF, n_eqT, n_eqF, n_neM, n_Mne, n_M0, n_Mlt, n_0leM, nI_clamp, x_in_nI, n_1, nI_add, x_at, x_bd_s, x_bv_s, ↓x_lt, decide_true, decide_false, Bool.and_self, Bool.true_and, Bool.and_true, if_true, if_false, ite_true, ite_false, ↓reduceIte, not_true_eq_false, not_false_eq_true, Nat.reduceAdd, Nat.reduceMul, Nat.reduceEqDiff, eq_self, true_and, and_true, false_and, and_false, Option.some.injEq, Prod.mk.injEq, l_0, l_1, l_2, l_3, l_4, l_5, l_6, l_7, l_8, l_9, l_10, l_100, l_160, ↓m_1, ↓m_2, ↓m_3, ↓m_4, ↓m_5, ↓m_6, ↓m_7, h4, true_or, or_true]
    · simp (disch := first | assumption | omega) only [f_X9_act_c7, f_X9_act, f_X9_isCounter, gt_83, h2, h4, r0, l_of, n_ltT, n_ltF, n_leT, n_leF, n_eqT, n_eqF, n_neM, n_Mne, n_M0, n_Mlt, n_0leM, nI_clamp, x_in_nI, n_1, nI_add, x_at, x_bd_s, x_bv_s, ↓x_lt, decide_true, decide_false, Bool.and_self, Bool.true_and, Bool.and_true, if_true, if_false, ite_true, ite_false, ↓reduceIte, not_true_eq_false, not_false_eq_true, Nat.reduceAdd, Nat.reduceMul, Nat.reduceEqDiff, eq_self, true_and, and_true, false_and, and_false, Option.some.injEq, Prod.mk.injEq, l_0, l_1, l_2, l_3, l_4, l_5, l_6, l_7, l_8, l_9, l_10, l_100, l_160, ↓m_1, ↓m_2, ↓m_3, ↓m_4, ↓m_5, ↓m_6, ↓m_7, ii_wi, ji_wi, ri_wi, ti_wi, li_wi, ii_wj, ji_wj, ri_wj, ti_wj, li_wj]
  obtain ⟨q1, q2, q3, q4, q5⟩ := hc k (by omega)
  obtain ⟨y1, y2, y3, y4⟩ := wc k (by omega)
  have k5 : k < 6 := by omega
  have hA : AM L b1 b2 (r_q (s_now σ) 0 k) k (r_q (s_now σ) 1 k) [] (x_wi M 83 40 (nI 0)) := ⟨hG, by simp (disch := first | assumption | omega) only [ii_wi, ji_wi, ri_wi, ti_wi, li_wi, ii_wj, ji_wj, ri_wj, ti_wj, li_wj, l_of, n_ltT, n_ltF, n_leT, n_leF, n_eqT, n_eqF, n_neM, n_Mne, n_M0, n_Mlt, n_0leM, nI_clamp, x_in_nI, n_1, nI_add, x_at, x_bd_s, x_bv_s, ↓x_lt, decide_true, decide_false, Bool.and_self, Bool.true_and, Bool.and_true, if_true, if_false, ite_true, ite_false, ↓reduceIte, not_true_eq_false, not_false_eq_true, Nat.reduceAdd, Nat.reduceMul, Nat.reduceEqDiff, eq_self, true_and, and_true, false_and, and_false, Option.some.injEq, Prod.mk.injEq, l_0, l_1, l_2, l_3, l_4, l_5, l_6, l_7, l_8, l_9, l_10, l_100, l_160, ↓m_1, ↓m_2, ↓m_3, ↓m_4, ↓m_5, ↓m_6, ↓m_7]; exact q1, by simp (disch := first | assumption | omega) only [ii_wi, ji_wi, ri_wi, ti_wi, li_wi, ii_wj, ji_wj, ri_wj, ti_wj, li_wj, l_of, n_ltT, n_ltF, n_leT, n_leF, n_eqT, n_eqF, n_neM, n_Mne, n_M0, n_Mlt, n_0leM, nI_clamp, x_in_nI, n_1, nI_add, x_at, x_bd_s, x_bv_s, ↓x_lt, decide_true, decide_false, Bool.and_self, Bool.true_and, Bool.and_true, if_true, if_false, ite_true, ite_false, ↓reduceIte, not_true_eq_false, not_false_eq_true, Nat.reduceAdd, Nat.reduceMul, Nat.reduceEqDiff, eq_self, true_and, and_true, false_and, and_false, Option.some.injEq, Prod.mk.injEq, l_0, l_1, l_2, l_3, l_4, l_5, l_6, l_7, l_8, l_9, l_10, l_100, l_160, ↓m_1, ↓m_2, ↓m_3, ↓m_4, ↓m_5, ↓m_6, ↓m_7]; exact q2, ⟨by
    show _ = nI 0
    simp (disch := first | assumption | omega) only [ii_wi, ji_wi, ri_wi, ti_wi, li_wi, ii_wj, ji_wj, ri_wj, ti_wj, li_wj, l_of, n_ltT, n_ltF, n_leT, n_leF, n_eqT, n_eqF, n_neM, n_Mne, n_M0, n_Mlt, n_0leM, nI_clamp, x_in_nI, n_1, nI_add, x_at, x_bd_s, x_bv_s, ↓x_lt, decide_true, decide_false, Bool.and_self, Bool.true_and, Bool.and_true, if_true, if_false, ite_true, ite_false, ↓reduceIte, not_true_eq_false, not_false_eq_true, Nat.reduceAdd, Nat.reduceMul, Nat.reduceEqDiff, eq_self, true_and, and_true, false_and, and_false, Option.some.injEq, Prod.mk.injEq, l_0, l_1, l_2, l_3, l_4, l_5, l_6, l_7, l_8, l_9, l_10, l_100, l_160, ↓m_1, ↓m_2, ↓m_3, ↓m_4, ↓m_5, ↓m_6, ↓m_7], fun i hi => absurd hi (Nat.not_lt_zero _)⟩⟩
  have sp : sp_act σ (nI k) (nI j) x = (acV j (r_q (s_now σ) 0 k) k (r_q (s_now σ) 1 k) x, u_tr σ (acB j (r_q (s_now σ) 0 k)).length (lI (acB j (r_q (s_now σ) 0 k)))) := by
    simp (disch := first | assumption | omega) only [sp_act, l_of, n_ltT, n_ltF, n_leT, n_leF, n_eqT, n_eqF, n_neM, n_Mne, n_M0, n_Mlt, n_0leM, nI_clamp, x_in_nI, n_1, nI_add, x_at, x_bd_s, x_bv_s, ↓x_lt, decide_true, decide_false, Bool.and_self, Bool.true_and, Bool.and_true, if_true, if_false, ite_true, ite_false, ↓reduceIte, not_true_eq_false, not_false_eq_true, Nat.reduceAdd, Nat.reduceMul, Nat.reduceEqDiff, eq_self, true_and, and_true, false_and, and_false, Option.some.injEq, Prod.mk.injEq, l_0, l_1, l_2, l_3, l_4, l_5, l_6, l_7, l_8, l_9, l_10, l_100, l_160, ↓m_1, ↓m_2, ↓m_3, ↓m_4, ↓m_5, ↓m_6, ↓m_7, h2, h4, or_self]
  rw [sp]
  have fin : ∀ M3, f_X9_act 83 (nI k) (nI j) x M = some (acV j (r_q (s_now σ) 0 k) k (r_q (s_now σ) 1 k) x, M3) → Geo L b1 b2 M3 → TM (acB j (r_q (s_now σ) 0 k)) M3 → Fr QM (x_wi M 83 40 (nI 0)) M3 → ∃ (M' : XM), f_X9_act 83 (nI k) (nI j) x M = some (acV j (r_q (s_now σ) 0 k) k (r_q (s_now σ) 1 k) x, M') ∧ Geo L b1 b2 M' ∧ MInv (u_tr σ (acB j (r_q (s_now σ) 0 k)).length (lI (acB j (r_q (s_now σ) 0 k)))) M' ∧ MW M' ∧ Agr 0 83 M M' := fun M3 z1 z2 z3 z4 => by
    have hF : Fr QM M M3 := (Fr.rf.wi (by omega)).tr z4
    exact ⟨M3, z1, z2, hI.tr hF z3.1 (fun i _ hi => z3.2 i hi), hMW.ag (hF.agr (fun a k h1 h2 q => by omega)), hF.agr (fun a k h1 h2 q => by omega)⟩
  rcases (by omega : j = 0 ∨ j = 1 ∨ j = 2) with rfl | rfl | rfl
  · obtain ⟨M3, m1, m2, m3⟩ := m_cnt (x := x) hA y1 k5 y2 (by decide)
    refine fin M3 ?_ m2.1 m2.2.2.2 m3
    simp (disch := first | assumption | omega) only [f_X9_act_c7, f_X9_act, f_X9_isCounter, gt_83, h2, r0, m1, l_of, n_ltT, n_ltF, n_leT, n_leF, n_eqT, n_eqF, n_neM, n_Mne, n_M0, n_Mlt, n_0leM, nI_clamp, x_in_nI, n_1, nI_add, x_at, x_bd_s, x_bv_s, ↓x_lt, decide_true, decide_false, Bool.and_self, Bool.true_and, Bool.and_true, if_true, if_false, ite_true, ite_false, ↓reduceIte, not_true_eq_false, not_false_eq_true, Nat.reduceAdd, Nat.reduceMul, Nat.reduceEqDiff, eq_self, true_and, and_true, false_and, and_false, Option.some.injEq, Prod.mk.injEq, l_0, l_1, l_2, l_3, l_4, l_5, l_6, l_7, l_8, l_9, l_10, l_100, l_160, ↓m_1, ↓m_2, ↓m_3, ↓m_4, ↓m_5, ↓m_6, ↓m_7, ii_wi, ji_wi, ri_wi, ti_wi, li_wi, ii_wj, ji_wj, ri_wj, ti_wj, li_wj]
    rfl
  · obtain ⟨M3, m1, m2, m3⟩ := m_ask (x := x) hA y1 k5 y2 (by decide)
    refine fin M3 ?_ m2.1 m2.2.2.2 m3
    simp (disch := first | assumption | omega) only [f_X9_act_c7, f_X9_act, f_X9_isCounter, gt_83, h2, r0, m1, l_of, n_ltT, n_ltF, n_leT, n_leF, n_eqT, n_eqF, n_neM, n_Mne, n_M0, n_Mlt, n_0leM, nI_clamp, x_in_nI, n_1, nI_add, x_at, x_bd_s, x_bv_s, ↓x_lt, decide_true, decide_false, Bool.and_self, Bool.true_and, Bool.and_true, if_true, if_false, ite_true, ite_false, ↓reduceIte, not_true_eq_false, not_false_eq_true, Nat.reduceAdd, Nat.reduceMul, Nat.reduceEqDiff, eq_self, true_and, and_true, false_and, and_false, Option.some.injEq, Prod.mk.injEq, l_0, l_1, l_2, l_3, l_4, l_5, l_6, l_7, l_8, l_9, l_10, l_100, l_160, ↓m_1, ↓m_2, ↓m_3, ↓m_4, ↓m_5, ↓m_6, ↓m_7, ii_wi, ji_wi, ri_wi, ti_wi, li_wi, ii_wj, ji_wj, ri_wj, ti_wj, li_wj]
    rfl
  · obtain ⟨M3, m1, m2, m3⟩ := m_end (x := x) hA y1 k5 y2 (by decide)
    refine fin M3 ?_ m2.1 m2.2.2.2 m3
    simp (disch := first | assumption | omega) only [f_X9_act_c7, f_X9_act, f_X9_isCounter, gt_83, h2, r0, m1, l_of, n_ltT, n_ltF, n_leT, n_leF, n_eqT, n_eqF, n_neM, n_Mne, n_M0, n_Mlt, n_0leM, nI_clamp, x_in_nI, n_1, nI_add, x_at, x_bd_s, x_bv_s, ↓x_lt, decide_true, decide_false, Bool.and_self, Bool.true_and, Bool.and_true, if_true, if_false, ite_true, ite_false, ↓reduceIte, not_true_eq_false, not_false_eq_true, Nat.reduceAdd, Nat.reduceMul, Nat.reduceEqDiff, eq_self, true_and, and_true, false_and, and_false, Option.some.injEq, Prod.mk.injEq, l_0, l_1, l_2, l_3, l_4, l_5, l_6, l_7, l_8, l_9, l_10, l_100, l_160, ↓m_1, ↓m_2, ↓m_3, ↓m_4, ↓m_5, ↓m_6, ↓m_7, ii_wi, ji_wi, ri_wi, ti_wi, li_wi, ii_wj, ji_wj, ri_wj, ti_wj, li_wj]
    rfl
theorem acB_len (w kd : Nat) : (acB w kd).length ≤ 20 := by
  have h1 := cnB_len kd
  have h2 := asB_len kd
  unfold acB
  split
  · omega
  split
  · omega
  unfold enB
  rw [List.length_append, List.length_append]
  repeat' split
  all_goals simp only [List.length_cons, List.length_nil]; omega
theorem wf_act {B : Nat} {σ : XS} (hW : WFS B σ) (c w x : Int32) : WFS B (sp_act σ c w x).2 := by
  unfold sp_act
  split
  · exact ⟨hW.1, hW.2.1, hW.2.2.1, Nat.zero_le _⟩
  · exact ⟨hW.1, hW.2.1, hW.2.2.1, acB_len _ _⟩
