section
variable {L : Nat} {b1 b2 : Bool} {n o p kd a : Nat}
theorem CH.pp {b : Bool} {T A lo hi : Nat} {P N : Nat → Nat → Nat} {M : XM} (h : CH b n o T p kd a P N A lo hi M) {y0 g0 v : Nat} (hy : y0 < n) (hn : n ≤ 200) : CH b n o T p kd a (fun x g => if x = y0 ∧ g = g0 then v else P x g) N A lo hi (x_wi M (pwc b) (g0 * 200 + y0) (nI v)) := by
  obtain ⟨h1, h2, h3, h4, h5, h6, h7, h8, h9⟩ := h
  have hb := pwc_b b
  have hz : ∀ c k, c ≠ pwc b → x_i (x_wi M (pwc b) (g0 * 200 + y0) (nI v)) c k = x_i M c k := fun c k hc => by rw [ii_wi, if_neg (fun q => hc q.1)]
  refine ⟨(hz _ _ (by omega)).trans h1, (hz _ _ (by omega)).trans h2, (hz _ _ (by omega)).trans h3, (hz _ _ (by omega)).trans h4, (hz _ _ (by omega)).trans h5, (hz _ _ (by omega)).trans h6, fun x g hx hg => ?_, fun x g hx hg => (hz _ _ (by omega)).trans (h8 x g hx hg), fun x g hx hg => (hz _ _ (by omega)).trans (h9 x g hx hg)⟩
  rw [ii_wi]
  dsimp only
  by_cases q : x = y0 ∧ g = g0
  · rw [if_pos ⟨rfl, by rw [q.1, q.2]⟩, if_pos q]
  · rw [if_neg (by omega), if_neg q]
    exact h7 x g hx hg
theorem c_hears {M : XM} {v0 : Nat} (hG : Geo L b1 b2 M) (hT : CT M) (ht : x_tag M v0 = 12) (k0 : x_i M v0 0 = nI kd) (hk : kd ≤ 6) : f_X2_hearsBySoMany v0 M = some (nI (if kd = 4 ∨ kd = 6 then 1 else 0), M) := by
  have hu := c_under (t := 4) hG hT hk (by omega)
  rcases (by omega : kd = 0 ∨ kd = 1 ∨ kd = 2 ∨ kd = 3 ∨ kd = 4 ∨ kd = 5 ∨ kd = 6) with rfl | rfl | rfl | rfl | rfl | rfl | rfl <;>
  simp only [und, Nat.reduceBEq, Bool.true_or, Bool.or_true, Bool.or_false, Bool.false_or, Bool.false_and, Bool.and_false, Bool.or_self, Bool.false_eq_true, if_false, if_true, Bool.and_true, Bool.true_and, ite_true, ite_false, ↓reduceIte] at hu <;>
  simp (disch := first | assumption | omega) only [f_X2_hearsBySoMany, ht, k0, hu, true_or, or_true, or_false, false_or, or_self, l_of, n_ltT, n_ltF, n_leT, n_leF, n_eqT, n_eqF, n_neM, n_Mne, n_M0, n_Mlt, n_0leM, nI_clamp, x_in_nI, n_1, nI_add, x_at, x_bd_s, x_bv_s, ↓x_lt, decide_true, decide_false, Bool.and_self, Bool.true_and, Bool.and_true, if_true, if_false, ite_true, ite_false, ↓reduceIte, not_true_eq_false, not_false_eq_true, Nat.reduceAdd, Nat.reduceMul, Nat.reduceEqDiff, eq_self, true_and, and_true, false_and, and_false, Option.some.injEq, Prod.mk.injEq, l_0, l_1, l_2, l_3, l_4, l_5, l_6, l_7, l_8, l_9, l_10, l_100, l_160, ↓m_1, ↓m_2, ↓m_3, ↓m_4, ↓m_5, ↓m_6, ↓m_7]
set_option maxHeartbeats 1000000 in
theorem c_begin0 {M : XM} {c : Nat} {ρ : XR} {B : Nat} (hG : Geo L b1 b2 M) (hT : CT M) (hR : CR 21 ρ M) (hV : WF B ρ) (hB : B ≤ 800000) (hc : c < r_s ρ 0) (hp : 1 ≤ p) (hp2 : p ≤ 200) :
    ∃ M', f_X1_begin 55 21 (nI c) (nI p) M = some M' ∧ Geo L b1 b2 M' ∧ CK b1 (r_s ρ 1) (r_s ρ 3) p (r_q ρ 0 c) (r_q ρ 1 c) (r_q ρ 2 c) (r_q ρ 3 c) 0 M' ∧ Fr PX M M' := by
  obtain ⟨⟨w0, w1, w2, w3, w4, w5, w6, w7⟩, wc, wl, wt⟩ := id hV
  have c6 : c < 6 := by omega
  obtain ⟨y1, y2, y3, y4⟩ := wc c c6
  have y5 := wl c hc
  obtain ⟨⟨e0, e1, e2, e3, e4, e5, e6, e7⟩, hcc, ht⟩ := id hR
  obtain ⟨q1, q2, q3, q4, q5⟩ := hcc c c6
  have hTn := tn_b (kd := r_q ρ 0 c) y2
  have hpb := pwc_b b1
  have gt := gct_24 hG c6
  -- the row of constants
  have hh := c_hears (M := x_wi (x_wi M 55 3 (nI (r_s ρ 1))) 55 4 (nI (r_s ρ 3))) (v0 := 24 + c) hG (hT.ag ((Agr.rf.wi (by omega)).wi (by omega))) gt (by rw [ii_wi, if_neg (by omega), ii_wi, if_neg (by omega)]; exact q1) y1
  have f2 : Fr PX M (x_wi (x_wi (x_wi M 55 3 (nI (r_s ρ 1))) 55 4 (nI (r_s ρ 3))) 55 5 (nI (tn (r_q ρ 0 c) (r_q ρ 1 c)))) := ((Fr.rf.wi (by omega)).wi (by omega)).wi (by omega)
  have hG2 : Geo L b1 b2 (x_wi (x_wi (x_wi M 55 3 (nI (r_s ρ 1))) 55 4 (nI (r_s ρ 3))) 55 5 (nI (tn (r_q ρ 0 c) (r_q ρ 1 c)))) := hG
  have m3 : x_i (x_wi (x_wi (x_wi M 55 3 (nI (r_s ρ 1))) 55 4 (nI (r_s ρ 3))) 55 5 (nI (tn (r_q ρ 0 c) (r_q ρ 1 c)))) 55 3 = nI (r_s ρ 1) := by simp (disch := first | assumption | omega) only [ii_wi, ji_wi, ri_wi, ti_wi, li_wi, ii_wj, ji_wj, ri_wj, ti_wj, li_wj, l_of, n_ltT, n_ltF, n_leT, n_leF, n_eqT, n_eqF, n_neM, n_Mne, n_M0, n_Mlt, n_0leM, nI_clamp, x_in_nI, n_1, nI_add, x_at, x_bd_s, x_bv_s, ↓x_lt, decide_true, decide_false, Bool.and_self, Bool.true_and, Bool.and_true, if_true, if_false, ite_true, ite_false, ↓reduceIte, not_true_eq_false, not_false_eq_true, Nat.reduceAdd, Nat.reduceMul, Nat.reduceEqDiff, eq_self, true_and, and_true, false_and, and_false, Option.some.injEq, Prod.mk.injEq, l_0, l_1, l_2, l_3, l_4, l_5, l_6, l_7, l_8, l_9, l_10, l_100, l_160, ↓m_1, ↓m_2, ↓m_3, ↓m_4, ↓m_5, ↓m_6, ↓m_7]
  have m4 : x_i (x_wi (x_wi (x_wi M 55 3 (nI (r_s ρ 1))) 55 4 (nI (r_s ρ 3))) 55 5 (nI (tn (r_q ρ 0 c) (r_q ρ 1 c)))) 55 4 = nI (r_s ρ 3) := by simp (disch := first | assumption | omega) only [ii_wi, ji_wi, ri_wi, ti_wi, li_wi, ii_wj, ji_wj, ri_wj, ti_wj, li_wj, l_of, n_ltT, n_ltF, n_leT, n_leF, n_eqT, n_eqF, n_neM, n_Mne, n_M0, n_Mlt, n_0leM, nI_clamp, x_in_nI, n_1, nI_add, x_at, x_bd_s, x_bv_s, ↓x_lt, decide_true, decide_false, Bool.and_self, Bool.true_and, Bool.and_true, if_true, if_false, ite_true, ite_false, ↓reduceIte, not_true_eq_false, not_false_eq_true, Nat.reduceAdd, Nat.reduceMul, Nat.reduceEqDiff, eq_self, true_and, and_true, false_and, and_false, Option.some.injEq, Prod.mk.injEq, l_0, l_1, l_2, l_3, l_4, l_5, l_6, l_7, l_8, l_9, l_10, l_100, l_160, ↓m_1, ↓m_2, ↓m_3, ↓m_4, ↓m_5, ↓m_6, ↓m_7]
  have m5 : x_i (x_wi (x_wi (x_wi M 55 3 (nI (r_s ρ 1))) 55 4 (nI (r_s ρ 3))) 55 5 (nI (tn (r_q ρ 0 c) (r_q ρ 1 c)))) 55 5 = nI (tn (r_q ρ 0 c) (r_q ρ 1 c)) := by simp (disch := first | assumption | omega) only [ii_wi, ji_wi, ri_wi, ti_wi, li_wi, ii_wj, ji_wj, ri_wj, ti_wj, li_wj, l_of, n_ltT, n_ltF, n_leT, n_leF, n_eqT, n_eqF, n_neM, n_Mne, n_M0, n_Mlt, n_0leM, nI_clamp, x_in_nI, n_1, nI_add, x_at, x_bd_s, x_bv_s, ↓x_lt, decide_true, decide_false, Bool.and_self, Bool.true_and, Bool.and_true, if_true, if_false, ite_true, ite_false, ↓reduceIte, not_true_eq_false, not_false_eq_true, Nat.reduceAdd, Nat.reduceMul, Nat.reduceEqDiff, eq_self, true_and, and_true, false_and, and_false, Option.some.injEq, Prod.mk.injEq, l_0, l_1, l_2, l_3, l_4, l_5, l_6, l_7, l_8, l_9, l_10, l_100, l_160, ↓m_1, ↓m_2, ↓m_3, ↓m_4, ↓m_5, ↓m_6, ↓m_7]
  -- to there
  have st : f_X1_begin 55 21 (nI c) (nI p) M = f_X1_begin_55 55 21 (nI c) (nI p) (24 + c) (nI (tn (r_q ρ 0 c) (r_q ρ 1 c))) 55 (x_wi (x_wi M 55 3 (nI (r_s ρ 1))) 55 4 (nI (r_s ρ 3))) := by
    have z9 : x_i (x_wi (x_wi M 55 3 (nI (r_s ρ 1))) 55 4 (nI (r_s ρ 3))) (24 + c) 1 = nI (r_q ρ 1 c) := by rw [ii_wi, if_neg (by omega), ii_wi, if_neg (by omega)]; exact q2
    have z4 : x_i (x_wi M 55 3 (nI (r_s ρ 1))) 21 4 = nI (r_s ρ 3) := by rw [ii_wi, if_neg (by omega)]; exact e3
    unfold tn
    by_cases k : r_q ρ 0 c = 4 ∨ r_q ρ 0 c = 6
    · rw [if_pos k]
      rw [if_pos k] at hh
      simp (disch := first | assumption | omega) only [f_X1_begin, f_X1_begin_c33, gt_21, gr_21_0, gt_22, gl_22, gc_22, gt_55, gct_24, e1, z4, z9, hh, l_200, nI_add, ti_wi, l_of, n_ltT, n_ltF, n_leT, n_leF, n_eqT, n_eqF, n_neM, n_Mne, n_M0, n_Mlt, n_0leM, nI_clamp, x_in_nI, n_1, nI_add, x_at, x_bd_s, x_bv_s, ↓x_lt, decide_true, decide_false, Bool.and_self, Bool.true_and, Bool.and_true, if_true, if_false, ite_true, ite_false, ↓reduceIte, not_true_eq_false, not_false_eq_true, Nat.reduceAdd, Nat.reduceMul, Nat.reduceEqDiff, eq_self, true_and, and_true, false_and, and_false, Option.some.injEq, Prod.mk.injEq, l_0, l_1, l_2, l_3, l_4, l_5, l_6, l_7, l_8, l_9, l_10, l_100, l_160, ↓m_1, ↓m_2, ↓m_3, ↓m_4, ↓m_5, ↓m_6, ↓m_7]
    · rw [if_neg k]
      rw [if_neg k] at hh
      simp (disch := first | assumption | omega) only [f_X1_begin, f_X1_begin_c33, gt_21, gr_21_0, gt_22, gl_22, gc_22, gt_55, gct_24, e1, z4, z9, hh, l_200, nI_add, ti_wi, l_of, n_ltT, n_ltF, n_leT, n_leF, n_eqT, n_eqF, n_neM, n_Mne, n_M0, n_Mlt, n_0leM, nI_clamp, x_in_nI, n_1, nI_add, x_at, x_bd_s, x_bv_s, ↓x_lt, decide_true, decide_false, Bool.and_self, Bool.true_and, Bool.and_true, if_true, if_false, ite_true, ite_false, ↓reduceIte, not_true_eq_false, not_false_eq_true, Nat.reduceAdd, Nat.reduceMul, Nat.reduceEqDiff, eq_self, true_and, and_true, false_and, and_false, Option.some.injEq, Prod.mk.injEq, l_0, l_1, l_2, l_3, l_4, l_5, l_6, l_7, l_8, l_9, l_10, l_100, l_160, ↓m_1, ↓m_2, ↓m_3, ↓m_4, ↓m_5, ↓m_6, ↓m_7]
  have st2 : f_X1_begin_55 55 21 (nI c) (nI p) (24 + c) (nI (tn (r_q ρ 0 c) (r_q ρ 1 c))) 55 (x_wi (x_wi M 55 3 (nI (r_s ρ 1))) 55 4 (nI (r_s ρ 3))) = x_bv (f_J7_fill_53178 (pwc b1) (nI 0) (x_wi (x_wi (x_wi M 55 3 (nI (r_s ρ 1))) 55 4 (nI (r_s ρ 3))) 55 5 (nI (tn (r_q ρ 0 c) (r_q ρ 1 c))))) (f_X1_begin_c63 55 21 (nI c) (nI p) (24 + c)) := by
    simp (disch := first | assumption | omega) only [f_X1_begin_55, gt_55, g55_0, ti_wi, ri_wi, l_of, n_ltT, n_ltF, n_leT, n_leF, n_eqT, n_eqF, n_neM, n_Mne, n_M0, n_Mlt, n_0leM, nI_clamp, x_in_nI, n_1, nI_add, x_at, x_bd_s, x_bv_s, ↓x_lt, decide_true, decide_false, Bool.and_self, Bool.true_and, Bool.and_true, if_true, if_false, ite_true, ite_false, ↓reduceIte, not_true_eq_false, not_false_eq_true, Nat.reduceAdd, Nat.reduceMul, Nat.reduceEqDiff, eq_self, true_and, and_true, false_and, and_false, Option.some.injEq, Prod.mk.injEq, l_0, l_1, l_2, l_3, l_4, l_5, l_6, l_7, l_8, l_9, l_10, l_100, l_160, ↓m_1, ↓m_2, ↓m_3, ↓m_4, ↓m_5, ↓m_6, ↓m_7]
  rw [st, st2]
  clear st st2 hh
  generalize x_wi (x_wi (x_wi M 55 3 (nI (r_s ρ 1))) 55 4 (nI (r_s ρ 3))) 55 5 (nI (tn (r_q ρ 0 c) (r_q ρ 1 c))) = K at f2 hG2 m3 m4 m5
  obtain ⟨M3, a1, a2, a3, a4⟩ := c_fillf (v := nI 0) hG2 (show 2000 < 999999 by omega) (gpt hG2 b1) (gpl hG2 b1)
  obtain ⟨M4, c1, c2, c3, c4⟩ := c_fillf (v := nI 0) a2 (show 2000 < 999999 by omega) (gwt a2 b1) (gwl a2 b1)
  have f4 : Fr PX M M4 := (f2.tr (a4.mono (fun a k q => by omega))).tr (c4.mono (fun a k q => by omega))
  have z3 : ∀ k, x_i M4 55 k = x_i K 55 k := fun k => (c4.1 _ _ (by omega)).trans (a4.1 _ _ (by omega))
  obtain ⟨M5, d1, d2, d3, d4⟩ := c_nl2 (L := L) (b1 := b1) (b2 := b2) (v0 := 24 + c) (by omega) (by omega) w2 y1 y2 hp hp2 (tn (r_q ρ 0 c) (r_q ρ 1 c)) x_fuel 0 M4 (fu (by omega)) c2 (gct_24 c2 c6) ((f4.1 _ _ (by omega)).trans q1) ((f4.1 _ _ (by omega)).trans q2) ((z3 3).trans m3) ((z3 5).trans m5) (by omega) (fun y h _ hz => absurd hz (by omega))
  have f5 : Fr PX M M5 := f4.tr (d4.mono (fun a k q => by omega))
  have z5 : ∀ k, x_i M5 55 k = x_i K 55 k := fun k => (d4.1 _ _ (by omega)).trans (z3 k)
  have base : CH b1 (r_s ρ 1) (r_s ρ 3) (tn (r_q ρ 0 c) (r_q ρ 1 c)) p (r_q ρ 0 c) (r_q ρ 1 c) (fun _ _ => 0) (fun _ _ => 0) 0 (r_s ρ 1) 0 (x_wi (x_wi (x_wi M5 55 6 (nI 0)) 55 7 (nI (r_s ρ 1))) 55 8 (nM 1)) := by
    refine ⟨?_, ?_, ?_, ?_, ?_, ?_, fun x h hx hh => ?_, fun x h hx hh => ?_, fun x h hx hh => ?_⟩
    · simp (disch := first | assumption | omega) only [ii_wi, ji_wi, ri_wi, ti_wi, li_wi, ii_wj, ji_wj, ri_wj, ti_wj, li_wj, l_of, n_ltT, n_ltF, n_leT, n_leF, n_eqT, n_eqF, n_neM, n_Mne, n_M0, n_Mlt, n_0leM, nI_clamp, x_in_nI, n_1, nI_add, x_at, x_bd_s, x_bv_s, ↓x_lt, decide_true, decide_false, Bool.and_self, Bool.true_and, Bool.and_true, if_true, if_false, ite_true, ite_false, ↓reduceIte, not_true_eq_false, not_false_eq_true, Nat.reduceAdd, Nat.reduceMul, Nat.reduceEqDiff, eq_self, true_and, and_true, false_and, and_false, Option.some.injEq, Prod.mk.injEq, l_0, l_1, l_2, l_3, l_4, l_5, l_6, l_7, l_8, l_9, l_10, l_100, l_160, ↓m_1, ↓m_2, ↓m_3, ↓m_4, ↓m_5, ↓m_6, ↓m_7]; exact (z5 3).trans m3
    · simp (disch := first | assumption | omega) only [ii_wi, ji_wi, ri_wi, ti_wi, li_wi, ii_wj, ji_wj, ri_wj, ti_wj, li_wj, l_of, n_ltT, n_ltF, n_leT, n_leF, n_eqT, n_eqF, n_neM, n_Mne, n_M0, n_Mlt, n_0leM, nI_clamp, x_in_nI, n_1, nI_add, x_at, x_bd_s, x_bv_s, ↓x_lt, decide_true, decide_false, Bool.and_self, Bool.true_and, Bool.and_true, if_true, if_false, ite_true, ite_false, ↓reduceIte, not_true_eq_false, not_false_eq_true, Nat.reduceAdd, Nat.reduceMul, Nat.reduceEqDiff, eq_self, true_and, and_true, false_and, and_false, Option.some.injEq, Prod.mk.injEq, l_0, l_1, l_2, l_3, l_4, l_5, l_6, l_7, l_8, l_9, l_10, l_100, l_160, ↓m_1, ↓m_2, ↓m_3, ↓m_4, ↓m_5, ↓m_6, ↓m_7]; exact (z5 4).trans m4
    · simp (disch := first | assumption | omega) only [ii_wi, ji_wi, ri_wi, ti_wi, li_wi, ii_wj, ji_wj, ri_wj, ti_wj, li_wj, l_of, n_ltT, n_ltF, n_leT, n_leF, n_eqT, n_eqF, n_neM, n_Mne, n_M0, n_Mlt, n_0leM, nI_clamp, x_in_nI, n_1, nI_add, x_at, x_bd_s, x_bv_s, ↓x_lt, decide_true, decide_false, Bool.and_self, Bool.true_and, Bool.and_true, if_true, if_false, ite_true, ite_false, ↓reduceIte, not_true_eq_false, not_false_eq_true, Nat.reduceAdd, Nat.reduceMul, Nat.reduceEqDiff, eq_self, true_and, and_true, false_and, and_false, Option.some.injEq, Prod.mk.injEq, l_0, l_1, l_2, l_3, l_4, l_5, l_6, l_7, l_8, l_9, l_10, l_100, l_160, ↓m_1, ↓m_2, ↓m_3, ↓m_4, ↓m_5, ↓m_6, ↓m_7]; exact (z5 5).trans m5
    · simp (disch := first | assumption | omega) only [ii_wi, ji_wi, ri_wi, ti_wi, li_wi, ii_wj, ji_wj, ri_wj, ti_wj, li_wj, l_of, n_ltT, n_ltF, n_leT, n_leF, n_eqT, n_eqF, n_neM, n_Mne, n_M0, n_Mlt, n_0leM, nI_clamp, x_in_nI, n_1, nI_add, x_at, x_bd_s, x_bv_s, ↓x_lt, decide_true, decide_false, Bool.and_self, Bool.true_and, Bool.and_true, if_true, if_false, ite_true, ite_false, ↓reduceIte, not_true_eq_false, not_false_eq_true, Nat.reduceAdd, Nat.reduceMul, Nat.reduceEqDiff, eq_self, true_and, and_true, false_and, and_false, Option.some.injEq, Prod.mk.injEq, l_0, l_1, l_2, l_3, l_4, l_5, l_6, l_7, l_8, l_9, l_10, l_100, l_160, ↓m_1, ↓m_2, ↓m_3, ↓m_4, ↓m_5, ↓m_6, ↓m_7]
    · simp (disch := first | assumption | omega) only [ii_wi, ji_wi, ri_wi, ti_wi, li_wi, ii_wj, ji_wj, ri_wj, ti_wj, li_wj, l_of, n_ltT, n_ltF, n_leT, n_leF, n_eqT, n_eqF, n_neM, n_Mne, n_M0, n_Mlt, n_0leM, nI_clamp, x_in_nI, n_1, nI_add, x_at, x_bd_s, x_bv_s, ↓x_lt, decide_true, decide_false, Bool.and_self, Bool.true_and, Bool.and_true, if_true, if_false, ite_true, ite_false, ↓reduceIte, not_true_eq_false, not_false_eq_true, Nat.reduceAdd, Nat.reduceMul, Nat.reduceEqDiff, eq_self, true_and, and_true, false_and, and_false, Option.some.injEq, Prod.mk.injEq, l_0, l_1, l_2, l_3, l_4, l_5, l_6, l_7, l_8, l_9, l_10, l_100, l_160, ↓m_1, ↓m_2, ↓m_3, ↓m_4, ↓m_5, ↓m_6, ↓m_7]
    · simp (disch := first | assumption | omega) only [ii_wi, ji_wi, ri_wi, ti_wi, li_wi, ii_wj, ji_wj, ri_wj, ti_wj, li_wj, l_of, n_ltT, n_ltF, n_leT, n_leF, n_eqT, n_eqF, n_neM, n_Mne, n_M0, n_Mlt, n_0leM, nI_clamp, x_in_nI, n_1, nI_add, x_at, x_bd_s, x_bv_s, ↓x_lt, decide_true, decide_false, Bool.and_self, Bool.true_and, Bool.and_true, if_true, if_false, ite_true, ite_false, ↓reduceIte, not_true_eq_false, not_false_eq_true, Nat.reduceAdd, Nat.reduceMul, Nat.reduceEqDiff, eq_self, true_and, and_true, false_and, and_false, Option.some.injEq, Prod.mk.injEq, l_0, l_1, l_2, l_3, l_4, l_5, l_6, l_7, l_8, l_9, l_10, l_100, l_160, ↓m_1, ↓m_2, ↓m_3, ↓m_4, ↓m_5, ↓m_6, ↓m_7]
      rfl
    · rw [ii_wi, if_neg (by omega), ii_wi, if_neg (by omega), ii_wi, if_neg (by omega), d4.1 _ _ (by omega), c4.1 _ _ (by omega)]
      exact a3 _ (by omega)
    · rw [ii_wi, if_neg (by omega), ii_wi, if_neg (by omega), ii_wi, if_neg (by omega), d4.1 _ _ (by omega)]
      exact c3 _ (by omega)
    · rw [ii_wi, if_neg (by omega), ii_wi, if_neg (by omega), ii_wi, if_neg (by omega)]
      exact d3 x h hx hh
  have f6 : Fr PX M (x_wi (x_wi (x_wi M5 55 6 (nI 0)) 55 7 (nI (r_s ρ 1))) 55 8 (nM 1)) := ((f5.wi (by omega)).wi (by omega)).wi (by omega)
  have hG6 : Geo L b1 b2 (x_wi (x_wi (x_wi M5 55 6 (nI 0)) 55 7 (nI (r_s ρ 1))) 55 8 (nM 1)) := d2
  have k3 : x_i M5 55 3 = nI (r_s ρ 1) := (z5 3).trans m3
  have k3' : x_i (x_wi M5 55 6 (nI 0)) 55 3 = nI (r_s ρ 1) := by simp (disch := first | assumption | omega) only [ii_wi, ji_wi, ri_wi, ti_wi, li_wi, ii_wj, ji_wj, ri_wj, ti_wj, li_wj, l_of, n_ltT, n_ltF, n_leT, n_leF, n_eqT, n_eqF, n_neM, n_Mne, n_M0, n_Mlt, n_0leM, nI_clamp, x_in_nI, n_1, nI_add, x_at, x_bd_s, x_bv_s, ↓x_lt, decide_true, decide_false, Bool.and_self, Bool.true_and, Bool.and_true, if_true, if_false, ite_true, ite_false, ↓reduceIte, not_true_eq_false, not_false_eq_true, Nat.reduceAdd, Nat.reduceMul, Nat.reduceEqDiff, eq_self, true_and, and_true, false_and, and_false, Option.some.injEq, Prod.mk.injEq, l_0, l_1, l_2, l_3, l_4, l_5, l_6, l_7, l_8, l_9, l_10, l_100, l_160, ↓m_1, ↓m_2, ↓m_3, ↓m_4, ↓m_5, ↓m_6, ↓m_7]; exact k3
  have st3 : x_bv (f_J7_fill_53178 (pwc b1) (nI 0) K) (f_X1_begin_c63 55 21 (nI c) (nI p) (24 + c)) = x_bd (f_X4_isThrough 21 (nI c) (x_wi (x_wi (x_wi M5 55 6 (nI 0)) 55 7 (nI (r_s ρ 1))) 55 8 (nM 1))) (f_X1_begin_c101 55 (24 + c)) := by
    have d1' : f_X1_noteLefts 55 (24 + c) (nI p) M4 = some M5 := d1
    simp (disch := first | assumption | omega) only [a1, c1, d1', f_X1_begin_c63, f_X1_begin_c71, f_X1_begin_c78, gt_55, g55_1, gt_21, k3', ti_wi, l_of, n_ltT, n_ltF, n_leT, n_leF, n_eqT, n_eqF, n_neM, n_Mne, n_M0, n_Mlt, n_0leM, nI_clamp, x_in_nI, n_1, nI_add, x_at, x_bd_s, x_bv_s, ↓x_lt, decide_true, decide_false, Bool.and_self, Bool.true_and, Bool.and_true, if_true, if_false, ite_true, ite_false, ↓reduceIte, not_true_eq_false, not_false_eq_true, Nat.reduceAdd, Nat.reduceMul, Nat.reduceEqDiff, eq_self, true_and, and_true, false_and, and_false, Option.some.injEq, Prod.mk.injEq, l_0, l_1, l_2, l_3, l_4, l_5, l_6, l_7, l_8, l_9, l_10, l_100, l_160, ↓m_1, ↓m_2, ↓m_3, ↓m_4, ↓m_5, ↓m_6, ↓m_7, x_bv_s]
  rw [st3]
  clear st3
  have en := (f6.1 21 2 (by omega)).trans e1
  have eq3 := (f6.1 (24 + c) 2 (by omega)).trans q3
  have eq5 := (f6.1 (24 + c) 4 (by omega)).trans q5
  have ek5 := base.2.2.1
  generalize (x_wi (x_wi (x_wi M5 55 6 (nI 0)) 55 7 (nI (r_s ρ 1))) 55 8 (nM 1)) = W at base f6 hG6 en eq3 eq5 ek5 ⊢
  have hm := Nat.mod_lt (r_q ρ 3 c) (show tn (r_q ρ 0 c) (r_q ρ 1 c) > 0 by omega)
  by_cases hx : r_s ρ 1 ≤ r_q ρ 2 c
  · refine ⟨x_wi W 55 6 (nI 1000000), ?_, hG6, ⟨r_s ρ 1, 0, ?_, ?_⟩, f6.wi (by omega)⟩
    · simp (disch := first | assumption | omega) only [f_X4_isThrough, f_X1_begin_c101, gt_21, gr_21_0, gt_22, gl_22, gc_22, gct_24, gt_55, en, eq3, l_1e6, l_of, n_ltT, n_ltF, n_leT, n_leF, n_eqT, n_eqF, n_neM, n_Mne, n_M0, n_Mlt, n_0leM, nI_clamp, x_in_nI, n_1, nI_add, x_at, x_bd_s, x_bv_s, ↓x_lt, decide_true, decide_false, Bool.and_self, Bool.true_and, Bool.and_true, if_true, if_false, ite_true, ite_false, ↓reduceIte, not_true_eq_false, not_false_eq_true, Nat.reduceAdd, Nat.reduceMul, Nat.reduceEqDiff, eq_self, true_and, and_true, false_and, and_false, Option.some.injEq, Prod.mk.injEq, l_0, l_1, l_2, l_3, l_4, l_5, l_6, l_7, l_8, l_9, l_10, l_100, l_160, ↓m_1, ↓m_2, ↓m_3, ↓m_4, ↓m_5, ↓m_6, ↓m_7]
    · refine (base.s (k := 6) (v := nI 1000000) (A' := 1000000) (lo' := r_s ρ 1) (hi' := 0) (Or.inl rfl) (by rw [if_pos rfl]) (by rw [if_neg (by omega)]) (by rw [if_neg (by omega)])).c (fun x g hx' hg => ?_) (fun _ _ _ _ => rfl) ?_
      · show (if x = r_q ρ 2 c ∧ g = r_q ρ 3 c % tn (r_q ρ 0 c) (r_q ρ 1 c) ∧ x < r_s ρ 1 then 1000000 else 0) = 0
        rw [if_neg (by omega)]
      · show (if r_s ρ 1 ≤ r_q ρ 2 c then 1000000 else 0) = 1000000
        rw [if_pos hx]
    · refine ⟨Nat.le_refl _, Nat.zero_le _, fun y g hy hg hz => ?_⟩
      refine absurd ?_ hz
      show (if y = r_q ρ 2 c ∧ g = r_q ρ 3 c % tn (r_q ρ 0 c) (r_q ρ 1 c) ∧ y < r_s ρ 1 then 1000000 else 0) = 0
      rw [if_neg (by omega)]
  · have hlo := c_lo (M := W) (x := r_q ρ 3 c) (y := tn (r_q ρ 0 c) (r_q ρ 1 c)) (by omega) (by omega) (by omega)
    have b1' := base.pp (v := 1000000) (g0 := r_q ρ 3 c % tn (r_q ρ 0 c) (r_q ρ 1 c)) (show r_q ρ 2 c < r_s ρ 1 by omega) w2
    have b2' := b1'.s (k := 7) (v := nI (r_q ρ 2 c)) (A' := 0) (lo' := r_q ρ 2 c) (hi' := 0) (Or.inr (Or.inl rfl)) (by rw [if_neg (by omega)]) (by rw [if_pos rfl]) (by rw [if_neg (by omega)])
    have b3' := b2'.s (k := 8) (v := nI (r_q ρ 2 c)) (A' := 0) (lo' := r_q ρ 2 c) (hi' := r_q ρ 2 c + 1) (Or.inr (Or.inr rfl)) (by rw [if_neg (by omega)]) (by rw [if_neg (by omega)]) (by rw [if_pos rfl]; rfl)
    refine ⟨_, ?_, ?_, ⟨r_q ρ 2 c, r_q ρ 2 c + 1, b3'.c (fun x g hx' hg => ?_) (fun _ _ _ _ => rfl) ?_, ?_⟩, ((f6.wi (by omega)).wi (by omega)).wi (by omega)⟩
    · have e8 : x_i (x_wi W (pwc b1) (r_q ρ 3 c % tn (r_q ρ 0 c) (r_q ρ 1 c) * 200 + r_q ρ 2 c) (nI 1000000)) (24 + c) 2 = nI (r_q ρ 2 c) := by rw [ii_wi, if_neg (by omega)]; exact eq3
      have e9 : x_i (x_wi (x_wi W (pwc b1) (r_q ρ 3 c % tn (r_q ρ 0 c) (r_q ρ 1 c) * 200 + r_q ρ 2 c) (nI 1000000)) 55 7 (nI (r_q ρ 2 c))) (24 + c) 2 = nI (r_q ρ 2 c) := by rw [ii_wi, if_neg (by omega)]; exact e8
      simp (disch := first | assumption | omega) only [f_X4_isThrough, f_X1_begin_c101, f_X1_begin_c127, gt_21, gr_21_0, gt_22, gl_22, gc_22, gct_24, gt_55, g55_0, gpt, gpl, en, eq3, eq5, ek5, hlo, e8, e9, l_200, l_1e6, pk_mul, nI_add, ti_wi, l_of, n_ltT, n_ltF, n_leT, n_leF, n_eqT, n_eqF, n_neM, n_Mne, n_M0, n_Mlt, n_0leM, nI_clamp, x_in_nI, n_1, nI_add, x_at, x_bd_s, x_bv_s, ↓x_lt, decide_true, decide_false, Bool.and_self, Bool.true_and, Bool.and_true, if_true, if_false, ite_true, ite_false, ↓reduceIte, not_true_eq_false, not_false_eq_true, Nat.reduceAdd, Nat.reduceMul, Nat.reduceEqDiff, eq_self, true_and, and_true, false_and, and_false, Option.some.injEq, Prod.mk.injEq, l_0, l_1, l_2, l_3, l_4, l_5, l_6, l_7, l_8, l_9, l_10, l_100, l_160, ↓m_1, ↓m_2, ↓m_3, ↓m_4, ↓m_5, ↓m_6, ↓m_7]
    · exact hG6
    · show (if x = r_q ρ 2 c ∧ g = r_q ρ 3 c % tn (r_q ρ 0 c) (r_q ρ 1 c) ∧ x < r_s ρ 1 then 1000000 else 0) = _
      by_cases q : x = r_q ρ 2 c ∧ g = r_q ρ 3 c % tn (r_q ρ 0 c) (r_q ρ 1 c)
      · rw [if_pos ⟨q.1, q.2, hx'⟩, if_pos q]
      · rw [if_neg (fun z => q ⟨z.1, z.2.1⟩), if_neg q]
    · show (if r_s ρ 1 ≤ r_q ρ 2 c then 1000000 else 0) = 0
      rw [if_neg hx]
    · refine ⟨by omega, by omega, fun y g hy hg hz => ?_⟩
      by_cases q : y = r_q ρ 2 c
      · omega
      · refine absurd ?_ hz
        show (if y = r_q ρ 2 c ∧ g = r_q ρ 3 c % tn (r_q ρ 0 c) (r_q ρ 1 c) ∧ y < r_s ρ 1 then 1000000 else 0) = 0
        rw [if_neg (fun z => q z.1)]
/-- CHANCE, MEDIAN of the class -/
theorem c_chance {M : XM} {c t : Nat} {ρ : XR} {B : Nat} (hG : Geo L b1 b2 M) (hT : CT M) (hR : CR 21 ρ M) (hV : WF B ρ) (hB : B ≤ 800000) (hc : c < r_s ρ 0) (ht : t ≤ 400) :
    ∃ M' b1', f_X1_behind 55 21 (nI c) (nI t) M = some (nI (fk (r_s ρ 3) (r_s ρ 1) (r_s ρ 2) (r_q ρ 0 c) (r_q ρ 1 c) (r_q ρ 2 c) (r_q ρ 3 c) t).2, M') ∧ Geo L b1' b2 M' ∧ Fr PX M M' := by
  obtain ⟨⟨w0, w1, w2, w3, w4, w5, w6, w7⟩, wc, wl, wt⟩ := id hV
  have e2 := hR.1.2.2.1
  obtain ⟨M1, g1, g2, g3, g4⟩ := c_begin0 hG hT hR hV hB hc w3 w4
  obtain ⟨M2, b1', u1, u2, u3⟩ := c_beh (L := L) (b2 := b2) w2 w5 (wc c (by omega)).2.1 (wl c hc) ht t x_fuel 0 b1 M1 (fu (by omega)) g2 g3 (by omega)
  refine ⟨M2, b1', ?_, u2, g4.tr u3⟩
  simp (disch := first | assumption | omega) only [f_X1_behind, f_X1_behind_c7, gt_21, gt_55, e2, g1, l_of, n_ltT, n_ltF, n_leT, n_leF, n_eqT, n_eqF, n_neM, n_Mne, n_M0, n_Mlt, n_0leM, nI_clamp, x_in_nI, n_1, nI_add, x_at, x_bd_s, x_bv_s, ↓x_lt, decide_true, decide_false, Bool.and_self, Bool.true_and, Bool.and_true, if_true, if_false, ite_true, ite_false, ↓reduceIte, not_true_eq_false, not_false_eq_true, Nat.reduceAdd, Nat.reduceMul, Nat.reduceEqDiff, eq_self, true_and, and_true, false_and, and_false, Option.some.injEq, Prod.mk.injEq, l_0, l_1, l_2, l_3, l_4, l_5, l_6, l_7, l_8, l_9, l_10, l_100, l_160, ↓m_1, ↓m_2, ↓m_3, ↓m_4, ↓m_5, ↓m_6, ↓m_7]
  exact u1
theorem c_median {M : XM} {c v p m : Nat} {ρ : XR} {B : Nat} (hG : Geo L b1 b2 M) (hT : CT M) (hR : CR 21 ρ M) (hV : WF B ρ) (hB : B ≤ 800000) (hc : c < r_s ρ 0) (hv : v ≤ 1000000) (hp : 1 ≤ p) (hp2 : p ≤ 200) (hm : m ≤ 400) :
    ∃ M' b1', f_X1_untilAtLeast 55 (nI v) 21 (nI c) (nI p) (nI m) M = some (oI (um (r_s ρ 3) (r_s ρ 1) p (r_q ρ 0 c) (r_q ρ 1 c) (r_q ρ 2 c) (r_q ρ 3 c) v (m + 1) 0), M') ∧ Geo L b1' b2 M' ∧ Fr PX M M' := by
  obtain ⟨⟨w0, w1, w2, w3, w4, w5, w6, w7⟩, wc, wl, wt⟩ := id hV
  obtain ⟨M1, g1, g2, g3, g4⟩ := c_begin0 hG hT hR hV hB hc hp hp2
  obtain ⟨M2, b1', u1, u2, u3⟩ := c_unt (L := L) (b2 := b2) w2 w5 (wc c (by omega)).2.1 (wl c hc) hm hv (m + 1) x_fuel 0 b1 M1 (fu (by omega)) g2 g3 (by omega)
  refine ⟨M2, b1', ?_, u2, g4.tr u3⟩
  simp (disch := first | assumption | omega) only [f_X1_untilAtLeast, f_X1_untilAtLeast_c5, gt_55, g1, l_of, n_ltT, n_ltF, n_leT, n_leF, n_eqT, n_eqF, n_neM, n_Mne, n_M0, n_Mlt, n_0leM, nI_clamp, x_in_nI, n_1, nI_add, x_at, x_bd_s, x_bv_s, ↓x_lt, decide_true, decide_false, Bool.and_self, Bool.true_and, Bool.and_true, if_true, if_false, ite_true, ite_false, ↓reduceIte, not_true_eq_false, not_false_eq_true, Nat.reduceAdd, Nat.reduceMul, Nat.reduceEqDiff, eq_self, true_and, and_true, false_and, and_false, Option.some.injEq, Prod.mk.injEq, l_0, l_1, l_2, l_3, l_4, l_5, l_6, l_7, l_8, l_9, l_10, l_100, l_160, ↓m_1, ↓m_2, ↓m_3, ↓m_4, ↓m_5, ↓m_6, ↓m_7]
  exact u1
end
