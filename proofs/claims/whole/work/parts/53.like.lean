/-! THE IMAGE: a Room becomes like another -/
/-- the same but where P holds -/
def Fr (P : Nat → Nat → Prop) (M M' : XM) : Prop := (∀ a k, ¬ P a k → x_i M' a k = x_i M a k) ∧ ∀ a k, x_j M' a k = x_j M a k
theorem Fr.rf {P : Nat → Nat → Prop} {M : XM} : Fr P M M := ⟨fun _ _ _ => rfl, fun _ _ => rfl⟩
theorem Fr.wi {P : Nat → Nat → Prop} {M M' : XM} {a k : Nat} {v : Int32} (h : Fr P M M') (hp : P a k) : Fr P M (x_wi M' a k v) :=
  ⟨fun b j hb => by rw [ii_wi, if_neg (fun q => hb (by rw [q.1, q.2]; exact hp))]; exact h.1 b j hb, h.2⟩
theorem Fr.tr {P : Nat → Nat → Prop} {M M1 M2 : XM} (h : Fr P M M1) (h2 : Fr P M1 M2) : Fr P M M2 := ⟨fun a k hp => (h2.1 a k hp).trans (h.1 a k hp), fun a k => (h2.2 a k).trans (h.2 a k)⟩
theorem Fr.mono {P Q : Nat → Nat → Prop} {M M' : XM} (h : Fr P M M') (hq : ∀ a k, P a k → Q a k) : Fr Q M M' := ⟨fun a k hn => h.1 a k (fun hp => hn (hq a k hp)), h.2⟩
theorem Fr.agr {P : Nat → Nat → Prop} {M M' : XM} {lo hi : Nat} (h : Fr P M M') (hn : ∀ a k, lo ≤ a → a < hi → ¬ P a k) : Agr lo hi M M' := fun a h1 h2 j => ⟨h.1 a j (hn a j h1 h2), h.2 a j⟩
def RG (r : Nat) (M : XM) : Prop := (x_tag M r = 14 ∧ x_r M r 0 = r + 1 ∧ x_tag M (r + 1) = 3 ∧ x_len M (r + 1) = 6 ∧ x_r M r 6 = r + 2 ∧ x_tag M (r + 2) = 1 ∧ x_len M (r + 2) = 8) ∧ ∀ k, k < 6 → x_r M (r + 1) k = r + 3 + k ∧ x_tag M (r + 3 + k) = 12
section
variable {L : Nat} {b1 b2 : Bool} {M : XM}
theorem rg_21 (hG : Geo L b1 b2 M) : RG 21 M := ⟨⟨gt_21 hG, gr_21_0 hG, gt_22 hG, gl_22 hG, gr_21_6 hG, gt_23 hG, gl_23 hG⟩, fun _ hk => ⟨gc_22 hG hk, gct_24 hG hk⟩⟩
theorem rg_30 (hG : Geo L b1 b2 M) : RG 30 M := ⟨⟨gt_30 hG, gr_30_0 hG, gt_31 hG, gl_31 hG, gr_30_6 hG, gt_32 hG, gl_32 hG⟩, fun _ hk => ⟨gc_31 hG hk, gct_33 hG hk⟩⟩
theorem rg_40 (hG : Geo L b1 b2 M) : RG 40 M := ⟨⟨gt_40 hG, gr_40_0 hG, gt_41 hG, gl_41 hG, gr_40_6 hG, gt_42 hG, gl_42 hG⟩, fun _ hk => ⟨gc_41 hG hk, gct_43 hG hk⟩⟩
end
def CC (r : Nat) (ρ : XR) (c : Nat) (M : XM) : Prop := x_i M (r + 3 + c) 0 = nI (r_q ρ 0 c) ∧ x_i M (r + 3 + c) 1 = nI (r_q ρ 1 c) ∧ x_i M (r + 3 + c) 2 = nI (r_q ρ 2 c) ∧ x_i M (r + 3 + c) 3 = r_off ρ c ∧ x_i M (r + 3 + c) 4 = nI (r_q ρ 3 c)
theorem like2 {r s : Nat} {ρ : XR} (hd : r + 9 ≤ s ∨ s + 9 ≤ r) (m : Nat) : ∀ (n j : Nat) (M : XM), m < n → RG r M → RG s M → CR s ρ M → (∀ i, i < j → x_i M (r + 2) i = nI (r_q ρ 4 i)) → j + m = 8 →
    ∃ M', lp_X4_becomeLike_74 n r s (nI j) M = some M' ∧ M'.1 = M.1 ∧ M'.2.2.2 = M.2.2.2 ∧ (x_i M' r 7 = nI (r_s ρ 5) ∧ x_i M' r 8 = r_done ρ ∧ x_i M' r 9 = r_seed ρ) ∧ (∀ i, i < 8 → x_i M' (r + 2) i = nI (r_q ρ 4 i)) ∧ Fr (fun a k => a = r + 2 ∨ a = r ∧ 6 < k) M M' := by
  induction m with
  | zero =>
    intro n j M hn hr hs hR hj hm
    obtain ⟨n, rfl⟩ : ∃ i, n = i + 1 := ⟨n - 1, by omega⟩
    obtain ⟨⟨e0, e1, e2, e3, e4, e5, e6, e7⟩, hc, ht⟩ := id hR
    obtain ⟨⟨r1, r2, r3, r4, r5, r6, r7⟩, r8⟩ := hr
    obtain ⟨⟨s1, s2, s3, s4, s5, s6, s7⟩, s8⟩ := hs
    refine ⟨x_wi (x_wi (x_wi M r 7 (nI (r_s ρ 5))) r 8 (r_done ρ)) r 9 (r_seed ρ), ?_, rfl, rfl, ?_, ?_, ((Fr.rf.wi (Or.inr ⟨rfl, by omega⟩)).wi (Or.inr ⟨rfl, by omega⟩)).wi (Or.inr ⟨rfl, by omega⟩)⟩
    · rw [s_lp_X4_becomeLike_74, show j = 8 by omega]
      simp (disch := first | assumption | omega) only [bd_X4_becomeLike_74, r1, r5, r6, r7, s1, e5, e6, e7, l_of, n_ltT, n_ltF, n_leT, n_leF, n_eqT, n_eqF, n_neM, n_Mne, n_M0, n_Mlt, n_0leM, nI_clamp, x_in_nI, n_1, nI_add, x_at, x_bd_s, x_bv_s, ↓x_lt, decide_true, decide_false, Bool.and_self, Bool.true_and, Bool.and_true, if_true, if_false, ite_true, ite_false, ↓reduceIte, not_true_eq_false, not_false_eq_true, Nat.reduceAdd, Nat.reduceMul, Nat.reduceEqDiff, eq_self, true_and, and_true, false_and, and_false, Option.some.injEq, Prod.mk.injEq, l_0, l_1, l_2, l_3, l_4, l_5, l_6, l_7, l_8, l_9, l_10, l_100, l_160, ↓m_1, ↓m_2, ↓m_3, ↓m_4, ↓m_5, ↓m_6, ↓m_7, ii_wi, ji_wi, ri_wi, ti_wi, li_wi, ii_wj, ji_wj, ri_wj, ti_wj, li_wj]
    · refine ⟨?_, ?_, ?_⟩ <;> simp (disch := first | assumption | omega) only [ii_wi, ji_wi, ri_wi, ti_wi, li_wi, ii_wj, ji_wj, ri_wj, ti_wj, li_wj, l_of, n_ltT, n_ltF, n_leT, n_leF, n_eqT, n_eqF, n_neM, n_Mne, n_M0, n_Mlt, n_0leM, nI_clamp, x_in_nI, n_1, nI_add, x_at, x_bd_s, x_bv_s, ↓x_lt, decide_true, decide_false, Bool.and_self, Bool.true_and, Bool.and_true, if_true, if_false, ite_true, ite_false, ↓reduceIte, not_true_eq_false, not_false_eq_true, Nat.reduceAdd, Nat.reduceMul, Nat.reduceEqDiff, eq_self, true_and, and_true, false_and, and_false, Option.some.injEq, Prod.mk.injEq, l_0, l_1, l_2, l_3, l_4, l_5, l_6, l_7, l_8, l_9, l_10, l_100, l_160, ↓m_1, ↓m_2, ↓m_3, ↓m_4, ↓m_5, ↓m_6, ↓m_7]
    · intro i hi
      simp only [ii_wi]; repeat rw [if_neg (by omega)]
      exact hj i (by omega)
  | succ m ih =>
    intro n j M hn hr hs hR hj hm
    obtain ⟨n, rfl⟩ : ∃ i, n = i + 1 := ⟨n - 1, by omega⟩
    obtain ⟨⟨e0, e1, e2, e3, e4, e5, e6, e7⟩, hc, ht⟩ := id hR
    have y := ht j (by omega)
    obtain ⟨M2, g1, g2, g3, g4, g5, g6⟩ := ih n (j + 1) (x_wi M (r + 2) j (nI (r_q ρ 4 j))) (by omega) hr hs (hR.ag (fun a h1 h2 k => ⟨by rw [ii_wi, if_neg (by omega)], rfl⟩)) (fun i hi => by
      rw [ii_wi]
      split
      · next q => rw [q.2]
      · exact hj i (by omega)) (by omega)
    refine ⟨M2, ?_, g2, g3, g4, g5, (Fr.rf.wi (Or.inl rfl)).tr g6⟩
    obtain ⟨⟨r1, r2, r3, r4, r5, r6, r7⟩, r8⟩ := hr
    obtain ⟨⟨s1, s2, s3, s4, s5, s6, s7⟩, s8⟩ := hs
    rw [s_lp_X4_becomeLike_74]
    simp (disch := first | assumption | omega) only [bd_X4_becomeLike_74, r1, r5, r6, r7, s1, s5, s6, s7, y, l_of, n_ltT, n_ltF, n_leT, n_leF, n_eqT, n_eqF, n_neM, n_Mne, n_M0, n_Mlt, n_0leM, nI_clamp, x_in_nI, n_1, nI_add, x_at, x_bd_s, x_bv_s, ↓x_lt, decide_true, decide_false, Bool.and_self, Bool.true_and, Bool.and_true, if_true, if_false, ite_true, ite_false, ↓reduceIte, not_true_eq_false, not_false_eq_true, Nat.reduceAdd, Nat.reduceMul, Nat.reduceEqDiff, eq_self, true_and, and_true, false_and, and_false, Option.some.injEq, Prod.mk.injEq, l_0, l_1, l_2, l_3, l_4, l_5, l_6, l_7, l_8, l_9, l_10, l_100, l_160, ↓m_1, ↓m_2, ↓m_3, ↓m_4, ↓m_5, ↓m_6, ↓m_7]
    exact g1
theorem like1 {r s : Nat} {ρ : XR} (hd : r + 9 ≤ s ∨ s + 9 ≤ r) (m : Nat) : ∀ (n j : Nat) (M : XM), m < n → RG r M → RG s M → CR s ρ M → (∀ c, c < j → CC r ρ c M) → j + m = 6 →
    ∃ M', lp_X4_becomeLike_2 n r s (nI j) M = some M' ∧ M'.1 = M.1 ∧ M'.2.2.2 = M.2.2.2 ∧ CR r ρ M' ∧ Fr (fun a k => r ≤ a ∧ a < r + 9) M M' := by
  induction m with
  | zero =>
    intro n j M hn hr hs hR hj hm
    obtain ⟨n, rfl⟩ : ∃ i, n = i + 1 := ⟨n - 1, by omega⟩
    obtain ⟨⟨e0, e1, e2, e3, e4, e5, e6, e7⟩, hc, ht⟩ := id hR
    have hd2 : (s = r) = False := eq_false (by omega)
    have f0 : Fr (fun a k => r ≤ a ∧ a < r + 9) M (x_wi (x_wi (x_wi (x_wi (x_wi M r 1 (nI (r_s ρ 0))) r 2 (nI (r_s ρ 1))) r 3 (nI (r_s ρ 2))) r 4 (nI (r_s ρ 3))) r 5 (nI (r_s ρ 4))) := ((((Fr.rf.wi ⟨by omega, by omega⟩).wi ⟨by omega, by omega⟩).wi ⟨by omega, by omega⟩).wi ⟨by omega, by omega⟩).wi ⟨by omega, by omega⟩
    obtain ⟨M2, g1, g2, g3, g4, g5, g6⟩ := like2 hd 8 x_fuel 0 (x_wi (x_wi (x_wi (x_wi (x_wi M r 1 (nI (r_s ρ 0))) r 2 (nI (r_s ρ 1))) r 3 (nI (r_s ρ 2))) r 4 (nI (r_s ρ 3))) r 5 (nI (r_s ρ 4))) (fu (by omega)) hr hs (hR.ag (f0.agr (fun a k h1 h2 q => by omega))) (fun i hi => absurd hi (by omega)) (by omega)
    refine ⟨M2, ?_, g2, g3, ⟨⟨?_, ?_, ?_, ?_, ?_, g4.1, g4.2.1, g4.2.2⟩, fun c hc6 => ?_, g5⟩, f0.tr (g6.mono (fun a k q => by omega))⟩
    · obtain ⟨⟨r1, r2, r3, r4, r5, r6, r7⟩, r8⟩ := hr
      obtain ⟨⟨s1, s2, s3, s4, s5, s6, s7⟩, s8⟩ := hs
      rw [s_lp_X4_becomeLike_2, show j = 6 by omega]
      simp (disch := first | assumption | omega) only [bd_X4_becomeLike_2, r1, r2, r3, r4, s1, e0, e1, e2, e3, e4, hd2, l_of, n_ltT, n_ltF, n_leT, n_leF, n_eqT, n_eqF, n_neM, n_Mne, n_M0, n_Mlt, n_0leM, nI_clamp, x_in_nI, n_1, nI_add, x_at, x_bd_s, x_bv_s, ↓x_lt, decide_true, decide_false, Bool.and_self, Bool.true_and, Bool.and_true, if_true, if_false, ite_true, ite_false, ↓reduceIte, not_true_eq_false, not_false_eq_true, Nat.reduceAdd, Nat.reduceMul, Nat.reduceEqDiff, eq_self, true_and, and_true, false_and, and_false, Option.some.injEq, Prod.mk.injEq, l_0, l_1, l_2, l_3, l_4, l_5, l_6, l_7, l_8, l_9, l_10, l_100, l_160, ↓m_1, ↓m_2, ↓m_3, ↓m_4, ↓m_5, ↓m_6, ↓m_7, ii_wi, ji_wi, ri_wi, ti_wi, li_wi, ii_wj, ji_wj, ri_wj, ti_wj, li_wj]
      exact g1
    · rw [g6.1 _ _ (by omega)]; simp (disch := first | assumption | omega) only [ii_wi, ji_wi, ri_wi, ti_wi, li_wi, ii_wj, ji_wj, ri_wj, ti_wj, li_wj, l_of, n_ltT, n_ltF, n_leT, n_leF, n_eqT, n_eqF, n_neM, n_Mne, n_M0, n_Mlt, n_0leM, nI_clamp, x_in_nI, n_1, nI_add, x_at, x_bd_s, x_bv_s, ↓x_lt, decide_true, decide_false, Bool.and_self, Bool.true_and, Bool.and_true, if_true, if_false, ite_true, ite_false, ↓reduceIte, not_true_eq_false, not_false_eq_true, Nat.reduceAdd, Nat.reduceMul, Nat.reduceEqDiff, eq_self, true_and, and_true, false_and, and_false, Option.some.injEq, Prod.mk.injEq, l_0, l_1, l_2, l_3, l_4, l_5, l_6, l_7, l_8, l_9, l_10, l_100, l_160, ↓m_1, ↓m_2, ↓m_3, ↓m_4, ↓m_5, ↓m_6, ↓m_7]
    · rw [g6.1 _ _ (by omega)]; simp (disch := first | assumption | omega) only [ii_wi, ji_wi, ri_wi, ti_wi, li_wi, ii_wj, ji_wj, ri_wj, ti_wj, li_wj, l_of, n_ltT, n_ltF, n_leT, n_leF, n_eqT, n_eqF, n_neM, n_Mne, n_M0, n_Mlt, n_0leM, nI_clamp, x_in_nI, n_1, nI_add, x_at, x_bd_s, x_bv_s, ↓x_lt, decide_true, decide_false, Bool.and_self, Bool.true_and, Bool.and_true, if_true, if_false, ite_true, ite_false, ↓reduceIte, not_true_eq_false, not_false_eq_true, Nat.reduceAdd, Nat.reduceMul, Nat.reduceEqDiff, eq_self, true_and, and_true, false_and, and_false, Option.some.injEq, Prod.mk.injEq, l_0, l_1, l_2, l_3, l_4, l_5, l_6, l_7, l_8, l_9, l_10, l_100, l_160, ↓m_1, ↓m_2, ↓m_3, ↓m_4, ↓m_5, ↓m_6, ↓m_7]
    · rw [g6.1 _ _ (by omega)]; simp (disch := first | assumption | omega) only [ii_wi, ji_wi, ri_wi, ti_wi, li_wi, ii_wj, ji_wj, ri_wj, ti_wj, li_wj, l_of, n_ltT, n_ltF, n_leT, n_leF, n_eqT, n_eqF, n_neM, n_Mne, n_M0, n_Mlt, n_0leM, nI_clamp, x_in_nI, n_1, nI_add, x_at, x_bd_s, x_bv_s, ↓x_lt, decide_true, decide_false, Bool.and_self, Bool.true_and, Bool.and_true, if_true, if_false, ite_true, ite_false, ↓reduceIte, not_true_eq_false, not_false_eq_true, Nat.reduceAdd, Nat.reduceMul, Nat.reduceEqDiff, eq_self, true_and, and_true, false_and, and_false, Option.some.injEq, Prod.mk.injEq, l_0, l_1, l_2, l_3, l_4, l_5, l_6, l_7, l_8, l_9, l_10, l_100, l_160, ↓m_1, ↓m_2, ↓m_3, ↓m_4, ↓m_5, ↓m_6, ↓m_7]
    · rw [g6.1 _ _ (by omega)]; simp (disch := first | assumption | omega) only [ii_wi, ji_wi, ri_wi, ti_wi, li_wi, ii_wj, ji_wj, ri_wj, ti_wj, li_wj, l_of, n_ltT, n_ltF, n_leT, n_leF, n_eqT, n_eqF, n_neM, n_Mne, n_M0, n_Mlt, n_0leM, nI_clamp, x_in_nI, n_1, nI_add, x_at, x_bd_s, x_bv_s, ↓x_lt, decide_true, decide_false, Bool.and_self, Bool.true_and, Bool.and_true, if_true, if_false, ite_true, ite_false, ↓reduceIte, not_true_eq_false, not_false_eq_true, Nat.reduceAdd, Nat.reduceMul, Nat.reduceEqDiff, eq_self, true_and, and_true, false_and, and_false, Option.some.injEq, Prod.mk.injEq, l_0, l_1, l_2, l_3, l_4, l_5, l_6, l_7, l_8, l_9, l_10, l_100, l_160, ↓m_1, ↓m_2, ↓m_3, ↓m_4, ↓m_5, ↓m_6, ↓m_7]
    · rw [g6.1 _ _ (by omega)]; simp (disch := first | assumption | omega) only [ii_wi, ji_wi, ri_wi, ti_wi, li_wi, ii_wj, ji_wj, ri_wj, ti_wj, li_wj, l_of, n_ltT, n_ltF, n_leT, n_leF, n_eqT, n_eqF, n_neM, n_Mne, n_M0, n_Mlt, n_0leM, nI_clamp, x_in_nI, n_1, nI_add, x_at, x_bd_s, x_bv_s, ↓x_lt, decide_true, decide_false, Bool.and_self, Bool.true_and, Bool.and_true, if_true, if_false, ite_true, ite_false, ↓reduceIte, not_true_eq_false, not_false_eq_true, Nat.reduceAdd, Nat.reduceMul, Nat.reduceEqDiff, eq_self, true_and, and_true, false_and, and_false, Option.some.injEq, Prod.mk.injEq, l_0, l_1, l_2, l_3, l_4, l_5, l_6, l_7, l_8, l_9, l_10, l_100, l_160, ↓m_1, ↓m_2, ↓m_3, ↓m_4, ↓m_5, ↓m_6, ↓m_7]
    · obtain ⟨c1, c2, c3, c4, c5⟩ := hj c (by omega)
      have hx : ∀ k, x_i M2 (r + 3 + c) k = x_i M (r + 3 + c) k := fun k => by
        rw [g6.1 _ _ (by omega)]
        simp only [ii_wi]; repeat rw [if_neg (by omega)]
      exact ⟨(hx 0).trans c1, (hx 1).trans c2, (hx 2).trans c3, (hx 3).trans c4, (hx 4).trans c5⟩
  | succ m ih =>
    intro n j M hn hr hs hR hj hm
    obtain ⟨n, rfl⟩ : ∃ i, n = i + 1 := ⟨n - 1, by omega⟩
    obtain ⟨⟨e0, e1, e2, e3, e4, e5, e6, e7⟩, hc, ht⟩ := id hR
    obtain ⟨q1, q2, q3, q4, q5⟩ := hc j (by omega)
    have f0 : Fr (fun a k => a = r + 3 + j) M (x_wi (x_wi (x_wi (x_wi (x_wi M (r + 3 + j) 0 (nI (r_q ρ 0 j))) (r + 3 + j) 1 (nI (r_q ρ 1 j))) (r + 3 + j) 2 (nI (r_q ρ 2 j))) (r + 3 + j) 3 (r_off ρ j)) (r + 3 + j) 4 (nI (r_q ρ 3 j))) := ((((Fr.rf.wi (by omega)).wi (by omega)).wi (by omega)).wi (by omega)).wi (by omega)
    obtain ⟨M2, g1, g2, g3, g4, g5⟩ := ih n (j + 1) (x_wi (x_wi (x_wi (x_wi (x_wi M (r + 3 + j) 0 (nI (r_q ρ 0 j))) (r + 3 + j) 1 (nI (r_q ρ 1 j))) (r + 3 + j) 2 (nI (r_q ρ 2 j))) (r + 3 + j) 3 (r_off ρ j)) (r + 3 + j) 4 (nI (r_q ρ 3 j))) (by omega) hr hs (hR.ag (f0.agr (fun a k h1 h2 q => by omega))) (fun c hc6 => by
      by_cases hcj : c = j
      · subst hcj
        refine ⟨?_, ?_, ?_, ?_, ?_⟩ <;> simp (disch := first | assumption | omega) only [ii_wi, ji_wi, ri_wi, ti_wi, li_wi, ii_wj, ji_wj, ri_wj, ti_wj, li_wj, l_of, n_ltT, n_ltF, n_leT, n_leF, n_eqT, n_eqF, n_neM, n_Mne, n_M0, n_Mlt, n_0leM, nI_clamp, x_in_nI, n_1, nI_add, x_at, x_bd_s, x_bv_s, ↓x_lt, decide_true, decide_false, Bool.and_self, Bool.true_and, Bool.and_true, if_true, if_false, ite_true, ite_false, ↓reduceIte, not_true_eq_false, not_false_eq_true, Nat.reduceAdd, Nat.reduceMul, Nat.reduceEqDiff, eq_self, true_and, and_true, false_and, and_false, Option.some.injEq, Prod.mk.injEq, l_0, l_1, l_2, l_3, l_4, l_5, l_6, l_7, l_8, l_9, l_10, l_100, l_160, ↓m_1, ↓m_2, ↓m_3, ↓m_4, ↓m_5, ↓m_6, ↓m_7]
      · obtain ⟨c1, c2, c3, c4, c5⟩ := hj c (by omega)
        have hx := fun k => f0.1 (r + 3 + c) k (by omega)
        exact ⟨(hx 0).trans c1, (hx 1).trans c2, (hx 2).trans c3, (hx 3).trans c4, (hx 4).trans c5⟩) (by omega)
    refine ⟨M2, ?_, g2, g3, g4, (f0.mono (fun a k q => by omega)).tr g5⟩
    obtain ⟨⟨r1, r2, r3, r4, r5, r6, r7⟩, r8⟩ := hr
    obtain ⟨⟨s1, s2, s3, s4, s5, s6, s7⟩, s8⟩ := hs
    obtain ⟨u1, u2⟩ := r8 j (by omega)
    obtain ⟨v1, v2⟩ := s8 j (by omega)
    have hd3 : (s + 3 + j = r + 3 + j) = False := eq_false (by omega)
    rw [s_lp_X4_becomeLike_2]
    simp (disch := first | assumption | omega) only [bd_X4_becomeLike_2, f_X2_becomeLike, f_X4_becomeLike_c23, r1, r2, r3, r4, s1, s2, s3, s4, u1, u2, v1, v2, q1, q2, q3, q4, q5, hd3, l_of, n_ltT, n_ltF, n_leT, n_leF, n_eqT, n_eqF, n_neM, n_Mne, n_M0, n_Mlt, n_0leM, nI_clamp, x_in_nI, n_1, nI_add, x_at, x_bd_s, x_bv_s, ↓x_lt, decide_true, decide_false, Bool.and_self, Bool.true_and, Bool.and_true, if_true, if_false, ite_true, ite_false, ↓reduceIte, not_true_eq_false, not_false_eq_true, Nat.reduceAdd, Nat.reduceMul, Nat.reduceEqDiff, eq_self, true_and, and_true, false_and, and_false, Option.some.injEq, Prod.mk.injEq, l_0, l_1, l_2, l_3, l_4, l_5, l_6, l_7, l_8, l_9, l_10, l_100, l_160, ↓m_1, ↓m_2, ↓m_3, ↓m_4, ↓m_5, ↓m_6, ↓m_7, ii_wi, ji_wi, ri_wi, ti_wi, li_wi, ii_wj, ji_wj, ri_wj, ti_wj, li_wj]
    exact g1
theorem c_like {L : Nat} {b1 b2 : Bool} {M : XM} {r s : Nat} {ρ : XR} (hG : Geo L b1 b2 M) (hd : r + 9 ≤ s ∨ s + 9 ≤ r) (hr : RG r M) (hs : RG s M) (hR : CR s ρ M) :
    ∃ M', f_X4_becomeLike r s M = some M' ∧ Geo L b1 b2 M' ∧ CR r ρ M' ∧ Fr (fun a k => r ≤ a ∧ a < r + 9) M M' := by
  obtain ⟨M2, g1, g2, g3, g4, g5⟩ := like1 hd 6 x_fuel 0 M (fu (by omega)) hr hs hR (fun c hc => absurd hc (by omega)) (by omega)
  exact ⟨M2, g1, ⟨g2.trans hG.1, g3.trans hG.2⟩, g4, g5⟩
