section
variable {L : Nat} {b1 b2 : Bool} {M : XM} {T : Nat → Int32} {n : Nat} {ρ : XR} {Q : Nat}
theorem it_f {p f : Nat} (hp : p ≤ n) (hr : (it T n p ρ).1 = some f) : f ≤ n + 8 := by
  have hm := wz_m (T := T) (n := n) (p := p) 7 0 0 (by omega)
  have hz := wz_b (T := T) (n := n) (p := p) 7 0 0 rfl
  have se : ∀ {a : Nat}, some a = some f → f = a := fun h => (Option.some.inj h).symm
  unfold it at hr
  generalize wz T n p 7 0 0 = r at hm hz hr
  obtain ⟨k, m⟩ := r
  dsimp only at hm hz hr
  by_cases h7 : k = 7
  · rw [if_pos h7] at hr; have := se hr; omega
  rw [if_neg h7] at hr
  by_cases hf : (k = 5 ∧ 6 ≤ r_s ρ 0) ∨ (k = 4 ∧ 8 ≤ r_s ρ 5)
  · rw [if_pos hf] at hr; have := se hr; omega
  rw [if_neg hf] at hr
  have hnl := nl_b k
  by_cases w : ok1 T n (p + nl k) 32
  · rw [if_pos w] at hr
    have wn := w.1
    have hb := ne_n (T := T) (n := n) (p := p + nl k + 1) (by omega)
    unfold itb at hr
    split at hr
    · split at hr
      · have := se hr; omega
      split at hr
      · next q2 =>
        have q2 := q2.1
        split at hr
        · have := se hr; omega
        · exact no_s hr.symm
      · have := se hr; omega
    split at hr
    · split at hr
      · have := se hr; omega
      · exact no_s hr.symm
    split at hr
    · split at hr
      · have := se hr; omega
      split at hr
      · have := se hr; omega
      · exact no_s hr.symm
    · split at hr
      · have := se hr; omega
      · exact no_s hr.symm
  · rw [if_neg w] at hr; have := se hr; omega
theorem c_stop {q c F : Nat} (hG : Geo L b1 b2 M) (h0 : x_i M 39 0 = nI q) (hq : q < 1000) : lp_X5_read_67 (F + 1) 39 (nI c) M = some (nI c, M) := by
  rw [s_lp_X5_read_67]
  by_cases h : x_i M 39 3 < nI c
  · simp (disch := first | assumption | omega) only [bd_X5_read_67, gt_39, h, l_of, n_ltT, n_ltF, n_leT, n_leF, n_eqT, n_eqF, n_neM, n_Mne, n_M0, n_Mlt, n_0leM, nI_clamp, x_in_nI, n_1, nI_add, x_at, x_bd_s, x_bv_s, ↓x_lt, decide_true, decide_false, Bool.and_self, Bool.true_and, Bool.and_true, if_true, if_false, ite_true, ite_false, ↓reduceIte, not_true_eq_false, not_false_eq_true, Nat.reduceAdd, Nat.reduceMul, Nat.reduceEqDiff, eq_self, true_and, and_true, false_and, and_false, Option.some.injEq, Prod.mk.injEq, l_0, l_1, l_2, l_3, l_4, l_5, l_6, l_7, l_8, l_9, l_10, l_100, l_160, ↓m_1, ↓m_2, ↓m_3, ↓m_4, ↓m_5, ↓m_6, ↓m_7]
  · simp (disch := first | assumption | omega) only [bd_X5_read_67, gt_39, h, h0, l_of, n_ltT, n_ltF, n_leT, n_leF, n_eqT, n_eqF, n_neM, n_Mne, n_M0, n_Mlt, n_0leM, nI_clamp, x_in_nI, n_1, nI_add, x_at, x_bd_s, x_bv_s, ↓x_lt, decide_true, decide_false, Bool.and_self, Bool.true_and, Bool.and_true, if_true, if_false, ite_true, ite_false, ↓reduceIte, not_true_eq_false, not_false_eq_true, Nat.reduceAdd, Nat.reduceMul, Nat.reduceEqDiff, eq_self, true_and, and_true, false_and, and_false, Option.some.injEq, Prod.mk.injEq, l_0, l_1, l_2, l_3, l_4, l_5, l_6, l_7, l_8, l_9, l_10, l_100, l_160, ↓m_1, ↓m_2, ↓m_3, ↓m_4, ↓m_5, ↓m_6, ↓m_7]
theorem c_itn {q : Nat} (hG : Geo L b1 b2 M) (h0 : x_i M 39 0 = nI q) (hq : q < 1000) : f_X5_readItem 39 M = some M := by
  simp (disch := first | assumption | omega) only [f_X5_readItem, gt_39, h0, l_of, n_ltT, n_ltF, n_leT, n_leF, n_eqT, n_eqF, n_neM, n_Mne, n_M0, n_Mlt, n_0leM, nI_clamp, x_in_nI, n_1, nI_add, x_at, x_bd_s, x_bv_s, ↓x_lt, decide_true, decide_false, Bool.and_self, Bool.true_and, Bool.and_true, if_true, if_false, ite_true, ite_false, ↓reduceIte, not_true_eq_false, not_false_eq_true, Nat.reduceAdd, Nat.reduceMul, Nat.reduceEqDiff, eq_self, true_and, and_true, false_and, and_false, Option.some.injEq, Prod.mk.injEq, l_0, l_1, l_2, l_3, l_4, l_5, l_6, l_7, l_8, l_9, l_10, l_100, l_160, ↓m_1, ↓m_2, ↓m_3, ↓m_4, ↓m_5, ↓m_6, ↓m_7]
/-- what is so behind the row -/
def RE (L : Nat) (b1 b2 : Bool) (M : XM) (r : Option Nat × Nat × XR) (w : Int32) (M' : XM) : Prop :=
  Geo L b1 b2 M' ∧ Fr P7 M M' ∧ x_i M' 39 0 = oI r.1 ∧ (r.1 = none → w = nI r.2.1 ∧ CR 40 r.2.2 M') ∧ ∀ f, r.1 = some f → f ≤ n + 8
theorem c_read_lp (hn : n ≤ 160) (d : Nat) : ∀ (F p c Q : Nat) (ρ : XR) (M : XM), d + 2 < F → Geo L b1 b2 M → CT M → CS M → RS T n p (nM 1) M → CR 40 ρ M → WF Q ρ → Q + d ≤ 810000 → p ≤ n → n ≤ p + d → c ≤ p →
    ∃ w M', lp_X5_read_67 F 39 (nI c) M = some (w, M') ∧ RE (n := n) L b1 b2 M (rl T n d p c ρ) w M' := by
  induction d with
  | zero =>
    intro F p c Q ρ M hF hG hT hS hR hD hV hQ hp hd hc
    obtain ⟨F, rfl⟩ : ∃ i, F = i + 1 := ⟨F - 1, by omega⟩
    obtain ⟨r0, r3, r4, r5⟩ := id hR
    refine ⟨nI c, M, ?_, hG, Fr.rf, r0, fun _ => ⟨rfl, hD⟩, fun f h => no_s h.symm⟩
    rw [s_lp_X5_read_67]
    simp (disch := first | assumption | omega) only [bd_X5_read_67, gt_39, r0, r3, r4, l_of, n_ltT, n_ltF, n_leT, n_leF, n_eqT, n_eqF, n_neM, n_Mne, n_M0, n_Mlt, n_0leM, nI_clamp, x_in_nI, n_1, nI_add, x_at, x_bd_s, x_bv_s, ↓x_lt, decide_true, decide_false, Bool.and_self, Bool.true_and, Bool.and_true, if_true, if_false, ite_true, ite_false, ↓reduceIte, not_true_eq_false, not_false_eq_true, Nat.reduceAdd, Nat.reduceMul, Nat.reduceEqDiff, eq_self, true_and, and_true, false_and, and_false, Option.some.injEq, Prod.mk.injEq, l_0, l_1, l_2, l_3, l_4, l_5, l_6, l_7, l_8, l_9, l_10, l_100, l_160, ↓m_1, ↓m_2, ↓m_3, ↓m_4, ↓m_5, ↓m_6, ↓m_7]
  | succ d ih =>
    intro F p c Q ρ M hF hG hT hS hR hD hV hQ hp hd hc
    obtain ⟨F, rfl⟩ : ∃ i, F = i + 1 + 1 := ⟨F - 2, by omega⟩
    obtain ⟨r0, r3, r4, r5⟩ := id hR
    rw [s_lp_X5_read_67]
    unfold rl
    by_cases q : n ≤ p
    · rw [if_pos q]
      refine ⟨nI c, M, ?_, hG, Fr.rf, r0, fun _ => ⟨rfl, hD⟩, fun f h => no_s h.symm⟩
      simp (disch := first | assumption | omega) only [bd_X5_read_67, gt_39, r0, r3, r4, l_of, n_ltT, n_ltF, n_leT, n_leF, n_eqT, n_eqF, n_neM, n_Mne, n_M0, n_Mlt, n_0leM, nI_clamp, x_in_nI, n_1, nI_add, x_at, x_bd_s, x_bv_s, ↓x_lt, decide_true, decide_false, Bool.and_self, Bool.true_and, Bool.and_true, if_true, if_false, ite_true, ite_false, ↓reduceIte, not_true_eq_false, not_false_eq_true, Nat.reduceAdd, Nat.reduceMul, Nat.reduceEqDiff, eq_self, true_and, and_true, false_and, and_false, Option.some.injEq, Prod.mk.injEq, l_0, l_1, l_2, l_3, l_4, l_5, l_6, l_7, l_8, l_9, l_10, l_100, l_160, ↓m_1, ↓m_2, ↓m_3, ↓m_4, ↓m_5, ↓m_6, ↓m_7]
    rw [if_neg q]
    have x1 := c_expect (c := 59) hG hR hn hp (by omega)
    unfold eM at x1
    have k59 : (59 : Int32) = nI 59 := rfl
    by_cases w : ok1 T n p 59
    · rw [if_pos w] at x1 ⊢
      have f1 : Fr P7 M (x_wi M 39 4 (nI (p + 1))) := Fr.rf.wi (by omega)
      obtain ⟨M2, g1, g2, g3, p', g4, g5⟩ := c_item (M := x_wi M 39 4 (nI (p + 1))) (p := p + 1) hG (hT.ag (Agr.rf.wi (by omega))) (hS.ag (Agr.rf.wi (by omega))) hR.w4 (hD.ag (Agr.rf.wi (by omega))) hV (by omega) hn (by omega)
      by_cases k : (it T n (p + 1) ρ).1 = none
      · rw [if_pos k]
        obtain ⟨g5, g6⟩ := g5 k
        rw [k, g5] at g4
        obtain ⟨a1, a2, a3, a4⟩ := it_w hV (show p + 1 ≤ n by omega) k
        have f2 := f1.tr g3
        obtain ⟨w', M3, u1, u2, u3, u4, u5, u6⟩ := ih (F + 1) (it T n (p + 1) ρ).2.1 (c + 1) (Q + 1) (it T n (p + 1) ρ).2.2 M2 (by omega) g2 (hT.ag (f2.agr (fun a k h1 h2 q => by omega))) (hS.ag (f2.agr (fun a k h1 h2 q => by omega))) g4 g6 a1 (by omega) a4 (by omega) (by omega)
        refine ⟨w', M3, ?_, u2, f2.tr u3, u4, u5, u6⟩
        simp (disch := first | assumption | omega) only [bd_X5_read_67, f_X5_read_c97, f_X5_read_c101, gt_39, r0, r3, r4, k59, x1, ti_wi, g1, l_of, n_ltT, n_ltF, n_leT, n_leF, n_eqT, n_eqF, n_neM, n_Mne, n_M0, n_Mlt, n_0leM, nI_clamp, x_in_nI, n_1, nI_add, x_at, x_bd_s, x_bv_s, ↓x_lt, decide_true, decide_false, Bool.and_self, Bool.true_and, Bool.and_true, if_true, if_false, ite_true, ite_false, ↓reduceIte, not_true_eq_false, not_false_eq_true, Nat.reduceAdd, Nat.reduceMul, Nat.reduceEqDiff, eq_self, true_and, and_true, false_and, and_false, Option.some.injEq, Prod.mk.injEq, l_0, l_1, l_2, l_3, l_4, l_5, l_6, l_7, l_8, l_9, l_10, l_100, l_160, ↓m_1, ↓m_2, ↓m_3, ↓m_4, ↓m_5, ↓m_6, ↓m_7]
        exact u1
      · rw [if_neg k]
        cases hf : (it T n (p + 1) ρ).1 with
        | none => exact absurd hf k
        | some f =>
          have hb := it_f (show p + 1 ≤ n by omega) hf
          rw [hf] at g4
          have z0 : x_i M2 39 0 = nI f := g4.1
          refine ⟨nI (c + 1), M2, ?_, g2, f1.tr g3, z0, fun h => no_s h, fun e h => by have := Option.some.inj h; omega⟩
          have u := c_stop (F := F) (c := c + 1) g2 z0 (by omega)
          simp (disch := first | assumption | omega) only [bd_X5_read_67, f_X5_read_c97, f_X5_read_c101, gt_39, r0, r3, r4, k59, x1, ti_wi, g1, l_of, n_ltT, n_ltF, n_leT, n_leF, n_eqT, n_eqF, n_neM, n_Mne, n_M0, n_Mlt, n_0leM, nI_clamp, x_in_nI, n_1, nI_add, x_at, x_bd_s, x_bv_s, ↓x_lt, decide_true, decide_false, Bool.and_self, Bool.true_and, Bool.and_true, if_true, if_false, ite_true, ite_false, ↓reduceIte, not_true_eq_false, not_false_eq_true, Nat.reduceAdd, Nat.reduceMul, Nat.reduceEqDiff, eq_self, true_and, and_true, false_and, and_false, Option.some.injEq, Prod.mk.injEq, l_0, l_1, l_2, l_3, l_4, l_5, l_6, l_7, l_8, l_9, l_10, l_100, l_160, ↓m_1, ↓m_2, ↓m_3, ↓m_4, ↓m_5, ↓m_6, ↓m_7]
          exact u
    · rw [if_neg w] at x1 ⊢
      have z0 : x_i (x_wi M 39 0 (nI p)) 39 0 = nI p := by rw [ii_wi, if_pos ⟨rfl, rfl⟩]
      have hG1 : Geo L b1 b2 (x_wi M 39 0 (nI p)) := hG
      have g1 := c_itn hG1 z0 (by omega)
      have u := c_stop (F := F) (c := c + 1) hG1 z0 (by omega)
      refine ⟨nI (c + 1), x_wi M 39 0 (nI p), ?_, hG, Fr.rf.wi (by omega), z0, fun h => no_s h, fun e h => by have := Option.some.inj h; omega⟩
      simp (disch := first | assumption | omega) only [bd_X5_read_67, f_X5_read_c97, f_X5_read_c101, gt_39, r0, r3, r4, k59, x1, ti_wi, g1, l_of, n_ltT, n_ltF, n_leT, n_leF, n_eqT, n_eqF, n_neM, n_Mne, n_M0, n_Mlt, n_0leM, nI_clamp, x_in_nI, n_1, nI_add, x_at, x_bd_s, x_bv_s, ↓x_lt, decide_true, decide_false, Bool.and_self, Bool.true_and, Bool.and_true, if_true, if_false, ite_true, ite_false, ↓reduceIte, not_true_eq_false, not_false_eq_true, Nat.reduceAdd, Nat.reduceMul, Nat.reduceEqDiff, eq_self, true_and, and_true, false_and, and_false, Option.some.injEq, Prod.mk.injEq, l_0, l_1, l_2, l_3, l_4, l_5, l_6, l_7, l_8, l_9, l_10, l_100, l_160, ↓m_1, ↓m_2, ↓m_3, ↓m_4, ↓m_5, ↓m_6, ↓m_7]
      exact u
/-- the row's ints laid out -/
theorem c_lay {κ : Nat} {σ : XS} {z : Nat} (hk : κ < 8) (hz : z ≤ 160) (d : Nat) : ∀ (F i : Nat) (M : XM), d < F → Geo L b1 b2 M → x_i M 39 3 = nI z → x_i M (67 + 2 * κ) 2 = nI z → (∀ i, i < 160 → x_j M (68 + 2 * κ) i = s_el σ κ i) → i + d = z → (∀ j, j < i → x_i M 49 j = ea σ κ j) →
    ∃ M', lp_X5_read_26 F 39 (67 + 2 * κ) (nI i) M = x_bv (f_X5_readItem 39 M') (f_X5_read_c62 39) ∧ Geo L b1 b2 M' ∧ Fr (fun a _ => a = 39 ∨ a = 49) M M' ∧ RS (ea σ κ) z 0 (nM 1) M' := by
  induction d with
  | zero =>
    intro F i M hF hG h3 hl he hi hh
    obtain ⟨F, rfl⟩ : ∃ i, F = i + 1 := ⟨F - 1, by omega⟩
    refine ⟨x_wi (x_wi M 39 4 (nI 0)) 39 0 (nM 1), ?_, hG, (Fr.rf.wi (by omega)).wi (by omega), ?_⟩
    · rw [s_lp_X5_read_26]
      simp (disch := first | assumption | omega) only [bd_X5_read_26, gt_39, h3, ti_wi, l_of, n_ltT, n_ltF, n_leT, n_leF, n_eqT, n_eqF, n_neM, n_Mne, n_M0, n_Mlt, n_0leM, nI_clamp, x_in_nI, n_1, nI_add, x_at, x_bd_s, x_bv_s, ↓x_lt, decide_true, decide_false, Bool.and_self, Bool.true_and, Bool.and_true, if_true, if_false, ite_true, ite_false, ↓reduceIte, not_true_eq_false, not_false_eq_true, Nat.reduceAdd, Nat.reduceMul, Nat.reduceEqDiff, eq_self, true_and, and_true, false_and, and_false, Option.some.injEq, Prod.mk.injEq, l_0, l_1, l_2, l_3, l_4, l_5, l_6, l_7, l_8, l_9, l_10, l_100, l_160, ↓m_1, ↓m_2, ↓m_3, ↓m_4, ↓m_5, ↓m_6, ↓m_7]
    · refine ⟨?_, ?_, ?_, fun j hj => ?_⟩
      · rw [ii_wi, if_pos ⟨rfl, rfl⟩]
      · rw [ii_wi, if_neg (by omega), ii_wi, if_neg (by omega)]; exact h3
      · rw [ii_wi, if_neg (by omega), ii_wi, if_pos ⟨rfl, rfl⟩]
      · rw [ii_wi, if_neg (by omega), ii_wi, if_neg (by omega)]; exact hh j (by omega)
  | succ d ih =>
    intro F i M hF hG h3 hl he hi hh
    obtain ⟨F, rfl⟩ : ∃ i, F = i + 1 := ⟨F - 1, by omega⟩
    have x1 := c_int (i := i) hG hk hz hl he (by omega)
    have f0 : Fr (fun a _ => a = 39 ∨ a = 49) M (x_wi M 49 i (ea σ κ i)) := Fr.rf.wi (by omega)
    obtain ⟨M2, g1, g2, g3, g4⟩ := ih F (i + 1) (x_wi M 49 i (ea σ κ i)) (by omega) hG (by rw [ii_wi, if_neg (by omega)]; exact h3) (by rw [ii_wi, if_neg (by omega)]; exact hl) (fun j hj => by rw [ji_wi]; exact he j hj) (by omega) (fun j hj => by
      rw [ii_wi]
      by_cases q : j = i
      · rw [if_pos ⟨rfl, q⟩, q]
      · rw [if_neg (fun z => q z.2)]; exact hh j (by omega))
    refine ⟨M2, ?_, g2, f0.tr g3, g4⟩
    rw [s_lp_X5_read_26]
    simp (disch := first | assumption | omega) only [bd_X5_read_26, f_X5_read_c41, gt_39, gr_39_2, gt_49, gl_49, gst_67, h3, x1, l_of, n_ltT, n_ltF, n_leT, n_leF, n_eqT, n_eqF, n_neM, n_Mne, n_M0, n_Mlt, n_0leM, nI_clamp, x_in_nI, n_1, nI_add, x_at, x_bd_s, x_bv_s, ↓x_lt, decide_true, decide_false, Bool.and_self, Bool.true_and, Bool.and_true, if_true, if_false, ite_true, ite_false, ↓reduceIte, not_true_eq_false, not_false_eq_true, Nat.reduceAdd, Nat.reduceMul, Nat.reduceEqDiff, eq_self, true_and, and_true, false_and, and_false, Option.some.injEq, Prod.mk.injEq, l_0, l_1, l_2, l_3, l_4, l_5, l_6, l_7, l_8, l_9, l_10, l_100, l_160, ↓m_1, ↓m_2, ↓m_3, ↓m_4, ↓m_5, ↓m_6, ↓m_7]
    exact g1
end
