/-! parted -/
def fof (n p kd a m : Nat) (br : Nat → Int32) (w : WK) : Nat → Nat → (Nat → Int32) → Nat → Int32
  | 0, _, f => f
  | d + 1, t, f => fof n p kd a m br w d (t + 1) (fun q => if f (ws n p kd a m br w t).1 = nM 1 ∧ q = (ws n p kd a m br w t).1 then (ws n p kd a m br w t).2.1 else f q)
def wfo (σ : XS) (c k m : Nat) : Nat → Int32 := fof (r_s (s_now σ) 1) (r_s (s_now σ) 2) (r_q (s_now σ) 0 c) (r_q (s_now σ) 1 c) m (ea σ k) (r_q (s_now σ) 2 c, r_off (s_now σ) c, r_q (s_now σ) 3 c, 0) 401 0 (fun _ => nM 1)
def ptl (n m : Nat) (f g : Nat → Int32) : Nat → Nat → Option Nat
  | 0, _ => none
  | d + 1, x => if n < x then none else if f x = g x then ptl n m f g d (x + m) else some x
theorem l_201 : (201 : Int32) = nI 201 := rfl
section
variable {L : Nat} {b1 b2 : Bool}
theorem c_fill {r N : Nat} {v : Int32} (hN : N < 2147483648) (d : Nat) : ∀ (F j : Nat) (M : XM), d < F → x_tag M r = 1 → x_len M r = N → j + d = N → (∀ i, i < j → x_i M r i = v) →
    ∃ M', lp_J7_fill_53178_5 F r v (nI j) (nI N) M = some M' ∧ M'.1 = M.1 ∧ M'.2.2.2 = M.2.2.2 ∧ (∀ i, i < N → x_i M' r i = v) ∧ Fr (fun a _ => a = r) M M' := by
  induction d with
  | zero =>
    intro F j M hF ht hl hj hi
    obtain ⟨F, rfl⟩ : ∃ i, F = i + 1 := ⟨F - 1, by omega⟩
    refine ⟨M, ?_, rfl, rfl, fun i h => hi i (by omega), Fr.rf⟩
    rw [s_lp_J7_fill_53178_5, show j = N by omega]
    simp (disch := first | assumption | omega) only [bd_J7_fill_53178_5, l_of, n_ltT, n_ltF, n_leT, n_leF, n_eqT, n_eqF, n_neM, n_Mne, n_M0, n_Mlt, n_0leM, nI_clamp, x_in_nI, n_1, nI_add, x_at, x_bd_s, x_bv_s, ↓x_lt, decide_true, decide_false, Bool.and_self, Bool.true_and, Bool.and_true, if_true, if_false, ite_true, ite_false, ↓reduceIte, not_true_eq_false, not_false_eq_true, Nat.reduceAdd, Nat.reduceMul, Nat.reduceEqDiff, eq_self, true_and, and_true, false_and, and_false, Option.some.injEq, Prod.mk.injEq, l_0, l_1, l_2, l_3, l_4, l_5, l_6, l_7, l_8, l_9, l_10, l_100, l_160, ↓m_1, ↓m_2, ↓m_3, ↓m_4, ↓m_5, ↓m_6, ↓m_7]
  | succ d ih =>
    intro F j M hF ht hl hj hi
    obtain ⟨F, rfl⟩ : ∃ i, F = i + 1 := ⟨F - 1, by omega⟩
    obtain ⟨M2, g1, g2, g3, g4, g5⟩ := ih F (j + 1) (x_wi M r j v) (by omega) ht hl (by omega) (fun i h => by
      rw [ii_wi]
      split
      · rfl
      · exact hi i (by omega))
    have f0 : Fr (fun a _ => a = r) M (x_wi M r j v) := Fr.rf.wi (by omega)
    refine ⟨M2, ?_, g2, g3, g4, f0.tr g5⟩
    rw [s_lp_J7_fill_53178_5]
    simp (disch := first | assumption | omega) only [bd_J7_fill_53178_5, ht, hl, l_of, n_ltT, n_ltF, n_leT, n_leF, n_eqT, n_eqF, n_neM, n_Mne, n_M0, n_Mlt, n_0leM, nI_clamp, x_in_nI, n_1, nI_add, x_at, x_bd_s, x_bv_s, ↓x_lt, decide_true, decide_false, Bool.and_self, Bool.true_and, Bool.and_true, if_true, if_false, ite_true, ite_false, ↓reduceIte, not_true_eq_false, not_false_eq_true, Nat.reduceAdd, Nat.reduceMul, Nat.reduceEqDiff, eq_self, true_and, and_true, false_and, and_false, Option.some.injEq, Prod.mk.injEq, l_0, l_1, l_2, l_3, l_4, l_5, l_6, l_7, l_8, l_9, l_10, l_100, l_160, ↓m_1, ↓m_2, ↓m_3, ↓m_4, ↓m_5, ↓m_6, ↓m_7]
    exact g1
theorem c_fillf {M : XM} {r N : Nat} {v : Int32} (hG : Geo L b1 b2 M) (hN : N < 999999) (ht : x_tag M r = 1) (hl : x_len M r = N) :
    ∃ M', f_J7_fill_53178 r v M = some M' ∧ Geo L b1 b2 M' ∧ (∀ i, i < N → x_i M' r i = v) ∧ Fr (fun a _ => a = r) M M' := by
  obtain ⟨M2, g1, g2, g3, g4, g5⟩ := c_fill (v := v) (by omega) N x_fuel 0 M (fu (by omega)) ht hl (by omega) (fun i h => absurd h (by omega))
  refine ⟨M2, ?_, ⟨g2.trans hG.1, g3.trans hG.2⟩, g4, g5⟩
  simp (disch := first | assumption | omega) only [f_J7_fill_53178, ht, hl, l_of, n_ltT, n_ltF, n_leT, n_leF, n_eqT, n_eqF, n_neM, n_Mne, n_M0, n_Mlt, n_0leM, nI_clamp, x_in_nI, n_1, nI_add, x_at, x_bd_s, x_bv_s, ↓x_lt, decide_true, decide_false, Bool.and_self, Bool.true_and, Bool.and_true, if_true, if_false, ite_true, ite_false, ↓reduceIte, not_true_eq_false, not_false_eq_true, Nat.reduceAdd, Nat.reduceMul, Nat.reduceEqDiff, eq_self, true_and, and_true, false_and, and_false, Option.some.injEq, Prod.mk.injEq, l_0, l_1, l_2, l_3, l_4, l_5, l_6, l_7, l_8, l_9, l_10, l_100, l_160, ↓m_1, ↓m_2, ↓m_3, ↓m_4, ↓m_5, ↓m_6, ↓m_7]
  exact g1
theorem c_fof {n p kd a m h r : Nat} {br : Nat → Int32} {w : WK} (hr : r = 63 ∨ r = 64) (hw : WB n m h w) (hh : h ≤ 801000) (hm : m ≤ 40) (hn : n ≤ 200) (hk : kd ≤ 6) (ha : a ≤ 9) (hp : 1 ≤ p) (hp2 : p ≤ 200) (d : Nat) : ∀ (F t : Nat) (f : Nat → Int32) (M : XM), d < F → Geo L b1 b2 M → CWk n p kd a m br t (ws n p kd a m br w t) M → (∀ q, q < 201 → x_i M r q = f q) → t + d = 401 →
    ∃ M', lp_X8_noteFirstOffs_35 F 20 r (nI t) M = some M' ∧ Geo L b1 b2 M' ∧ (∀ q, q < 201 → x_i M' r q = fof n p kd a m br w d t f q) ∧ Fr (fun a _ => 52 ≤ a ∧ a < 55 ∨ a = r) M M' := by
  induction d with
  | zero =>
    intro F t f M hF hG hC hf hj
    obtain ⟨F, rfl⟩ : ∃ i, F = i + 1 := ⟨F - 1, by omega⟩
    refine ⟨M, ?_, hG, hf, Fr.rf⟩
    rw [s_lp_X8_noteFirstOffs_35]
    simp (disch := first | assumption | omega) only [bd_X8_noteFirstOffs_35, l_400, l_of, n_ltT, n_ltF, n_leT, n_leF, n_eqT, n_eqF, n_neM, n_Mne, n_M0, n_Mlt, n_0leM, nI_clamp, x_in_nI, n_1, nI_add, x_at, x_bd_s, x_bv_s, ↓x_lt, decide_true, decide_false, Bool.and_self, Bool.true_and, Bool.and_true, if_true, if_false, ite_true, ite_false, ↓reduceIte, not_true_eq_false, not_false_eq_true, Nat.reduceAdd, Nat.reduceMul, Nat.reduceEqDiff, eq_self, true_and, and_true, false_and, and_false, Option.some.injEq, Prod.mk.injEq, l_0, l_1, l_2, l_3, l_4, l_5, l_6, l_7, l_8, l_9, l_10, l_100, l_160, ↓m_1, ↓m_2, ↓m_3, ↓m_4, ↓m_5, ↓m_6, ↓m_7]
  | succ d ih =>
    intro F t f M hF hG hC hf hj
    obtain ⟨F, rfl⟩ : ∃ i, F = i + 1 := ⟨F - 1, by omega⟩
    have htr : x_tag M r = 1 ∧ x_len M r = 201 := by
      rcases hr with rfl | rfl
      · exact ⟨gt_63 hG, gl_63 hG⟩
      · exact ⟨gt_64 hG, gl_64 hG⟩
    obtain ⟨tr, lr⟩ := htr
    have hb := (hw.s (p := p) (kd := kd) (a := a) (br := br) t).1
    have hst := hw.s (p := p) (kd := kd) (a := a) (br := br) t
    obtain ⟨⟨d0, d1, d2, d3, d4⟩, c1, c2, c3, c4, c5, c6⟩ := id hC
    unfold fof
    have e : ws n p kd a m br w (t + 1) = wp n p kd a m br (t + 1) (ws n p kd a m br w t) := rfl
    generalize ws n p kd a m br w t = W at hb hst d0 d1 d2 d3 d4 c2 hC e ⊢
    have hx := hf W.1 (by omega)
    rw [s_lp_X8_noteFirstOffs_35]
    by_cases hq : f W.1 = nM 1
    · have hC1 : CWk n p kd a m br t W (x_wi M r W.1 W.2.1) := by
        have hz : ∀ c, c < 55 → ∀ k, x_i (x_wi M r W.1 W.2.1) c k = x_i M c k := fun c hc k => by rw [ii_wi, if_neg (by omega)]
        exact ⟨⟨(hz _ (by omega) _).trans d0, (hz _ (by omega) _).trans d1, (hz _ (by omega) _).trans d2, (hz _ (by omega) _).trans d3, (hz _ (by omega) _).trans d4⟩, (hz _ (by omega) _).trans c1, (hz _ (by omega) _).trans c2, (hz _ (by omega) _).trans c3, (hz _ (by omega) _).trans c4, (hz _ (by omega) _).trans c5, fun i hi => (hz _ (by omega) _).trans (c6 i hi)⟩
      have f0 : Fr (fun a _ => 52 ≤ a ∧ a < 55 ∨ a = r) M (x_wi M r W.1 W.2.1) := Fr.rf.wi (by omega)
      obtain ⟨M1, k1, k2, k3, k4⟩ := c_step (M := x_wi M r W.1 W.2.1) hG hC1 hst (by omega) (by omega) hm hn hk ha hp hp2
      rw [← e] at k3
      obtain ⟨M2, g1, g2, g3, g4⟩ := ih F (t + 1) (fun q => if f W.1 = nM 1 ∧ q = W.1 then W.2.1 else f q) M1 (by omega) k2 k3 (fun q hq2 => by
        rw [k4.1 _ _ (by omega), ii_wi]
        by_cases hqx : q = W.1
        · rw [if_pos ⟨rfl, hqx⟩, if_pos ⟨hq, hqx⟩]
        · rw [if_neg (fun z => hqx z.2), if_neg (fun z => hqx z.2)]; exact hf q hq2) (by omega)
      refine ⟨M2, ?_, g2, g3, (f0.tr (k4.mono (fun a k q => by omega))).tr g4⟩
      rw [hq] at hx
      simp (disch := first | assumption | omega) only [bd_X8_noteFirstOffs_35, f_X8_noteFirstOffs_89, f_X8_noteFirstOffs_c93, gt_20, gr_20_7, gt_52, gr_52_0, gt_53, d2, d3, tr, lr, hx, l_400, k1, l_of, n_ltT, n_ltF, n_leT, n_leF, n_eqT, n_eqF, n_neM, n_Mne, n_M0, n_Mlt, n_0leM, nI_clamp, x_in_nI, n_1, nI_add, x_at, x_bd_s, x_bv_s, ↓x_lt, decide_true, decide_false, Bool.and_self, Bool.true_and, Bool.and_true, if_true, if_false, ite_true, ite_false, ↓reduceIte, not_true_eq_false, not_false_eq_true, Nat.reduceAdd, Nat.reduceMul, Nat.reduceEqDiff, eq_self, true_and, and_true, false_and, and_false, Option.some.injEq, Prod.mk.injEq, l_0, l_1, l_2, l_3, l_4, l_5, l_6, l_7, l_8, l_9, l_10, l_100, l_160, ↓m_1, ↓m_2, ↓m_3, ↓m_4, ↓m_5, ↓m_6, ↓m_7, ii_wi, ji_wi, ri_wi, ti_wi, li_wi, ii_wj, ji_wj, ri_wj, ti_wj, li_wj]
      exact g1
    · obtain ⟨M1, k1, k2, k3, k4⟩ := c_step hG hC hst (by omega) (by omega) hm hn hk ha hp hp2
      rw [← e] at k3
      obtain ⟨M2, g1, g2, g3, g4⟩ := ih F (t + 1) (fun q => if f W.1 = nM 1 ∧ q = W.1 then W.2.1 else f q) M1 (by omega) k2 k3 (fun q hq2 => by
        rw [k4.1 _ _ (by omega)]
        show _ = if _ then _ else _
        rw [if_neg (fun z => hq z.1)]
        exact hf q hq2) (by omega)
      refine ⟨M2, ?_, g2, g3, (k4.mono (fun a k q => by omega)).tr g4⟩
      simp (disch := first | assumption | omega) only [bd_X8_noteFirstOffs_35, f_X8_noteFirstOffs_89, f_X8_noteFirstOffs_c93, gt_20, gr_20_7, gt_52, gr_52_0, gt_53, d2, d3, tr, lr, hx, hq, l_400, k1, l_of, n_ltT, n_ltF, n_leT, n_leF, n_eqT, n_eqF, n_neM, n_Mne, n_M0, n_Mlt, n_0leM, nI_clamp, x_in_nI, n_1, nI_add, x_at, x_bd_s, x_bv_s, ↓x_lt, decide_true, decide_false, Bool.and_self, Bool.true_and, Bool.and_true, if_true, if_false, ite_true, ite_false, ↓reduceIte, not_true_eq_false, not_false_eq_true, Nat.reduceAdd, Nat.reduceMul, Nat.reduceEqDiff, eq_self, true_and, and_true, false_and, and_false, Option.some.injEq, Prod.mk.injEq, l_0, l_1, l_2, l_3, l_4, l_5, l_6, l_7, l_8, l_9, l_10, l_100, l_160, ↓m_1, ↓m_2, ↓m_3, ↓m_4, ↓m_5, ↓m_6, ↓m_7, ii_wi, ji_wi, ri_wi, ti_wi, li_wi, ii_wj, ji_wj, ri_wj, ti_wj, li_wj]
      exact g1
theorem c_note {M : XM} {σ : XS} {B j k r : Nat} (hr : r = 63 ∨ r = 64) (hG : Geo L b1 b2 M) (hI : CInv σ M) (hW : WFS B σ) (hB : B ≤ 800000) (hj : j < r_s (s_now σ) 0) (hk : k < 8) (h1 : s_sh σ 0 k = 1) (h4 : s_sh σ 2 k ≤ 40) :
    ∃ M', f_X8_noteFirstOffs 20 (nI j) (nI k) r M = some M' ∧ Geo L b1 b2 M' ∧ (∀ q, q < 201 → x_i M' r q = wfo σ j k (s_sh σ 2 k) q) ∧ Fr (fun a _ => 52 ≤ a ∧ a < 55 ∨ a = r) M M' := by
  have htr : x_tag M r = 1 ∧ x_len M r = 201 := by
    rcases hr with rfl | rfl
    · exact ⟨gt_63 hG, gl_63 hG⟩
    · exact ⟨gt_64 hG, gl_64 hG⟩
  obtain ⟨M0, a1, a2, a3, a4⟩ := c_fillf (v := nM 1) hG (by omega) htr.1 htr.2
  have hI0 : CInv σ M0 := hI.fr a4 (fun a k q r => by omega)
  obtain ⟨p1, p2, p3, p4⟩ := (hI0.2.2.1 k hk).2.1 h1
  obtain ⟨M1, g1, g2, g3, g4, g5⟩ := c_wrun a2 hI0 hW hB hj hk h1 (Nat.le_refl _) h4
  obtain ⟨⟨w0, w1, w2, w3, w4, w5, w6, w7⟩, wc, wl, wtt⟩ := id hW.1
  obtain ⟨y1, y2, y3, y4⟩ := wc j (by omega)
  obtain ⟨M2, k1, k2, k3, k4⟩ := c_fof (L := L) (b1 := b1) (b2 := b2) hr g5 (by omega) h4 w2 y1 y2 w3 w4 401 x_fuel 0 (fun _ => nM 1) M1 (fu (by omega)) g2 g3 (fun q hq => (g4.1 _ _ (by omega)).trans (a3 q hq)) (by omega)
  refine ⟨M2, ?_, k2, k3, ((a4.mono (fun a k q => by omega)).tr (g4.mono (fun a k q => by omega))).tr k4⟩
  simp (disch := first | assumption | omega) only [f_X8_noteFirstOffs, f_X8_noteFirstOffs_c2, f_X8_noteFirstOffs_c29, gt_20, gr_20_0, gr_20_5, gr_20_7, gt_50, gl_50, gs_50, gst_67, gt_52, a1, p3, g1, l_of, n_ltT, n_ltF, n_leT, n_leF, n_eqT, n_eqF, n_neM, n_Mne, n_M0, n_Mlt, n_0leM, nI_clamp, x_in_nI, n_1, nI_add, x_at, x_bd_s, x_bv_s, ↓x_lt, decide_true, decide_false, Bool.and_self, Bool.true_and, Bool.and_true, if_true, if_false, ite_true, ite_false, ↓reduceIte, not_true_eq_false, not_false_eq_true, Nat.reduceAdd, Nat.reduceMul, Nat.reduceEqDiff, eq_self, true_and, and_true, false_and, and_false, Option.some.injEq, Prod.mk.injEq, l_0, l_1, l_2, l_3, l_4, l_5, l_6, l_7, l_8, l_9, l_10, l_100, l_160, ↓m_1, ↓m_2, ↓m_3, ↓m_4, ↓m_5, ↓m_6, ↓m_7]
  exact k1
theorem MWk.fr {w : WK} {M M' : XM} (h : MWk w M) (hx : ∀ k, 31 ≤ k → k < 35 → x_i M' 83 k = x_i M 83 k) : MWk w M' :=
  ⟨(hx _ (by omega) (by omega)).trans h.1, (hx _ (by omega) (by omega)).trans h.2.1, (hx _ (by omega) (by omega)).trans h.2.2.1, (hx _ (by omega) (by omega)).trans h.2.2.2⟩
theorem m_fof {σ : XS} {ρ : XR} {m h c k B e : Nat} {w : WK} (he : e = 0 ∨ e = 201) (hV : WF B ρ) (hw : WB (r_s ρ 1) m h w) (hh : h ≤ 801000) (hc : c < 6) (hk : k < 8) (hm : m ≤ 40) (d : Nat) : ∀ (F t : Nat) (f : Nat → Int32) (M : XM), d < F → Geo L b1 b2 M → MR ρ M → (∀ i, i < 160 → x_j M 95 (160 * k + i) = s_el σ k i) → x_i M 93 k = nI m → MWk (ws (r_s ρ 1) (r_s ρ 2) (r_q ρ 0 c) (r_q ρ 1 c) m (ea σ k) w t) M → (∀ q, q ≤ r_s ρ 1 → x_i M 103 (e + q) = f q) → t + d = 401 →
    ∃ M', lp_X9_compares_36 F 83 (nI c) (nI k) (nI e) (nI t) M = some M' ∧ Geo L b1 b2 M' ∧ (∀ q, q ≤ r_s ρ 1 → x_i M' 103 (e + q) = fof (r_s ρ 1) (r_s ρ 2) (r_q ρ 0 c) (r_q ρ 1 c) m (ea σ k) w d t f q) ∧ Fr (fun a k => a = 83 ∧ 31 ≤ k ∧ k < 35 ∨ a = 103 ∧ e ≤ k ∧ k < e + 201) M M' := by
  have w2 := hV.1.2.2.1
  induction d with
  | zero =>
    intro F t f M hF hG hR p3 p4 hC hf hj
    obtain ⟨F, rfl⟩ : ∃ i, F = i + 1 := ⟨F - 1, by omega⟩
    refine ⟨M, ?_, hG, hf, Fr.rf⟩
    rw [s_lp_X9_compares_36]
    simp (disch := first | assumption | omega) only [bd_X9_compares_36, l_400, l_of, n_ltT, n_ltF, n_leT, n_leF, n_eqT, n_eqF, n_neM, n_Mne, n_M0, n_Mlt, n_0leM, nI_clamp, x_in_nI, n_1, nI_add, x_at, x_bd_s, x_bv_s, ↓x_lt, decide_true, decide_false, Bool.and_self, Bool.true_and, Bool.and_true, if_true, if_false, ite_true, ite_false, ↓reduceIte, not_true_eq_false, not_false_eq_true, Nat.reduceAdd, Nat.reduceMul, Nat.reduceEqDiff, eq_self, true_and, and_true, false_and, and_false, Option.some.injEq, Prod.mk.injEq, l_0, l_1, l_2, l_3, l_4, l_5, l_6, l_7, l_8, l_9, l_10, l_100, l_160, ↓m_1, ↓m_2, ↓m_3, ↓m_4, ↓m_5, ↓m_6, ↓m_7]
  | succ d ih =>
    intro F t f M hF hG hR p3 p4 hC hf hj
    obtain ⟨F, rfl⟩ : ∃ i, F = i + 1 := ⟨F - 1, by omega⟩
    have hst := hw.s (p := r_s ρ 2) (kd := r_q ρ 0 c) (a := r_q ρ 1 c) (br := ea σ k) t
    have hb := hst.1
    unfold fof
    have e' : ws (r_s ρ 1) (r_s ρ 2) (r_q ρ 0 c) (r_q ρ 1 c) m (ea σ k) w (t + 1) = wp (r_s ρ 1) (r_s ρ 2) (r_q ρ 0 c) (r_q ρ 1 c) m (ea σ k) (t + 1) (ws (r_s ρ 1) (r_s ρ 2) (r_q ρ 0 c) (r_q ρ 1 c) m (ea σ k) w t) := rfl
    generalize ws (r_s ρ 1) (r_s ρ 2) (r_q ρ 0 c) (r_q ρ 1 c) m (ea σ k) w t = W at hb hst hC e' ⊢
    obtain ⟨d1, d2, d3, d4⟩ := id hC
    have hx := hf W.1 (by omega)
    rw [s_lp_X9_compares_36]
    by_cases hq : f W.1 = nM 1
    · have f0 : Fr (fun a k => a = 83 ∧ 31 ≤ k ∧ k < 35 ∨ a = 103 ∧ e ≤ k ∧ k < e + 201) M (x_wi M 103 (e + W.1) W.2.1) := Fr.rf.wi (by omega)
      have hz : ∀ c, c ≠ 103 → ∀ k, x_i (x_wi M 103 (e + W.1) W.2.1) c k = x_i M c k := fun c hc k => by rw [ii_wi, if_neg (fun q => hc q.1)]
      obtain ⟨M1, k1, k2, k3, k4⟩ := m_goes (M := x_wi M 103 (e + W.1) W.2.1) (s := t + 1) hG (hR.ag2 (fun a j q => hz _ (by omega) _)) hV (hC.fr (fun k _ _ => hz _ (by omega) _)) hst (by omega) (by omega) hc hk hm p3
      rw [← e'] at k3
      obtain ⟨M2, g1, g2, g3, g4⟩ := ih F (t + 1) (fun q => if f W.1 = nM 1 ∧ q = W.1 then W.2.1 else f q) M1 (by omega) k2 (hR.ag2 (fun a j q => (k4.1 _ _ (by omega)).trans (hz _ (by omega) _))) (fun i hi => (k4.2 _ _).trans (p3 i hi)) ((k4.1 _ _ (by omega)).trans ((hz _ (by omega) _).trans p4)) k3 (fun q hq2 => by
        rw [k4.1 _ _ (by omega), ii_wi]
        by_cases hqx : q = W.1
        · rw [if_pos ⟨rfl, by omega⟩, if_pos ⟨hq, hqx⟩]
        · rw [if_neg (by omega), if_neg (fun z => hqx z.2)]; exact hf q hq2) (by omega)
      refine ⟨M2, ?_, g2, g3, (f0.tr (k4.mono (fun a k q => by omega))).tr g4⟩
      rw [hq] at hx
      have hp4 := (hz 93 (by omega) k).trans p4
      simp (disch := first | assumption | omega) only [bd_X9_compares_36, f_X9_compares_74, f_X9_compares_c87, gt_83, gr_83_18, gt_93, gl_93, gr_83_38, gt_103, gl_103, d1, d2, hx, p4, hp4, nI_add, l_400, k1, l_of, n_ltT, n_ltF, n_leT, n_leF, n_eqT, n_eqF, n_neM, n_Mne, n_M0, n_Mlt, n_0leM, nI_clamp, x_in_nI, n_1, nI_add, x_at, x_bd_s, x_bv_s, ↓x_lt, decide_true, decide_false, Bool.and_self, Bool.true_and, Bool.and_true, if_true, if_false, ite_true, ite_false, ↓reduceIte, not_true_eq_false, not_false_eq_true, Nat.reduceAdd, Nat.reduceMul, Nat.reduceEqDiff, eq_self, true_and, and_true, false_and, and_false, Option.some.injEq, Prod.mk.injEq, l_0, l_1, l_2, l_3, l_4, l_5, l_6, l_7, l_8, l_9, l_10, l_100, l_160, ↓m_1, ↓m_2, ↓m_3, ↓m_4, ↓m_5, ↓m_6, ↓m_7, ii_wi, ji_wi, ri_wi, ti_wi, li_wi, ii_wj, ji_wj, ri_wj, ti_wj, li_wj]
      exact g1
    · obtain ⟨M1, k1, k2, k3, k4⟩ := m_goes (s := t + 1) hG hR hV hC hst (by omega) (by omega) hc hk hm p3
      rw [← e'] at k3
      obtain ⟨M2, g1, g2, g3, g4⟩ := ih F (t + 1) (fun q => if f W.1 = nM 1 ∧ q = W.1 then W.2.1 else f q) M1 (by omega) k2 (hR.ag2 (fun a j q => k4.1 _ _ (by omega))) (fun i hi => (k4.2 _ _).trans (p3 i hi)) ((k4.1 _ _ (by omega)).trans p4) k3 (fun q hq2 => by
        rw [k4.1 _ _ (by omega)]
        show _ = if _ then _ else _
        rw [if_neg (fun z => hq z.1)]
        exact hf q hq2) (by omega)
      refine ⟨M2, ?_, g2, g3, (k4.mono (fun a k q => by omega)).tr g4⟩
      simp (disch := first | assumption | omega) only [bd_X9_compares_36, f_X9_compares_74, f_X9_compares_c87, gt_83, gr_83_18, gt_93, gl_93, gr_83_38, gt_103, gl_103, d1, d2, hx, hq, p4, nI_add, l_400, k1, l_of, n_ltT, n_ltF, n_leT, n_leF, n_eqT, n_eqF, n_neM, n_Mne, n_M0, n_Mlt, n_0leM, nI_clamp, x_in_nI, n_1, nI_add, x_at, x_bd_s, x_bv_s, ↓x_lt, decide_true, decide_false, Bool.and_self, Bool.true_and, Bool.and_true, if_true, if_false, ite_true, ite_false, ↓reduceIte, not_true_eq_false, not_false_eq_true, Nat.reduceAdd, Nat.reduceMul, Nat.reduceEqDiff, eq_self, true_and, and_true, false_and, and_false, Option.some.injEq, Prod.mk.injEq, l_0, l_1, l_2, l_3, l_4, l_5, l_6, l_7, l_8, l_9, l_10, l_100, l_160, ↓m_1, ↓m_2, ↓m_3, ↓m_4, ↓m_5, ↓m_6, ↓m_7, ii_wi, ji_wi, ri_wi, ti_wi, li_wi, ii_wj, ji_wj, ri_wj, ti_wj, li_wj]
      exact g1
theorem m_cmp {σ : XS} {B j k e : Nat} (he : e = 0 ∨ e = 201) (hW : WFS B σ) (hB : B ≤ 800000) (hj : j < r_s (s_now σ) 0) (hk : k < 8) (h1 : s_sh σ 0 k = 1) (h4 : s_sh σ 2 k ≤ 40) (d : Nat) : ∀ (F x : Nat) (M : XM), d < F → Geo L b1 b2 M → MInv σ M → x + d = r_s (s_now σ) 1 + 1 → (∀ q, q < x → x_i M 103 (e + q) = nM 1) →
    ∃ M', lp_X9_compares_3 F 83 (nI j) (nI k) (nI e) (nI x) M = some M' ∧ Geo L b1 b2 M' ∧ (∀ q, q ≤ r_s (s_now σ) 1 → x_i M' 103 (e + q) = wfo σ j k (s_sh σ 2 k) q) ∧ Fr (fun a k => a = 83 ∧ 31 ≤ k ∧ k < 35 ∨ a = 103 ∧ e ≤ k ∧ k < e + 201) M M' := by
  have w2 := hW.1.1.2.2.1
  have w0 := hW.1.1.1
  induction d with
  | zero =>
    intro F x M hF hG hI hx hq
    obtain ⟨F, rfl⟩ : ∃ i, F = i + 1 := ⟨F - 1, by omega⟩
    obtain ⟨p1, p2, p3⟩ := (hI.2.2.1 k hk).2.1 h1
    have hR := hI.1
    have e1 := hR.1.2.1
    obtain ⟨M1, g1, g2, g3, g4⟩ := m_begins (c := j) hG hI.1 (by omega)
    obtain ⟨M2, k1, k2, k3, k4⟩ := m_fof (L := L) (b1 := b1) (b2 := b2) (σ := σ) (h := B) (k := k) (m := s_sh σ 2 k) (c := j) (w := (r_q (s_now σ) 2 j, r_off (s_now σ) j, r_q (s_now σ) 3 j, 0)) he hW.1 ⟨hW.1.2.2.1 j hj, (hW.1.2.1 j (by omega)).2.2.2, Nat.zero_le _⟩ (by omega) (by omega) hk h4 401 x_fuel 0 (fun _ => nM 1) M1 (fu (by omega)) g2 (hR.ag2 (fun a j q => g4.1 _ _ (by omega))) (fun i hi => (g4.2 _ _).trans (p3 i hi)) ((g4.1 _ _ (by omega)).trans p2) g3 (fun q hq2 => (g4.1 _ _ (by omega)).trans (hq q (by omega))) (by omega)
    refine ⟨M2, ?_, k2, k3, (g4.mono (fun a k q => by omega)).tr k4⟩
    rw [s_lp_X9_compares_3, show x = r_s (s_now σ) 1 + 1 by omega]
    simp (disch := first | assumption | omega) only [bd_X9_compares_3, f_X9_compares_c30, gt_83, e1, g1, l_of, n_ltT, n_ltF, n_leT, n_leF, n_eqT, n_eqF, n_neM, n_Mne, n_M0, n_Mlt, n_0leM, nI_clamp, x_in_nI, n_1, nI_add, x_at, x_bd_s, x_bv_s, ↓x_lt, decide_true, decide_false, Bool.and_self, Bool.true_and, Bool.and_true, if_true, if_false, ite_true, ite_false, ↓reduceIte, not_true_eq_false, not_false_eq_true, Nat.reduceAdd, Nat.reduceMul, Nat.reduceEqDiff, eq_self, true_and, and_true, false_and, and_false, Option.some.injEq, Prod.mk.injEq, l_0, l_1, l_2, l_3, l_4, l_5, l_6, l_7, l_8, l_9, l_10, l_100, l_160, ↓m_1, ↓m_2, ↓m_3, ↓m_4, ↓m_5, ↓m_6, ↓m_7]
    exact k1
  | succ d ih =>
    intro F x M hF hG hI hx hq
    obtain ⟨F, rfl⟩ : ∃ i, F = i + 1 := ⟨F - 1, by omega⟩
    have e1 := hI.1.1.2.1
    have f0 : Fr (fun a k => a = 83 ∧ 31 ≤ k ∧ k < 35 ∨ a = 103 ∧ e ≤ k ∧ k < e + 201) M (x_wi M 103 (e + x) (nM 1)) := Fr.rf.wi (by omega)
    obtain ⟨M2, g1, g2, g3, g4⟩ := ih F (x + 1) (x_wi M 103 (e + x) (nM 1)) (by omega) hG (hI.fr f0 (fun a k q r => by omega)) (by omega) (fun q hq2 => by
      rw [ii_wi]
      split
      · rfl
      · exact hq q (by omega))
    refine ⟨M2, ?_, g2, g3, f0.tr g4⟩
    rw [s_lp_X9_compares_3]
    simp (disch := first | assumption | omega) only [bd_X9_compares_3, gt_83, gr_83_38, gt_103, gl_103, e1, nI_add, l_of, n_ltT, n_ltF, n_leT, n_leF, n_eqT, n_eqF, n_neM, n_Mne, n_M0, n_Mlt, n_0leM, nI_clamp, x_in_nI, n_1, nI_add, x_at, x_bd_s, x_bv_s, ↓x_lt, decide_true, decide_false, Bool.and_self, Bool.true_and, Bool.and_true, if_true, if_false, ite_true, ite_false, ↓reduceIte, not_true_eq_false, not_false_eq_true, Nat.reduceAdd, Nat.reduceMul, Nat.reduceEqDiff, eq_self, true_and, and_true, false_and, and_false, Option.some.injEq, Prod.mk.injEq, l_0, l_1, l_2, l_3, l_4, l_5, l_6, l_7, l_8, l_9, l_10, l_100, l_160, ↓m_1, ↓m_2, ↓m_3, ↓m_4, ↓m_5, ↓m_6, ↓m_7]
    exact g1
theorem c_ptl {M : XM} {n m : Nat} {f g : Nat → Int32} (hG : Geo L b1 b2 M) (en : x_i M 21 2 = nI n) (hn : n ≤ 200) (hm : 1 ≤ m) (hm2 : m ≤ 200) (hf : ∀ q, q < 201 → x_i M 63 q = f q) (hg : ∀ q, q < 201 → x_i M 64 q = g q) (d : Nat) : ∀ (F x : Nat), d < F → n < x + d → x ≤ 401 →
    lp_X8_parted_142 F 20 (nI m) (nI x) M = some (oI (ptl n m f g d x), M) := by
  induction d with
  | zero =>
    intro F x hF hx hx4
    obtain ⟨F, rfl⟩ : ∃ i, F = i + 1 := ⟨F - 1, by omega⟩
    rw [s_lp_X8_parted_142]
    simp (disch := first | assumption | omega) only [bd_X8_parted_142, gt_20, gr_20_0, gt_21, en, ptl, oI, l_of, n_ltT, n_ltF, n_leT, n_leF, n_eqT, n_eqF, n_neM, n_Mne, n_M0, n_Mlt, n_0leM, nI_clamp, x_in_nI, n_1, nI_add, x_at, x_bd_s, x_bv_s, ↓x_lt, decide_true, decide_false, Bool.and_self, Bool.true_and, Bool.and_true, if_true, if_false, ite_true, ite_false, ↓reduceIte, not_true_eq_false, not_false_eq_true, Nat.reduceAdd, Nat.reduceMul, Nat.reduceEqDiff, eq_self, true_and, and_true, false_and, and_false, Option.some.injEq, Prod.mk.injEq, l_0, l_1, l_2, l_3, l_4, l_5, l_6, l_7, l_8, l_9, l_10, l_100, l_160, ↓m_1, ↓m_2, ↓m_3, ↓m_4, ↓m_5, ↓m_6, ↓m_7]
  | succ d ih =>
    intro F x hF hx hx4
    obtain ⟨F, rfl⟩ : ∃ i, F = i + 1 := ⟨F - 1, by omega⟩
    rw [s_lp_X8_parted_142]
    unfold ptl
    by_cases h1 : n < x
    · rw [if_pos h1]
      simp (disch := first | assumption | omega) only [bd_X8_parted_142, gt_20, gr_20_0, gt_21, en, oI, l_of, n_ltT, n_ltF, n_leT, n_leF, n_eqT, n_eqF, n_neM, n_Mne, n_M0, n_Mlt, n_0leM, nI_clamp, x_in_nI, n_1, nI_add, x_at, x_bd_s, x_bv_s, ↓x_lt, decide_true, decide_false, Bool.and_self, Bool.true_and, Bool.and_true, if_true, if_false, ite_true, ite_false, ↓reduceIte, not_true_eq_false, not_false_eq_true, Nat.reduceAdd, Nat.reduceMul, Nat.reduceEqDiff, eq_self, true_and, and_true, false_and, and_false, Option.some.injEq, Prod.mk.injEq, l_0, l_1, l_2, l_3, l_4, l_5, l_6, l_7, l_8, l_9, l_10, l_100, l_160, ↓m_1, ↓m_2, ↓m_3, ↓m_4, ↓m_5, ↓m_6, ↓m_7]
    · rw [if_neg h1]
      have y1 := hf x (by omega)
      have y2 := hg x (by omega)
      by_cases h2 : f x = g x
      · rw [if_pos h2]
        have q := ih F (x + m) (by omega) (by omega) (by omega)
        simp (disch := first | assumption | omega) only [bd_X8_parted_142, gt_20, gr_20_0, gt_21, gr_20_11, gr_20_12, gt_63, gl_63, gt_64, gl_64, en, y1, y2, h2, nI_add, l_of, n_ltT, n_ltF, n_leT, n_leF, n_eqT, n_eqF, n_neM, n_Mne, n_M0, n_Mlt, n_0leM, nI_clamp, x_in_nI, n_1, nI_add, x_at, x_bd_s, x_bv_s, ↓x_lt, decide_true, decide_false, Bool.and_self, Bool.true_and, Bool.and_true, if_true, if_false, ite_true, ite_false, ↓reduceIte, not_true_eq_false, not_false_eq_true, Nat.reduceAdd, Nat.reduceMul, Nat.reduceEqDiff, eq_self, true_and, and_true, false_and, and_false, Option.some.injEq, Prod.mk.injEq, l_0, l_1, l_2, l_3, l_4, l_5, l_6, l_7, l_8, l_9, l_10, l_100, l_160, ↓m_1, ↓m_2, ↓m_3, ↓m_4, ↓m_5, ↓m_6, ↓m_7]
        exact q
      · rw [if_neg h2]
        simp (disch := first | assumption | omega) only [bd_X8_parted_142, gt_20, gr_20_0, gt_21, gr_20_11, gr_20_12, gt_63, gl_63, gt_64, gl_64, en, y1, y2, h2, oI, l_of, n_ltT, n_ltF, n_leT, n_leF, n_eqT, n_eqF, n_neM, n_Mne, n_M0, n_Mlt, n_0leM, nI_clamp, x_in_nI, n_1, nI_add, x_at, x_bd_s, x_bv_s, ↓x_lt, decide_true, decide_false, Bool.and_self, Bool.true_and, Bool.and_true, if_true, if_false, ite_true, ite_false, ↓reduceIte, not_true_eq_false, not_false_eq_true, Nat.reduceAdd, Nat.reduceMul, Nat.reduceEqDiff, eq_self, true_and, and_true, false_and, and_false, Option.some.injEq, Prod.mk.injEq, l_0, l_1, l_2, l_3, l_4, l_5, l_6, l_7, l_8, l_9, l_10, l_100, l_160, ↓m_1, ↓m_2, ↓m_3, ↓m_4, ↓m_5, ↓m_6, ↓m_7]
theorem m_ptl {M : XM} {n m : Nat} {f g : Nat → Int32} (hG : Geo L b1 b2 M) (en : x_i M 83 1 = nI n) (hn : n ≤ 200) (hm : 1 ≤ m) (hm2 : m ≤ 200) (hf : ∀ q, q ≤ n → x_i M 103 (0 + q) = f q) (hg : ∀ q, q ≤ n → x_i M 103 (201 + q) = g q) (d : Nat) : ∀ (F x : Nat), d < F → n < x + d → x ≤ 401 →
    lp_X9_parted_216 F 83 (nI m) (nI x) M = some (oI (ptl n m f g d x), M) := by
  induction d with
  | zero =>
    intro F x hF hx hx4
    obtain ⟨F, rfl⟩ : ∃ i, F = i + 1 := ⟨F - 1, by omega⟩
    rw [s_lp_X9_parted_216]
    simp (disch := first | assumption | omega) only [bd_X9_parted_216, gt_83, en, ptl, oI, l_of, n_ltT, n_ltF, n_leT, n_leF, n_eqT, n_eqF, n_neM, n_Mne, n_M0, n_Mlt, n_0leM, nI_clamp, x_in_nI, n_1, nI_add, x_at, x_bd_s, x_bv_s, ↓x_lt, decide_true, decide_false, Bool.and_self, Bool.true_and, Bool.and_true, if_true, if_false, ite_true, ite_false, ↓reduceIte, not_true_eq_false, not_false_eq_true, Nat.reduceAdd, Nat.reduceMul, Nat.reduceEqDiff, eq_self, true_and, and_true, false_and, and_false, Option.some.injEq, Prod.mk.injEq, l_0, l_1, l_2, l_3, l_4, l_5, l_6, l_7, l_8, l_9, l_10, l_100, l_160, ↓m_1, ↓m_2, ↓m_3, ↓m_4, ↓m_5, ↓m_6, ↓m_7]
  | succ d ih =>
    intro F x hF hx hx4
    obtain ⟨F, rfl⟩ : ∃ i, F = i + 1 := ⟨F - 1, by omega⟩
    rw [s_lp_X9_parted_216]
    unfold ptl
    by_cases h1 : n < x
    · rw [if_pos h1]
      simp (disch := first | assumption | omega) only [bd_X9_parted_216, gt_83, en, oI, l_of, n_ltT, n_ltF, n_leT, n_leF, n_eqT, n_eqF, n_neM, n_Mne, n_M0, n_Mlt, n_0leM, nI_clamp, x_in_nI, n_1, nI_add, x_at, x_bd_s, x_bv_s, ↓x_lt, decide_true, decide_false, Bool.and_self, Bool.true_and, Bool.and_true, if_true, if_false, ite_true, ite_false, ↓reduceIte, not_true_eq_false, not_false_eq_true, Nat.reduceAdd, Nat.reduceMul, Nat.reduceEqDiff, eq_self, true_and, and_true, false_and, and_false, Option.some.injEq, Prod.mk.injEq, l_0, l_1, l_2, l_3, l_4, l_5, l_6, l_7, l_8, l_9, l_10, l_100, l_160, ↓m_1, ↓m_2, ↓m_3, ↓m_4, ↓m_5, ↓m_6, ↓m_7]
    · rw [if_neg h1]
      have y1 := hf x (by omega)
      have y2 := hg x (by omega)
      rw [Nat.zero_add] at y1
      by_cases h2 : f x = g x
      · rw [if_pos h2]
        have q := ih F (x + m) (by omega) (by omega) (by omega)
        simp (disch := first | assumption | omega) only [bd_X9_parted_216, gt_83, gr_83_38, gt_103, gl_103, l_201, en, y1, y2, h2, nI_add, l_of, n_ltT, n_ltF, n_leT, n_leF, n_eqT, n_eqF, n_neM, n_Mne, n_M0, n_Mlt, n_0leM, nI_clamp, x_in_nI, n_1, nI_add, x_at, x_bd_s, x_bv_s, ↓x_lt, decide_true, decide_false, Bool.and_self, Bool.true_and, Bool.and_true, if_true, if_false, ite_true, ite_false, ↓reduceIte, not_true_eq_false, not_false_eq_true, Nat.reduceAdd, Nat.reduceMul, Nat.reduceEqDiff, eq_self, true_and, and_true, false_and, and_false, Option.some.injEq, Prod.mk.injEq, l_0, l_1, l_2, l_3, l_4, l_5, l_6, l_7, l_8, l_9, l_10, l_100, l_160, ↓m_1, ↓m_2, ↓m_3, ↓m_4, ↓m_5, ↓m_6, ↓m_7]
        exact q
      · rw [if_neg h2]
        simp (disch := first | assumption | omega) only [bd_X9_parted_216, gt_83, gr_83_38, gt_103, gl_103, l_201, en, y1, y2, h2, nI_add, oI, l_of, n_ltT, n_ltF, n_leT, n_leF, n_eqT, n_eqF, n_neM, n_Mne, n_M0, n_Mlt, n_0leM, nI_clamp, x_in_nI, n_1, nI_add, x_at, x_bd_s, x_bv_s, ↓x_lt, decide_true, decide_false, Bool.and_self, Bool.true_and, Bool.and_true, if_true, if_false, ite_true, ite_false, ↓reduceIte, not_true_eq_false, not_false_eq_true, Nat.reduceAdd, Nat.reduceMul, Nat.reduceEqDiff, eq_self, true_and, and_true, false_and, and_false, Option.some.injEq, Prod.mk.injEq, l_0, l_1, l_2, l_3, l_4, l_5, l_6, l_7, l_8, l_9, l_10, l_100, l_160, ↓m_1, ↓m_2, ↓m_3, ↓m_4, ↓m_5, ↓m_6, ↓m_7]
end
/-- what is refused of two COUNTERS and two ROWS -/
def qd (σ : XS) (c e s t : Int32) : Nat := if (c < nI 0 ∨ r_s (s_now σ) 0 ≤ c.toNatClampNeg) ∨ e < nI 0 ∨ r_s (s_now σ) 0 ≤ e.toNatClampNeg then 1 else pq σ s t
def okP (σ : XS) (c e s t m : Int32) : Prop := c ≠ e ∧ ¬ m < nI 1 ∧ m.toNatClampNeg ≤ 200 ∧ okS σ s (nI (s_sh σ 2 s.toNatClampNeg)) = true ∧ okS σ t (nI (s_sh σ 2 t.toNatClampNeg)) = true
def pan (σ : XS) (c e s t m : Int32) : Option Nat := ptl (r_s (s_now σ) 1) m.toNatClampNeg (wfo σ c.toNatClampNeg s.toNatClampNeg (s_sh σ 2 s.toNatClampNeg)) (wfo σ e.toNatClampNeg t.toNatClampNeg (s_sh σ 2 t.toNatClampNeg)) 201 m.toNatClampNeg
