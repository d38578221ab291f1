/-! EVENINGS -/
def r_an (ρ : XR) (k : Nat) : XR := w_q (w_off (w_q ρ 2 k 0) k (nI 0)) 3 k 0
def r_ans : Nat → XR → Nat → XR
  | 0, ρ, _ => ρ
  | m + 1, ρ, j => r_ans m (r_an ρ j) (j + 1)
def sd (v : Int32) : Int32 := v * 1103515245 + 12345
def dw (v : Int32) : Int32 := (v.toUInt32 >>> ((16 : Int32).toUInt32 &&& Int32.toUInt32 31)).toInt32 - (v.toUInt32 >>> ((16 : Int32).toUInt32 &&& Int32.toUInt32 31)).toInt32 / 1000 * 1000
def r_tk (g d : Int32 → Int32) (ρ : XR) (k : Nat) : XR := if r_s ρ 1 ≤ r_q ρ 2 k then ρ else if nI (r_s ρ 3) ≤ d (g (r_seed ρ)) then r_cnt (w_seed ρ (g (r_seed ρ))) k else r_hear (w_seed ρ (g (r_seed ρ))) k
def r_tks (g d : Int32 → Int32) : Nat → XR → Nat → XR
  | 0, ρ, _ => ρ
  | m + 1, ρ, j => r_tks g d m (r_tk g d ρ j) (j + 1)
def r_sc (g d : Int32 → Int32) : Nat → XR → XR
  | 0, ρ => ρ
  | m + 1, ρ => if thr ρ (r_s ρ 0) = r_s ρ 0 then ρ else r_sc g d m (r_tks g d (r_s ρ 0) ρ 0)
def r_ev (g d : Int32 → Int32) (ρ : XR) : XR := r_sc g d 60 (r_ans (r_s ρ 0) ρ 0)
def r_evs (g d : Int32 → Int32) : Nat → XR → XR
  | 0, ρ => ρ
  | m + 1, ρ => r_evs g d m (r_ev g d ρ)
def EV (Q i : Nat) (ρ : XR) : Prop := WF Q ρ ∧ ∀ c, c < r_s ρ 0 → r_q ρ 3 c ≤ i
section
variable {g d : Int32 → Int32}
theorem an_s (ρ : XR) (k x : Nat) : r_s (r_an ρ k) x = r_s ρ x := rfl
theorem ans_s (m : Nat) : ∀ (ρ : XR) (j x : Nat), r_s (r_ans m ρ j) x = r_s ρ x := by
  induction m with
  | zero => intro ρ j x; rfl
  | succ m ih => intro ρ j x; exact (ih (r_an ρ j) (j + 1) x).trans (an_s ρ j x)
theorem tk_s (ρ : XR) (k x : Nat) : r_s (r_tk g d ρ k) x = r_s ρ x := by
  unfold r_tk
  generalize g (r_seed ρ) = s
  split
  · rfl
  split
  · exact cnt_s _ _ _
  · rfl
theorem tks_s (m : Nat) : ∀ (ρ : XR) (j x : Nat), r_s (r_tks g d m ρ j) x = r_s ρ x := by
  induction m with
  | zero => intro ρ j x; rfl
  | succ m ih => intro ρ j x; exact (ih (r_tk g d ρ j) (j + 1) x).trans (tk_s ρ j x)
theorem sc_s (m : Nat) : ∀ (ρ : XR) (x : Nat), r_s (r_sc g d m ρ) x = r_s ρ x := by
  induction m with
  | zero => intro ρ x; rfl
  | succ m ih =>
    intro ρ x
    unfold r_sc
    split
    · rfl
    · exact (ih _ x).trans (tks_s _ _ _ _)
theorem ev_s (ρ : XR) (x : Nat) : r_s (r_ev g d ρ) x = r_s ρ x := (sc_s _ _ _).trans (ans_s _ _ _ _)
theorem cnt_q3 (ρ : XR) (k c : Nat) : r_q (r_cnt ρ k) 3 c = r_q ρ 3 c := by
  unfold r_cnt
  repeat' split
  · rfl
  · rw [rq_wd, rq_wq, if_neg (by omega)]
  · rw [rq_wq, if_neg (by omega)]
section
variable {Q i : Nat} {ρ : XR}
theorem WF.an (h : WF Q ρ) (k : Nat) : WF Q (r_an ρ k) := ((h.q2 k 0 (by omega) (by omega)).o k _).q3 k 0 (by omega)
theorem WF.hear (h : WF Q ρ) (k : Nat) (hk : k < r_s ρ 0) (hq : r_q ρ 3 k + 1 ≤ Q) : WF Q (r_hear ρ k) := by
  have hl := lf_le (r_s ρ 2) (r_q ρ 0 k) (r_q ρ 1 k) (r_q ρ 2 k) (r_q ρ 3 k + 1)
  have h1 := h.2.2.1 k hk
  have h0 := h.1.1
  have h2 := (h.2.1 k (by omega)).2.2.1
  exact ((h.q3 k _ hq).q2 k _ (by omega) (by rw [rs_wq]; omega)).o k _
theorem hear_q3 (k c : Nat) : r_q (r_hear ρ k) 3 c = if c = k then r_q ρ 3 k + 1 else r_q ρ 3 c := by
  unfold r_hear
  rw [rq_wo, rq_wq, if_neg (by omega), rq_wq]
  by_cases h : c = k
  · rw [if_pos ⟨rfl, h⟩, if_pos h]
  · rw [if_neg (fun q => h q.2), if_neg h]
theorem EV.tk (h : EV Q i ρ) (k : Nat) (hk : k < r_s ρ 0) (hq : i + 1 ≤ Q) : EV Q (i + 1) (r_tk g d ρ k) := by
  refine ⟨?_, fun c hc => ?_⟩
  · unfold r_tk
    generalize g (r_seed ρ) = s
    split
    · exact h.1
    split
    · exact (h.1.e _).cnt k
    · exact WF.hear (h.1.e _) k hk (by have := h.2 k hk; show r_q ρ 3 k + 1 ≤ Q; omega)
  · rw [tk_s] at hc
    have h1 := h.2 c hc
    have h2 := h.2 k hk
    unfold r_tk
    generalize g (r_seed ρ) = s
    split
    · omega
    split
    · rw [cnt_q3]; show r_q ρ 3 c ≤ i + 1; omega
    · rw [hear_q3]
      split
      · show r_q ρ 3 k + 1 ≤ i + 1; omega
      · show r_q ρ 3 c ≤ i + 1; omega
theorem EV.tks (m : Nat) : ∀ (i j : Nat) (ρ : XR), EV Q i ρ → j + m ≤ r_s ρ 0 → i + m ≤ Q → EV Q (i + m) (r_tks g d m ρ j) := by
  induction m with
  | zero => intro i j ρ h _ _; exact h
  | succ m ih =>
    intro i j ρ h hj hq
    have q := ih (i + 1) (j + 1) (r_tk g d ρ j) (h.tk j (by omega) (by omega)) (by rw [tk_s]; omega) (by omega)
    rw [show i + (m + 1) = i + 1 + m by omega]
    exact q
theorem EV.up {i' : Nat} (h : EV Q i ρ) (hi : i ≤ i') : EV Q i' ρ := ⟨h.1, fun c hc => Nat.le_trans (h.2 c hc) hi⟩
theorem WF.ans (m : Nat) : ∀ (ρ : XR) (j : Nat), WF Q ρ → (∀ c, c < j → r_q ρ 3 c = 0) → WF Q (r_ans m ρ j) ∧ ∀ c, c < j + m → r_q (r_ans m ρ j) 3 c = 0 := by
  induction m with
  | zero => intro ρ j h hq; exact ⟨h, hq⟩
  | succ m ih =>
    intro ρ j h hq
    have q := ih (r_an ρ j) (j + 1) (h.an j) (fun c hc => by
      unfold r_an
      rw [rq_wq]
      split
      · rfl
      · rw [rq_wo, rq_wq, if_neg (by omega)]; exact hq c (by omega))
    rw [show j + (m + 1) = j + 1 + m by omega]
    exact q
theorem WF.ev0 (h : WF Q ρ) : EV Q 0 (r_ans (r_s ρ 0) ρ 0) := by
  have q := WF.ans (Q := Q) (r_s ρ 0) ρ 0 h (fun c hc => absurd hc (by omega))
  refine ⟨q.1, fun c hc => ?_⟩
  rw [ans_s] at hc
  rw [q.2 c (by omega)]
  omega
theorem EV.sc (m : Nat) : ∀ (i : Nat) (ρ : XR), EV Q i ρ → i + 6 * m ≤ Q → WF Q (r_sc g d m ρ) := by
  induction m with
  | zero => intro i ρ h _; exact h.1
  | succ m ih =>
    intro i ρ h hq
    unfold r_sc
    split
    · exact h.1
    · have h6 := h.1.1.1
      exact ih (i + 6) _ ((EV.tks (r_s ρ 0) i 0 ρ h (by omega) (by omega)).up (by omega)) (by omega)
theorem WF.ev (h : WF Q ρ) (hq : 400 ≤ Q) : WF Q (r_ev g d ρ) := EV.sc 60 0 _ h.ev0 (by omega)
theorem WF.evs (m : Nat) : ∀ (ρ : XR), WF Q ρ → 400 ≤ Q → WF Q (r_evs g d m ρ) := by
  induction m with
  | zero => intro ρ h _; exact h
  | succ m ih => intro ρ h hq; exact ih _ (h.ev hq) hq
theorem thr_lt (ρ : XR) (c m : Nat) (hc : c < m) (hx : r_q ρ 2 c < r_s ρ 1) : thr ρ m < m := by
  induction m with
  | zero => omega
  | succ m ih =>
    have h := thr_le ρ m
    show thr ρ m + _ < m + 1
    by_cases q : c = m
    · subst q
      rw [if_neg (by omega)]; omega
    · have := ih (by omega)
      split <;> omega
end
theorem n_1000 : ((1000 : Int32) = nI 0) = False := eq_false (by decide)
section
variable {L : Nat} {b1 b2 : Bool}
theorem c_draw {M : XM} {ρ : XR} (hG : Geo L b1 b2 M) (hR : CR 21 ρ M) : f_X4_drawThousandth 21 M = some (dw (sd (r_seed ρ)), x_wi M 21 9 (sd (r_seed ρ))) := by
  have e7 := hR.1.2.2.2.2.2.2.2
  unfold dw sd
  simp (disch := first | assumption | omega) only [f_X4_drawThousandth, gt_21, e7, l_of, n_ltT, n_ltF, n_leT, n_leF, n_eqT, n_eqF, n_neM, n_Mne, n_M0, n_Mlt, n_0leM, nI_clamp, x_in_nI, n_1, nI_add, x_at, x_bd_s, x_bv_s, ↓x_lt, decide_true, decide_false, Bool.and_self, Bool.true_and, Bool.and_true, if_true, if_false, ite_true, ite_false, ↓reduceIte, not_true_eq_false, not_false_eq_true, Nat.reduceAdd, Nat.reduceMul, Nat.reduceEqDiff, eq_self, true_and, and_true, false_and, and_false, Option.some.injEq, Prod.mk.injEq, l_0, l_1, l_2, l_3, l_4, l_5, l_6, l_7, l_8, l_9, l_10, l_100, l_160, ↓m_1, ↓m_2, ↓m_3, ↓m_4, ↓m_5, ↓m_6, ↓m_7, ii_wi, ji_wi, ri_wi, ti_wi, li_wi, ii_wj, ji_wj, ri_wj, ti_wj, li_wj]
theorem m_draw {M : XM} {ρ : XR} (hG : Geo L b1 b2 M) (hR : MR ρ M) : f_X9_draw 83 1000 M = some (dw (sd (r_seed ρ)), x_wi M 83 7 (sd (r_seed ρ))) := by
  have e7 := hR.1.2.2.2.2.2.2.2
  unfold dw sd
  simp (disch := first | assumption | omega) only [f_X9_draw, gt_83, e7, n_1000, l_of, n_ltT, n_ltF, n_leT, n_leF, n_eqT, n_eqF, n_neM, n_Mne, n_M0, n_Mlt, n_0leM, nI_clamp, x_in_nI, n_1, nI_add, x_at, x_bd_s, x_bv_s, ↓x_lt, decide_true, decide_false, Bool.and_self, Bool.true_and, Bool.and_true, if_true, if_false, ite_true, ite_false, ↓reduceIte, not_true_eq_false, not_false_eq_true, Nat.reduceAdd, Nat.reduceMul, Nat.reduceEqDiff, eq_self, true_and, and_true, false_and, and_false, Option.some.injEq, Prod.mk.injEq, l_0, l_1, l_2, l_3, l_4, l_5, l_6, l_7, l_8, l_9, l_10, l_100, l_160, ↓m_1, ↓m_2, ↓m_3, ↓m_4, ↓m_5, ↓m_6, ↓m_7, ii_wi, ji_wi, ri_wi, ti_wi, li_wi, ii_wj, ji_wj, ri_wj, ti_wj, li_wj]
theorem c_pass1 {Q : Nat} {M : XM} {ρ : XR} {k : Nat} (hG : Geo L b1 b2 M) (hR : CR 21 ρ M) (hV : WF Q ρ) (hQ : Q ≤ 810000) (hk : k < 6) (hx : r_q ρ 2 k < r_s ρ 1) :
    ∃ M', f_X4_pass 21 (nI k) (nI 1) M = some M' ∧ Geo L b1 b2 M' ∧ CR 21 (r_hear ρ k) M' ∧ Agr 0 21 M M' ∧ Agr 30 105 M M' := by
  obtain ⟨⟨e0, e1, e2, e3, e4, e5, e6, e7⟩, hc, ht⟩ := id hR
  obtain ⟨⟨w0, w1, w2, w3, w4, w5, w6, w7⟩, wc, wl, wt⟩ := id hV
  obtain ⟨q1, q2, q3, q4, q5⟩ := hc k hk
  obtain ⟨y1, y2, y3, y4⟩ := wc k hk
  have hl := c_hear (M := M) (v0 := 24 + k) (gct_24 hG (by omega)) ⟨q1, q2, q3, q4, q5⟩ y1 y2 y3 (by omega) w3 w4
  have hf := lf_le (r_s ρ 2) (r_q ρ 0 k) (r_q ρ 1 k) (r_q ρ 2 k) (r_q ρ 3 k + 1)
  refine ⟨x_wi (x_wi (x_wi M (21 + 3 + k) 4 (nI (r_q ρ 3 k + 1))) (21 + 3 + k) 2 (nI (lf (r_s ρ 2) (r_q ρ 0 k) (r_q ρ 1 k) (r_q ρ 2 k) (r_q ρ 3 k + 1)))) (21 + 3 + k) 3 (of (r_q ρ 0 k) (r_q ρ 1 k) (r_off ρ k)), ?_, hG, ((hR.q3 k (r_q ρ 3 k + 1) (by omega)).q2 k _ (by omega)).o k _ (by omega), ((Agr.rf.wi (by omega)).wi (by omega)).wi (by omega), ((Agr.rf.wi (by omega)).wi (by omega)).wi (by omega)⟩
  simp (disch := first | assumption | omega) only [f_X4_pass_c46, f_X4_pass_44, f_X4_pass_c23, f_X4_pass_c2, f_X4_pass, f_X4_isThrough, gt_21, gr_21_0, gt_22, gl_22, gc_22, gct_24, l_of, n_ltT, n_ltF, n_leT, n_leF, n_eqT, n_eqF, n_neM, n_Mne, n_M0, n_Mlt, n_0leM, nI_clamp, x_in_nI, n_1, nI_add, x_at, x_bd_s, x_bv_s, ↓x_lt, decide_true, decide_false, Bool.and_self, Bool.true_and, Bool.and_true, if_true, if_false, ite_true, ite_false, ↓reduceIte, not_true_eq_false, not_false_eq_true, Nat.reduceAdd, Nat.reduceMul, Nat.reduceEqDiff, eq_self, true_and, and_true, false_and, and_false, Option.some.injEq, Prod.mk.injEq, l_0, l_1, l_2, l_3, l_4, l_5, l_6, l_7, l_8, l_9, l_10, l_100, l_160, ↓m_1, ↓m_2, ↓m_3, ↓m_4, ↓m_5, ↓m_6, ↓m_7, ii_wi, ji_wi, ri_wi, ti_wi, li_wi, ii_wj, ji_wj, ri_wj, ti_wj, li_wj, e1, e2, q3, hl, hw, ne_21]
theorem c_tks {Q : Nat} (hD : ∀ (N : XM) (ρ : XR), Geo L b1 b2 N → CR 21 ρ N → f_X4_drawThousandth 21 N = some (d (g (r_seed ρ)), x_wi N 21 9 (g (r_seed ρ)))) (hQ : Q ≤ 810000) {κ : Nat → Int32 → XM → Option XM} {v : Int32} (m : Nat) : ∀ (n j i : Nat) (ρ : XR) (M : XM), m < n → Geo L b1 b2 M → CR 21 ρ M → EV Q i ρ → i + m ≤ Q → j + m = r_s ρ 0 →
    ∃ M', lp_X4_passEvening_46 κ n 21 v (nI j) M = κ 21 (v + nI 1) M' ∧ Geo L b1 b2 M' ∧ CR 21 (r_tks g d m ρ j) M' ∧ Agr 0 21 M M' ∧ Agr 30 105 M M' := by
  induction m with
  | zero =>
    intro n j i ρ M hn hG hR hE hq hj
    obtain ⟨n, rfl⟩ : ∃ i, n = i + 1 := ⟨n - 1, by omega⟩
    have e0 := hR.1.1
    have w0 := hE.1.1.1
    refine ⟨M, ?_, hG, hR, Agr.rf, Agr.rf⟩
    rw [s_lp_X4_passEvening_46, show j = r_s ρ 0 by omega]
    simp (disch := first | assumption | omega) only [bd_X4_passEvening_46, gt_21, l_of, n_ltT, n_ltF, n_leT, n_leF, n_eqT, n_eqF, n_neM, n_Mne, n_M0, n_Mlt, n_0leM, nI_clamp, x_in_nI, n_1, nI_add, x_at, x_bd_s, x_bv_s, ↓x_lt, decide_true, decide_false, Bool.and_self, Bool.true_and, Bool.and_true, if_true, if_false, ite_true, ite_false, ↓reduceIte, not_true_eq_false, not_false_eq_true, Nat.reduceAdd, Nat.reduceMul, Nat.reduceEqDiff, eq_self, true_and, and_true, false_and, and_false, Option.some.injEq, Prod.mk.injEq, l_0, l_1, l_2, l_3, l_4, l_5, l_6, l_7, l_8, l_9, l_10, l_100, l_160, ↓m_1, ↓m_2, ↓m_3, ↓m_4, ↓m_5, ↓m_6, ↓m_7, e0]
  | succ m ih =>
    intro n j i ρ M hn hG hR hE hq hj
    obtain ⟨n, rfl⟩ : ∃ i, n = i + 1 := ⟨n - 1, by omega⟩
    obtain ⟨⟨e0, e1, e2, e3, e4, e5, e6, e7⟩, hc, ht⟩ := id hR
    obtain ⟨⟨w0, w1, w2, w3, w4, w5, w6, w7⟩, wc, wl, wt⟩ := id hE.1
    obtain ⟨q1, q2, q3, q4, q5⟩ := hc j (by omega)
    obtain ⟨y1, y2, y3, y4⟩ := wc j (by omega)
    have hE1 := hE.tk (g := g) (d := d) j (by omega) (by omega)
    have es := tk_s (g := g) (d := d) ρ j
    rw [s_lp_X4_passEvening_46]
    unfold r_tks
    by_cases h1 : r_s ρ 1 ≤ r_q ρ 2 j
    · have er : r_tk g d ρ j = ρ := by unfold r_tk; rw [if_pos h1]
      rw [er] at hE1 ⊢
      obtain ⟨M2, g1, g2, g3, g4, g5⟩ := ih n (j + 1) (i + 1) ρ M (by omega) hG hR hE1 (by omega) (by omega)
      refine ⟨M2, ?_, g2, g3, g4, g5⟩
      simp (disch := first | assumption | omega) only [bd_X4_passEvening_46, f_X4_passEvening_c56, f_X4_passEvening_83, f_X4_isThrough, gt_21, gr_21_0, gt_22, gl_22, gc_22, gct_24, l_of, n_ltT, n_ltF, n_leT, n_leF, n_eqT, n_eqF, n_neM, n_Mne, n_M0, n_Mlt, n_0leM, nI_clamp, x_in_nI, n_1, nI_add, x_at, x_bd_s, x_bv_s, ↓x_lt, decide_true, decide_false, Bool.and_self, Bool.true_and, Bool.and_true, if_true, if_false, ite_true, ite_false, ↓reduceIte, not_true_eq_false, not_false_eq_true, Nat.reduceAdd, Nat.reduceMul, Nat.reduceEqDiff, eq_self, true_and, and_true, false_and, and_false, Option.some.injEq, Prod.mk.injEq, l_0, l_1, l_2, l_3, l_4, l_5, l_6, l_7, l_8, l_9, l_10, l_100, l_160, ↓m_1, ↓m_2, ↓m_3, ↓m_4, ↓m_5, ↓m_6, ↓m_7, e0, e1, q3]
      exact g1
    · have hd := hD M ρ hG hR
      have er0 : r_tk g d ρ j = if nI (r_s ρ 3) ≤ d (g (r_seed ρ)) then r_cnt (w_seed ρ (g (r_seed ρ))) j else r_hear (w_seed ρ (g (r_seed ρ))) j := by unfold r_tk; rw [if_neg h1]
      generalize g (r_seed ρ) = s at hd er0
      have hRe := hR.e s
      have a1 : Agr 0 21 M (x_wi M 21 9 s) := Agr.rf.wi (by omega)
      have a2 : Agr 30 105 M (x_wi M 21 9 s) := Agr.rf.wi (by omega)
      by_cases h2 : nI (r_s ρ 3) ≤ d s
      · have er : r_tk g d ρ j = r_cnt (w_seed ρ s) j := by rw [er0, if_pos h2]
        rw [er] at hE1 es ⊢
        obtain ⟨M1, k1, k2, k3, k4, k5⟩ := c_pass0 (M := x_wi M 21 9 s) (k := j) hG hRe (by omega) w2 y3
        obtain ⟨M2, g1, g2, g3, g4, g5⟩ := ih n (j + 1) (i + 1) _ M1 (by omega) k2 k3 hE1 (by omega) (by rw [es]; omega)
        refine ⟨M2, ?_, g2, g3, (a1.tr k4).tr g4, (a2.tr k5).tr g5⟩
        simp (disch := first | assumption | omega) only [bd_X4_passEvening_46, f_X4_passEvening_c56, f_X4_passEvening_c65, f_X4_passEvening_80, f_X4_passEvening_c80, f_X4_passEvening_83, f_X4_isThrough, gt_21, gr_21_0, gt_22, gl_22, gc_22, gct_24, l_of, n_ltT, n_ltF, n_leT, n_leF, n_eqT, n_eqF, n_neM, n_Mne, n_M0, n_Mlt, n_0leM, nI_clamp, x_in_nI, n_1, nI_add, x_at, x_bd_s, x_bv_s, ↓x_lt, decide_true, decide_false, Bool.and_self, Bool.true_and, Bool.and_true, if_true, if_false, ite_true, ite_false, ↓reduceIte, not_true_eq_false, not_false_eq_true, Nat.reduceAdd, Nat.reduceMul, Nat.reduceEqDiff, eq_self, true_and, and_true, false_and, and_false, Option.some.injEq, Prod.mk.injEq, l_0, l_1, l_2, l_3, l_4, l_5, l_6, l_7, l_8, l_9, l_10, l_100, l_160, ↓m_1, ↓m_2, ↓m_3, ↓m_4, ↓m_5, ↓m_6, ↓m_7, ii_wi, ji_wi, ri_wi, ti_wi, li_wi, ii_wj, ji_wj, ri_wj, ti_wj, li_wj, e0, e1, e3, q3, hd, h2, k1]
        exact g1
      · have er : r_tk g d ρ j = r_hear (w_seed ρ s) j := by rw [er0, if_neg h2]
        rw [er] at hE1 es ⊢
        obtain ⟨M1, k1, k2, k3, k4, k5⟩ := c_pass1 (Q := Q) (M := x_wi M 21 9 s) (k := j) hG hRe (hE.1.e _) hQ (by omega) (show r_q ρ 2 j < r_s ρ 1 by omega)
        obtain ⟨M2, g1, g2, g3, g4, g5⟩ := ih n (j + 1) (i + 1) _ M1 (by omega) k2 k3 hE1 (by omega) (by rw [es]; omega)
        refine ⟨M2, ?_, g2, g3, (a1.tr k4).tr g4, (a2.tr k5).tr g5⟩
        simp (disch := first | assumption | omega) only [bd_X4_passEvening_46, f_X4_passEvening_c56, f_X4_passEvening_c65, f_X4_passEvening_80, f_X4_passEvening_c80, f_X4_passEvening_83, f_X4_isThrough, gt_21, gr_21_0, gt_22, gl_22, gc_22, gct_24, l_of, n_ltT, n_ltF, n_leT, n_leF, n_eqT, n_eqF, n_neM, n_Mne, n_M0, n_Mlt, n_0leM, nI_clamp, x_in_nI, n_1, nI_add, x_at, x_bd_s, x_bv_s, ↓x_lt, decide_true, decide_false, Bool.and_self, Bool.true_and, Bool.and_true, if_true, if_false, ite_true, ite_false, ↓reduceIte, not_true_eq_false, not_false_eq_true, Nat.reduceAdd, Nat.reduceMul, Nat.reduceEqDiff, eq_self, true_and, and_true, false_and, and_false, Option.some.injEq, Prod.mk.injEq, l_0, l_1, l_2, l_3, l_4, l_5, l_6, l_7, l_8, l_9, l_10, l_100, l_160, ↓m_1, ↓m_2, ↓m_3, ↓m_4, ↓m_5, ↓m_6, ↓m_7, ii_wi, ji_wi, ri_wi, ti_wi, li_wi, ii_wj, ji_wj, ri_wj, ti_wj, li_wj, e0, e1, e3, q3, hd, h2, k1]
        exact g1
theorem c_sc {Q : Nat} (hD : ∀ (N : XM) (ρ : XR), Geo L b1 b2 N → CR 21 ρ N → f_X4_drawThousandth 21 N = some (d (g (r_seed ρ)), x_wi N 21 9 (g (r_seed ρ)))) (hQ : Q ≤ 810000) (m : Nat) : ∀ (n t i : Nat) (ρ : XR) (M : XM), m < n → Geo L b1 b2 M → CR 21 ρ M → EV Q i ρ → i + 6 * m ≤ Q → t + m = 60 →
    ∃ M', lp_X4_passEvening_27 n 21 (nI t) M = some M' ∧ Geo L b1 b2 M' ∧ CR 21 (r_sc g d m ρ) M' ∧ Agr 0 21 M M' ∧ Agr 30 105 M M' := by
  induction m with
  | zero =>
    intro n t i ρ M hn hG hR hE hq hj
    obtain ⟨n, rfl⟩ : ∃ i, n = i + 1 := ⟨n - 1, by omega⟩
    refine ⟨M, ?_, hG, hR, Agr.rf, Agr.rf⟩
    rw [s_lp_X4_passEvening_27, show t = 60 by omega]
    simp (disch := first | assumption | omega) only [bd_X4_passEvening_27, gt_21, l_60, l_of, n_ltT, n_ltF, n_leT, n_leF, n_eqT, n_eqF, n_neM, n_Mne, n_M0, n_Mlt, n_0leM, nI_clamp, x_in_nI, n_1, nI_add, x_at, x_bd_s, x_bv_s, ↓x_lt, decide_true, decide_false, Bool.and_self, Bool.true_and, Bool.and_true, if_true, if_false, ite_true, ite_false, ↓reduceIte, not_true_eq_false, not_false_eq_true, Nat.reduceAdd, Nat.reduceMul, Nat.reduceEqDiff, eq_self, true_and, and_true, false_and, and_false, Option.some.injEq, Prod.mk.injEq, l_0, l_1, l_2, l_3, l_4, l_5, l_6, l_7, l_8, l_9, l_10, l_100, l_160, ↓m_1, ↓m_2, ↓m_3, ↓m_4, ↓m_5, ↓m_6, ↓m_7]
  | succ m ih =>
    intro n t i ρ M hn hG hR hE hq hj
    obtain ⟨n, rfl⟩ : ∃ i, n = i + 1 := ⟨n - 1, by omega⟩
    obtain ⟨⟨w0, w1, w2, w3, w4, w5, w6, w7⟩, wc, wl, wt⟩ := id hE.1
    have e0 := hR.1.1
    have ht := c_thr_lp (B := Q) hR (r_s ρ 0) x_fuel 0 (by omega) (fu (by omega)) hG w0 w2 wc
    rw [show thr ρ 0 = 0 from rfl] at ht
    have hle := thr_le ρ (r_s ρ 0)
    rw [s_lp_X4_passEvening_27]
    unfold r_sc
    by_cases h1 : thr ρ (r_s ρ 0) = r_s ρ 0
    · rw [if_pos h1]
      rw [h1] at ht
      refine ⟨M, ?_, hG, hR, Agr.rf, Agr.rf⟩
      simp (disch := first | assumption | omega) only [bd_X4_passEvening_27, f_X4_passEvening_c34, f_X4_countThrough, gt_21, l_60, l_of, n_ltT, n_ltF, n_leT, n_leF, n_eqT, n_eqF, n_neM, n_Mne, n_M0, n_Mlt, n_0leM, nI_clamp, x_in_nI, n_1, nI_add, x_at, x_bd_s, x_bv_s, ↓x_lt, decide_true, decide_false, Bool.and_self, Bool.true_and, Bool.and_true, if_true, if_false, ite_true, ite_false, ↓reduceIte, not_true_eq_false, not_false_eq_true, Nat.reduceAdd, Nat.reduceMul, Nat.reduceEqDiff, eq_self, true_and, and_true, false_and, and_false, Option.some.injEq, Prod.mk.injEq, l_0, l_1, l_2, l_3, l_4, l_5, l_6, l_7, l_8, l_9, l_10, l_100, l_160, ↓m_1, ↓m_2, ↓m_3, ↓m_4, ↓m_5, ↓m_6, ↓m_7, e0, ht]
    · rw [if_neg h1]
      have hE2 := (EV.tks (g := g) (d := d) (Q := Q) (r_s ρ 0) i 0 ρ hE (by omega) (by omega)).up (show i + r_s ρ 0 ≤ i + 6 by omega)
      obtain ⟨M1, k1, k2, k3, k4, k5⟩ := c_tks (b1 := b1) (b2 := b2) (L := L) hD hQ (κ := lp_X4_passEvening_27 n) (v := nI t) (r_s ρ 0) x_fuel 0 i ρ M (fu (by omega)) hG hR hE (by omega) (by omega)
      obtain ⟨M2, g1, g2, g3, g4, g5⟩ := ih n (t + 1) (i + 6) _ M1 (by omega) k2 k3 hE2 (by omega) (by omega)
      refine ⟨M2, ?_, g2, g3, k4.tr g4, k5.tr g5⟩
      rw [n_1] at k1
      simp (disch := first | assumption | omega) only [bd_X4_passEvening_27, f_X4_passEvening_c34, f_X4_countThrough, gt_21, l_60, l_of, n_ltT, n_ltF, n_leT, n_leF, n_eqT, n_eqF, n_neM, n_Mne, n_M0, n_Mlt, n_0leM, nI_clamp, x_in_nI, n_1, nI_add, x_at, x_bd_s, x_bv_s, ↓x_lt, decide_true, decide_false, Bool.and_self, Bool.true_and, Bool.and_true, if_true, if_false, ite_true, ite_false, ↓reduceIte, not_true_eq_false, not_false_eq_true, Nat.reduceAdd, Nat.reduceMul, Nat.reduceEqDiff, eq_self, true_and, and_true, false_and, and_false, Option.some.injEq, Prod.mk.injEq, l_0, l_1, l_2, l_3, l_4, l_5, l_6, l_7, l_8, l_9, l_10, l_100, l_160, ↓m_1, ↓m_2, ↓m_3, ↓m_4, ↓m_5, ↓m_6, ↓m_7, e0, ht, k1]
      exact g1
theorem c_ev {Q : Nat} (hD : ∀ (N : XM) (ρ : XR), Geo L b1 b2 N → CR 21 ρ N → f_X4_drawThousandth 21 N = some (d (g (r_seed ρ)), x_wi N 21 9 (g (r_seed ρ)))) (hQ : Q ≤ 810000) (hq4 : 400 ≤ Q) (m : Nat) : ∀ (n j : Nat) (ρ : XR) (M : XM), m < n → Geo L b1 b2 M → CR 21 ρ M → WF Q ρ → (∀ c, c < j → r_q ρ 3 c = 0) → j + m = r_s ρ 0 →
    ∃ M', lp_X4_passEvening_2 n 21 (nI j) M = some M' ∧ Geo L b1 b2 M' ∧ CR 21 (r_sc g d 60 (r_ans m ρ j)) M' ∧ Agr 0 21 M M' ∧ Agr 30 105 M M' := by
  induction m with
  | zero =>
    intro n j ρ M hn hG hR hw h0 hj
    obtain ⟨n, rfl⟩ : ∃ i, n = i + 1 := ⟨n - 1, by omega⟩
    have e0 := hR.1.1
    have w0 := hw.1.1
    obtain ⟨M1, k1, k2, k3, k4, k5⟩ := c_sc (b1 := b1) (b2 := b2) (L := L) hD hQ 60 x_fuel 0 0 ρ M (fu (by omega)) hG hR ⟨hw, fun c hc => by rw [h0 c (by omega)]; omega⟩ (by omega) (by omega)
    refine ⟨M1, ?_, k2, k3, k4, k5⟩
    rw [s_lp_X4_passEvening_2, show j = r_s ρ 0 by omega]
    simp (disch := first | assumption | omega) only [bd_X4_passEvening_2, gt_21, l_of, n_ltT, n_ltF, n_leT, n_leF, n_eqT, n_eqF, n_neM, n_Mne, n_M0, n_Mlt, n_0leM, nI_clamp, x_in_nI, n_1, nI_add, x_at, x_bd_s, x_bv_s, ↓x_lt, decide_true, decide_false, Bool.and_self, Bool.true_and, Bool.and_true, if_true, if_false, ite_true, ite_false, ↓reduceIte, not_true_eq_false, not_false_eq_true, Nat.reduceAdd, Nat.reduceMul, Nat.reduceEqDiff, eq_self, true_and, and_true, false_and, and_false, Option.some.injEq, Prod.mk.injEq, l_0, l_1, l_2, l_3, l_4, l_5, l_6, l_7, l_8, l_9, l_10, l_100, l_160, ↓m_1, ↓m_2, ↓m_3, ↓m_4, ↓m_5, ↓m_6, ↓m_7, e0]
    exact k1
  | succ m ih =>
    intro n j ρ M hn hG hR hw h0 hj
    obtain ⟨n, rfl⟩ : ∃ i, n = i + 1 := ⟨n - 1, by omega⟩
    have e0 := hR.1.1
    have w0 := hw.1.1
    obtain ⟨M2, g1, g2, g3, g4, g5⟩ := ih n (j + 1) (r_an ρ j) (x_wi (x_wi (x_wi M (21 + 3 + j) 2 (nI 0)) (21 + 3 + j) 3 (nI 0)) (21 + 3 + j) 4 (nI 0)) (by omega) hG (((hR.q2 j 0 (by omega)).o j _ (by omega)).q3 j 0 (by omega)) (hw.an j) (fun c hc => by
      unfold r_an
      rw [rq_wq]
      split
      · rfl
      · rw [rq_wo, rq_wq, if_neg (by omega)]; exact h0 c (by omega)) (by rw [an_s]; omega)
    have a1 : Agr 0 21 M (x_wi (x_wi (x_wi M (21 + 3 + j) 2 (nI 0)) (21 + 3 + j) 3 (nI 0)) (21 + 3 + j) 4 (nI 0)) := ((Agr.rf.wi (by omega)).wi (by omega)).wi (by omega)
    have a2 : Agr 30 105 M (x_wi (x_wi (x_wi M (21 + 3 + j) 2 (nI 0)) (21 + 3 + j) 3 (nI 0)) (21 + 3 + j) 4 (nI 0)) := ((Agr.rf.wi (by omega)).wi (by omega)).wi (by omega)
    refine ⟨M2, ?_, g2, g3, a1.tr g4, a2.tr g5⟩
    rw [s_lp_X4_passEvening_2]
    simp (disch := first | assumption | omega) only [bd_X4_passEvening_2, f_X4_passEvening_c16, f_X2_beginAgain, gt_21, gr_21_0, gt_22, gl_22, gc_22, gct_24, l_of, n_ltT, n_ltF, n_leT, n_leF, n_eqT, n_eqF, n_neM, n_Mne, n_M0, n_Mlt, n_0leM, nI_clamp, x_in_nI, n_1, nI_add, x_at, x_bd_s, x_bv_s, ↓x_lt, decide_true, decide_false, Bool.and_self, Bool.true_and, Bool.and_true, if_true, if_false, ite_true, ite_false, ↓reduceIte, not_true_eq_false, not_false_eq_true, Nat.reduceAdd, Nat.reduceMul, Nat.reduceEqDiff, eq_self, true_and, and_true, false_and, and_false, Option.some.injEq, Prod.mk.injEq, l_0, l_1, l_2, l_3, l_4, l_5, l_6, l_7, l_8, l_9, l_10, l_100, l_160, ↓m_1, ↓m_2, ↓m_3, ↓m_4, ↓m_5, ↓m_6, ↓m_7, ii_wi, ji_wi, ri_wi, ti_wi, li_wi, ii_wj, ji_wj, ri_wj, ti_wj, li_wj, e0]
    exact g1
theorem c_evs {Q : Nat} (hD : ∀ (N : XM) (ρ : XR), Geo L b1 b2 N → CR 21 ρ N → f_X4_drawThousandth 21 N = some (d (g (r_seed ρ)), x_wi N 21 9 (g (r_seed ρ)))) (hQ : Q ≤ 810000) (hq4 : 400 ≤ Q) {v : Int32} (m : Nat) : ∀ (n j : Nat) (ρ : XR) (M : XM), m < n → Geo L b1 b2 M → CR 21 ρ M → WF Q ρ → j + m ≤ 5 →
    ∃ M', lp_X8_evenings_44 n 20 (nI (j + m)) v (nI j) M = some (r_done (r_evs g d m ρ) - v, M') ∧ Geo L b1 b2 M' ∧ CR 21 (r_evs g d m ρ) M' ∧ Agr 0 21 M M' ∧ Agr 30 105 M M' := by
  induction m with
  | zero =>
    intro n j ρ M hn hG hR hw hj
    obtain ⟨n, rfl⟩ : ∃ i, n = i + 1 := ⟨n - 1, by omega⟩
    have e6 := hR.1.2.2.2.2.2.2.1
    refine ⟨M, ?_, hG, hR, Agr.rf, Agr.rf⟩
    rw [s_lp_X8_evenings_44]
    simp (disch := first | assumption | omega) only [bd_X8_evenings_44, gt_20, gr_20_0, gt_21, l_of, n_ltT, n_ltF, n_leT, n_leF, n_eqT, n_eqF, n_neM, n_Mne, n_M0, n_Mlt, n_0leM, nI_clamp, x_in_nI, n_1, nI_add, x_at, x_bd_s, x_bv_s, ↓x_lt, decide_true, decide_false, Bool.and_self, Bool.true_and, Bool.and_true, if_true, if_false, ite_true, ite_false, ↓reduceIte, not_true_eq_false, not_false_eq_true, Nat.reduceAdd, Nat.reduceMul, Nat.reduceEqDiff, eq_self, true_and, and_true, false_and, and_false, Option.some.injEq, Prod.mk.injEq, l_0, l_1, l_2, l_3, l_4, l_5, l_6, l_7, l_8, l_9, l_10, l_100, l_160, ↓m_1, ↓m_2, ↓m_3, ↓m_4, ↓m_5, ↓m_6, ↓m_7, e6, Nat.add_zero]
    rfl
  | succ m ih =>
    intro n j ρ M hn hG hR hw hj
    obtain ⟨n, rfl⟩ : ∃ i, n = i + 1 := ⟨n - 1, by omega⟩
    have w0 := hw.1.1
    obtain ⟨M1, k1, k2, k3, k4, k5⟩ := c_ev (b1 := b1) (b2 := b2) (L := L) hD hQ hq4 (r_s ρ 0) x_fuel 0 ρ M (fu (by omega)) hG hR hw (fun c hc => absurd hc (by omega)) (by omega)
    obtain ⟨M2, g1, g2, g3, g4, g5⟩ := ih n (j + 1) (r_ev g d ρ) M1 (by omega) k2 k3 (hw.ev hq4) (by omega)
    refine ⟨M2, ?_, g2, g3, k4.tr g4, k5.tr g5⟩
    rw [show j + 1 + m = j + (m + 1) by omega] at g1
    rw [s_lp_X8_evenings_44]
    simp (disch := first | assumption | omega) only [bd_X8_evenings_44, f_X8_evenings_c53, f_X4_passEvening, gt_20, gr_20_0, gt_21, l_of, n_ltT, n_ltF, n_leT, n_leF, n_eqT, n_eqF, n_neM, n_Mne, n_M0, n_Mlt, n_0leM, nI_clamp, x_in_nI, n_1, nI_add, x_at, x_bd_s, x_bv_s, ↓x_lt, decide_true, decide_false, Bool.and_self, Bool.true_and, Bool.and_true, if_true, if_false, ite_true, ite_false, ↓reduceIte, not_true_eq_false, not_false_eq_true, Nat.reduceAdd, Nat.reduceMul, Nat.reduceEqDiff, eq_self, true_and, and_true, false_and, and_false, Option.some.injEq, Prod.mk.injEq, l_0, l_1, l_2, l_3, l_4, l_5, l_6, l_7, l_8, l_9, l_10, l_100, l_160, ↓m_1, ↓m_2, ↓m_3, ↓m_4, ↓m_5, ↓m_6, ↓m_7, k1]
    exact g1
end
end
