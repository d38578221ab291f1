/-! the class's tables: ABOVE, LEAST, MOST -/
def CT (M : XM) : Prop := (x_i M 2 0 = nM 1 ∧ x_i M 2 1 = nI 0 ∧ x_i M 2 2 = nI 0 ∧ x_i M 2 3 = nI 2 ∧ x_i M 2 4 = nI 0 ∧ x_i M 2 5 = nI 1 ∧ x_i M 2 6 = nI 4) ∧
  (x_i M 3 0 = nI 1 ∧ x_i M 3 1 = nI 1 ∧ x_i M 3 2 = nI 0 ∧ x_i M 3 3 = nI 0) ∧ x_i M 4 0 = nI 200 ∧ x_i M 4 1 = nI 200 ∧ x_i M 4 2 = nI 1000 ∧ x_i M 4 3 = nI 99
theorem CT.ag {M M' : XM} (h : CT M) (g : Agr 0 20 M M') : CT M' := by
  obtain ⟨⟨h0, h1, h2, h3, h4, h5, h6⟩, ⟨g0, g1, g2, g3⟩, k0, k1, k2, k3⟩ := h
  exact ⟨⟨(g.i _ (by omega) (by omega)).trans h0, (g.i _ (by omega) (by omega)).trans h1, (g.i _ (by omega) (by omega)).trans h2, (g.i _ (by omega) (by omega)).trans h3, (g.i _ (by omega) (by omega)).trans h4, (g.i _ (by omega) (by omega)).trans h5, (g.i _ (by omega) (by omega)).trans h6⟩,
    ⟨(g.i _ (by omega) (by omega)).trans g0, (g.i _ (by omega) (by omega)).trans g1, (g.i _ (by omega) (by omega)).trans g2, (g.i _ (by omega) (by omega)).trans g3⟩,
    (g.i _ (by omega) (by omega)).trans k0, (g.i _ (by omega) (by omega)).trans k1, (g.i _ (by omega) (by omega)).trans k2, (g.i _ (by omega) (by omega)).trans k3⟩
/-- a call on the class's side that reads the tables -/
def OpCT {α : Type} (f : XM → Option (α × XM)) (σ : XS) (r : α) (σ' : XS) : Prop := ∀ (L : Nat) (b1 b2 : Bool) (M : XM), Geo L b1 b2 M → CInv σ M → CT M → ∃ (M' : XM) (b1' b2' : Bool), f M = some (r, M') ∧ Geo L b1' b2' M' ∧ CInv σ' M' ∧ Agr 0 20 M M' ∧ Agr 83 105 M M'
/-- KINDS under a KIND -/
def und (kd t : Nat) : Bool := t == 0 || t == kd || (t == 1 && kd == 5) || (t == 2 && kd == 3) || (t == 4 && kd == 6)
theorem fu_8 : x_fuel = 999992 + 1 + 1 + 1 + 1 + 1 + 1 + 1 + 1 := rfl
set_option maxHeartbeats 4000000 in
theorem c_under {L : Nat} {b1 b2 : Bool} {M : XM} {kd t : Nat} (hG : Geo L b1 b2 M) (hT : CT M) (hk : kd ≤ 6) (ht : t ≤ 6) : f_X8_isUnder (nI kd) (nI t) M = some (if und kd t = true then nI 1 else nI 0, M) := by
  obtain ⟨⟨h0, h1, h2, h3, h4, h5, h6⟩, -⟩ := hT
  rw [f_X8_isUnder, fu_8]
  rcases (by omega : kd = 0 ∨ kd = 1 ∨ kd = 2 ∨ kd = 3 ∨ kd = 4 ∨ kd = 5 ∨ kd = 6) with rfl | rfl | rfl | rfl | rfl | rfl | rfl <;>
  rcases (by omega : t = 0 ∨ t = 1 ∨ t = 2 ∨ t = 3 ∨ t = 4 ∨ t = 5 ∨ t = 6) with rfl | rfl | rfl | rfl | rfl | rfl | rfl <;>
  simp (disch := first | assumption | omega) only [s_lp_X8_isUnder_4, bd_X8_isUnder_4, f_X8_isUnder_c20, f_X8_above, f_X8_above_c1, f_X8_isKind, gt_2, gl_2, l_of, n_ltT, n_ltF, n_leT, n_leF, n_eqT, n_eqF, n_neM, n_Mne, n_M0, n_Mlt, n_0leM, nI_clamp, x_in_nI, n_1, nI_add, x_at, x_bd_s, x_bv_s, ↓x_lt, decide_true, decide_false, Bool.and_self, Bool.true_and, Bool.and_true, if_true, if_false, ite_true, ite_false, ↓reduceIte, not_true_eq_false, not_false_eq_true, Nat.reduceAdd, Nat.reduceMul, Nat.reduceEqDiff, eq_self, true_and, and_true, false_and, and_false, Option.some.injEq, Prod.mk.injEq, l_0, l_1, l_2, l_3, l_4, l_5, l_6, l_7, l_8, l_9, l_10, l_100, l_160, ↓m_1, ↓m_2, ↓m_3, ↓m_4, ↓m_5, ↓m_6, ↓m_7, h0, h1, h2, h3, h4, h5, h6, und, Nat.reduceBEq, Bool.true_or, Bool.or_true, Bool.or_false, Bool.false_or, Bool.false_and, Bool.and_false, Bool.or_self, Bool.false_eq_true]
