/-! the reference's reader -/
def QS (T : Nat → Int32) (n κ p : Nat) (M : XM) : Prop := x_i M 83 24 = nI (160 * κ) ∧ x_i M 83 25 = nI p ∧ x_i M 83 26 = nI n ∧ ∀ i, i < n → (x_j M 95 (160 * κ + i)).toInt32 = T i
abbrev PR : Nat → Nat → Prop := fun a k => a = 83 ∧ 25 ≤ k ∧ k < 29 ∧ k ≠ 26
def tb97 (k : Nat) : Nat := ([99, 111, 117, 110, 116, 101, 114, 32, 0, 116, 111, 32, 0, 97, 112, 97, 114, 116, 32, 0, 111, 100, 100, 115, 32, 0, 99, 111, 115, 116, 32, 0, 116, 97, 108, 108, 121, 32, 0, 97, 115, 107, 32, 0] : List Nat).getD k 0
def zb : Nat → Nat
  | 0 => 0
  | k + 1 => zb k + if tb97 k = 0 then 1 else 0
section
variable {L : Nat} {b1 b2 : Bool} {M : XM} {T : Nat → Int32} {n κ : Nat}
theorem tb_w : ∀ w : Fin 7, (∀ j : Fin 8, j.1 < nl (kw w.1) → tb97 (ow w.1 + j.1) = nc (kw w.1) j.1) ∧ tb97 (ow w.1 + nl (kw w.1)) = 32 ∧ tb97 (ow w.1 + nl (kw w.1) + 1) = 0 ∧ ow w.1 + nl (kw w.1) + 1 < 44 ∧ (w.1 < 6 → ow (w.1 + 1) = ow w.1 + nl (kw w.1) + 2) := by decide
theorem tb_n {w j : Nat} (hw : w < 7) (hj : j < nl (kw w)) : tb97 (ow w + j) = nc (kw w) j := (tb_w ⟨w, hw⟩).1 ⟨j, by have := nl_b (kw w); omega⟩ hj
theorem tb_s {w : Nat} (hw : w < 7) : tb97 (ow w + nl (kw w)) = 32 ∧ tb97 (ow w + nl (kw w) + 1) = 0 ∧ ow w + nl (kw w) + 1 < 44 ∧ (w < 6 → ow (w + 1) = ow w + nl (kw w) + 2) := (tb_w ⟨w, hw⟩).2
theorem tb_b : ∀ k : Fin 45, tb97 k.1 < 128 := by decide
theorem mw_t (hMW : MW M) {k : Nat} (hk : k < 45) : x_i M 97 k = nI (tb97 k) ∧ tb97 k < 128 := ⟨hMW k hk, tb_b ⟨k, hk⟩⟩
theorem m_dig {p : Nat} (hG : Geo L b1 b2 M) (hQ : QS T n κ p M) (hn : n ≤ 160) (hκ : κ < 8) (hp : p ≤ n) : f_X9_isDigit 83 M = some (if isd T n p then nI 1 else nI 0, M) := by
  obtain ⟨r0, r1, r2, r3⟩ := id hQ
  by_cases q1 : p < n
  · have y := r3 p q1
    by_cases q2 : T p < nI 48
    · rw [if_neg (fun z => by have := dg_0 q2; omega)]
      simp (disch := first | assumption | omega) only [f_X9_isDigit, gt_83, gr_83_20, gt_95, gl_95, r0, r1, r2, nI_add, y, l_48, l_57, q2, l_of, n_ltT, n_ltF, n_leT, n_leF, n_eqT, n_eqF, n_neM, n_Mne, n_M0, n_Mlt, n_0leM, nI_clamp, x_in_nI, n_1, nI_add, x_at, x_bd_s, x_bv_s, ↓x_lt, decide_true, decide_false, Bool.and_self, Bool.true_and, Bool.and_true, if_true, if_false, ite_true, ite_false, ↓reduceIte, not_true_eq_false, not_false_eq_true, Nat.reduceAdd, Nat.reduceMul, Nat.reduceEqDiff, eq_self, true_and, and_true, false_and, and_false, Option.some.injEq, Prod.mk.injEq, l_0, l_1, l_2, l_3, l_4, l_5, l_6, l_7, l_8, l_9, l_10, l_100, l_160, ↓m_1, ↓m_2, ↓m_3, ↓m_4, ↓m_5, ↓m_6, ↓m_7]
    by_cases q3 : nI 57 < T p
    · rw [if_neg (fun z => by have := dg_1 q3; omega)]
      simp (disch := first | assumption | omega) only [f_X9_isDigit, gt_83, gr_83_20, gt_95, gl_95, r0, r1, r2, nI_add, y, l_48, l_57, q2, q3, l_of, n_ltT, n_ltF, n_leT, n_leF, n_eqT, n_eqF, n_neM, n_Mne, n_M0, n_Mlt, n_0leM, nI_clamp, x_in_nI, n_1, nI_add, x_at, x_bd_s, x_bv_s, ↓x_lt, decide_true, decide_false, Bool.and_self, Bool.true_and, Bool.and_true, if_true, if_false, ite_true, ite_false, ↓reduceIte, not_true_eq_false, not_false_eq_true, Nat.reduceAdd, Nat.reduceMul, Nat.reduceEqDiff, eq_self, true_and, and_true, false_and, and_false, Option.some.injEq, Prod.mk.injEq, l_0, l_1, l_2, l_3, l_4, l_5, l_6, l_7, l_8, l_9, l_10, l_100, l_160, ↓m_1, ↓m_2, ↓m_3, ↓m_4, ↓m_5, ↓m_6, ↓m_7]
    · have hd : 48 ≤ dg T p ∧ dg T p ≤ 57 := by
        unfold dg
        rcases i_cs (T p) with w | ⟨j, jb, w⟩
        · exfalso
          refine q2 ?_
          rw [Int32.lt_iff_toInt_lt, nI_toInt (by omega)] at w ⊢
          omega
        · rw [w] at q2 q3 ⊢
          rw [nI_clamp (by omega)]
          rw [Int32.lt_iff_toInt_lt, nI_toInt (by omega), nI_toInt (by omega)] at q2 q3
          omega
      rw [if_pos ⟨q1, hd⟩]
      simp (disch := first | assumption | omega) only [f_X9_isDigit, gt_83, gr_83_20, gt_95, gl_95, r0, r1, r2, nI_add, y, l_48, l_57, q2, q3, l_of, n_ltT, n_ltF, n_leT, n_leF, n_eqT, n_eqF, n_neM, n_Mne, n_M0, n_Mlt, n_0leM, nI_clamp, x_in_nI, n_1, nI_add, x_at, x_bd_s, x_bv_s, ↓x_lt, decide_true, decide_false, Bool.and_self, Bool.true_and, Bool.and_true, if_true, if_false, ite_true, ite_false, ↓reduceIte, not_true_eq_false, not_false_eq_true, Nat.reduceAdd, Nat.reduceMul, Nat.reduceEqDiff, eq_self, true_and, and_true, false_and, and_false, Option.some.injEq, Prod.mk.injEq, l_0, l_1, l_2, l_3, l_4, l_5, l_6, l_7, l_8, l_9, l_10, l_100, l_160, ↓m_1, ↓m_2, ↓m_3, ↓m_4, ↓m_5, ↓m_6, ↓m_7]
  · rw [if_neg (fun z => q1 z.1)]
    simp (disch := first | assumption | omega) only [f_X9_isDigit, gt_83, gr_83_20, gt_95, gl_95, r0, r1, r2, nI_add, l_of, n_ltT, n_ltF, n_leT, n_leF, n_eqT, n_eqF, n_neM, n_Mne, n_M0, n_Mlt, n_0leM, nI_clamp, x_in_nI, n_1, nI_add, x_at, x_bd_s, x_bv_s, ↓x_lt, decide_true, decide_false, Bool.and_self, Bool.true_and, Bool.and_true, if_true, if_false, ite_true, ite_false, ↓reduceIte, not_true_eq_false, not_false_eq_true, Nat.reduceAdd, Nat.reduceMul, Nat.reduceEqDiff, eq_self, true_and, and_true, false_and, and_false, Option.some.injEq, Prod.mk.injEq, l_0, l_1, l_2, l_3, l_4, l_5, l_6, l_7, l_8, l_9, l_10, l_100, l_160, ↓m_1, ↓m_2, ↓m_3, ↓m_4, ↓m_5, ↓m_6, ↓m_7]
theorem QS.fr {p p' : Nat} {P : Nat → Nat → Prop} {M' : XM} (h : QS T n κ p M) (f : Fr P M M') (hP : ¬ P 83 24 ∧ ¬ P 83 26) (hp : x_i M' 83 25 = nI p') : QS T n κ p' M' := by
  obtain ⟨r0, r1, r2, r3⟩ := h
  exact ⟨(f.1 _ _ hP.1).trans r0, hp, (f.1 _ _ hP.2).trans r2, fun i hi => by rw [f.2]; exact r3 i hi⟩
theorem m_num_lp {s : Nat} (hn : n ≤ 160) (hκ : κ < 8) (d : Nat) : ∀ (F p v : Nat) (M : XM), d < F → Geo L b1 b2 M → QS T n κ p M → x_i M 83 27 = nI v → p ≤ n → p + d = s + 4 → s ≤ p → v < 10 ^ (p - s) →
    ∃ M', lp_X9_number_23 F 83 (nI (p - s)) M = some (nI 1, M') ∧ Geo L b1 b2 M' ∧ QS T n κ (nu T n d p v).1 M' ∧ x_i M' 83 27 = nI (nu T n d p v).2 ∧ Fr PR M M' := by
  induction d with
  | zero =>
    intro F p v M hF hG hQ h27 hp hd hs hv
    obtain ⟨F, rfl⟩ : ∃ i, F = i + 1 := ⟨F - 1, by omega⟩
    refine ⟨M, ?_, hG, hQ, h27, Fr.rf⟩
    rw [s_lp_X9_number_23, show p - s = 4 by omega]
    simp (disch := first | assumption | omega) only [bd_X9_number_23, l_of, n_ltT, n_ltF, n_leT, n_leF, n_eqT, n_eqF, n_neM, n_Mne, n_M0, n_Mlt, n_0leM, nI_clamp, x_in_nI, n_1, nI_add, x_at, x_bd_s, x_bv_s, ↓x_lt, decide_true, decide_false, Bool.and_self, Bool.true_and, Bool.and_true, if_true, if_false, ite_true, ite_false, ↓reduceIte, not_true_eq_false, not_false_eq_true, Nat.reduceAdd, Nat.reduceMul, Nat.reduceEqDiff, eq_self, true_and, and_true, false_and, and_false, Option.some.injEq, Prod.mk.injEq, l_0, l_1, l_2, l_3, l_4, l_5, l_6, l_7, l_8, l_9, l_10, l_100, l_160, ↓m_1, ↓m_2, ↓m_3, ↓m_4, ↓m_5, ↓m_6, ↓m_7]
  | succ d ih =>
    intro F p v M hF hG hQ h27 hp hd hs hv
    obtain ⟨F, rfl⟩ : ∃ i, F = i + 1 := ⟨F - 1, by omega⟩
    obtain ⟨r0, r1, r2, r3⟩ := id hQ
    have hb : v < 10000 := by
      rcases (by omega : p - s = 0 ∨ p - s = 1 ∨ p - s = 2 ∨ p - s = 3) with k | k | k | k <;> rw [k] at hv <;> omega
    have hd := m_dig hG hQ hn hκ hp
    rw [s_lp_X9_number_23]
    unfold nu
    by_cases q : isd T n p
    · rw [if_pos q] at hd ⊢
      obtain ⟨q1, q2, q3⟩ := q
      obtain ⟨t1, t2⟩ := dg_n (T := T) (p := p) (by omega)
      have y := r3 p q1
      rw [t1] at y
      have f0 : Fr PR M (x_wi (x_wi M 83 27 (nI (v * 10 + dg T p - 48))) 83 25 (nI (p + 1))) := (Fr.rf.wi (by omega)).wi (by omega)
      obtain ⟨M2, g1, g2, g3, g4, g5⟩ := ih F (p + 1) (v * 10 + dg T p - 48) (x_wi (x_wi M 83 27 (nI (v * 10 + dg T p - 48))) 83 25 (nI (p + 1))) (by omega) hG (hQ.fr f0 (by omega) (by simp (disch := first | assumption | omega) only [ii_wi, ji_wi, ri_wi, ti_wi, li_wi, ii_wj, ji_wj, ri_wj, ti_wj, li_wj, l_of, n_ltT, n_ltF, n_leT, n_leF, n_eqT, n_eqF, n_neM, n_Mne, n_M0, n_Mlt, n_0leM, nI_clamp, x_in_nI, n_1, nI_add, x_at, x_bd_s, x_bv_s, ↓x_lt, decide_true, decide_false, Bool.and_self, Bool.true_and, Bool.and_true, if_true, if_false, ite_true, ite_false, ↓reduceIte, not_true_eq_false, not_false_eq_true, Nat.reduceAdd, Nat.reduceMul, Nat.reduceEqDiff, eq_self, true_and, and_true, false_and, and_false, Option.some.injEq, Prod.mk.injEq, l_0, l_1, l_2, l_3, l_4, l_5, l_6, l_7, l_8, l_9, l_10, l_100, l_160, ↓m_1, ↓m_2, ↓m_3, ↓m_4, ↓m_5, ↓m_6, ↓m_7])) (by simp (disch := first | assumption | omega) only [ii_wi, ji_wi, ri_wi, ti_wi, li_wi, ii_wj, ji_wj, ri_wj, ti_wj, li_wj, l_of, n_ltT, n_ltF, n_leT, n_leF, n_eqT, n_eqF, n_neM, n_Mne, n_M0, n_Mlt, n_0leM, nI_clamp, x_in_nI, n_1, nI_add, x_at, x_bd_s, x_bv_s, ↓x_lt, decide_true, decide_false, Bool.and_self, Bool.true_and, Bool.and_true, if_true, if_false, ite_true, ite_false, ↓reduceIte, not_true_eq_false, not_false_eq_true, Nat.reduceAdd, Nat.reduceMul, Nat.reduceEqDiff, eq_self, true_and, and_true, false_and, and_false, Option.some.injEq, Prod.mk.injEq, l_0, l_1, l_2, l_3, l_4, l_5, l_6, l_7, l_8, l_9, l_10, l_100, l_160, ↓m_1, ↓m_2, ↓m_3, ↓m_4, ↓m_5, ↓m_6, ↓m_7]) (by omega) (by omega) (by omega) (by
        rw [show p + 1 - s = p - s + 1 by omega, Nat.pow_succ]; omega)
      refine ⟨M2, ?_, g2, g3, g4, f0.tr g5⟩
      have z1 : nI 10 * nI v = nI (v * 10) := by rw [Nat.mul_comm]; exact pk_mul _ _
      have z2 : nI (v * 10) + nI (dg T p) = nI (v * 10 + dg T p) := nI_add _ _
      have z3 : nI (v * 10 + dg T p) - nI 48 = nI (v * 10 + dg T p - 48) := pk_sub (by omega)
      have z4 : nI (p - s) + nI 1 = nI (p + 1 - s) := by rw [nI_add, show p - s + 1 = p + 1 - s by omega]
      have y25 : ∀ w, x_i (x_wi M 83 27 w) 83 25 = nI p := fun w => by rw [ii_wi, if_neg (by omega)]; exact r1
      simp (disch := first | assumption | omega) only [bd_X9_number_23, f_X9_number_c29, gt_83, gr_83_20, gt_95, gl_95, hd, r0, r1, h27, z1, z2, z3, z4, nI_add, y, l_48, y25, ti_wi, l_of, n_ltT, n_ltF, n_leT, n_leF, n_eqT, n_eqF, n_neM, n_Mne, n_M0, n_Mlt, n_0leM, nI_clamp, x_in_nI, n_1, nI_add, x_at, x_bd_s, x_bv_s, ↓x_lt, decide_true, decide_false, Bool.and_self, Bool.true_and, Bool.and_true, if_true, if_false, ite_true, ite_false, ↓reduceIte, not_true_eq_false, not_false_eq_true, Nat.reduceAdd, Nat.reduceMul, Nat.reduceEqDiff, eq_self, true_and, and_true, false_and, and_false, Option.some.injEq, Prod.mk.injEq, l_0, l_1, l_2, l_3, l_4, l_5, l_6, l_7, l_8, l_9, l_10, l_100, l_160, ↓m_1, ↓m_2, ↓m_3, ↓m_4, ↓m_5, ↓m_6, ↓m_7]
      exact g1
    · rw [if_neg q] at hd ⊢
      refine ⟨M, ?_, hG, hQ, h27, Fr.rf⟩
      simp (disch := first | assumption | omega) only [bd_X9_number_23, f_X9_number_c29, gt_83, hd, l_of, n_ltT, n_ltF, n_leT, n_leF, n_eqT, n_eqF, n_neM, n_Mne, n_M0, n_Mlt, n_0leM, nI_clamp, x_in_nI, n_1, nI_add, x_at, x_bd_s, x_bv_s, ↓x_lt, decide_true, decide_false, Bool.and_self, Bool.true_and, Bool.and_true, if_true, if_false, ite_true, ite_false, ↓reduceIte, not_true_eq_false, not_false_eq_true, Nat.reduceAdd, Nat.reduceMul, Nat.reduceEqDiff, eq_self, true_and, and_true, false_and, and_false, Option.some.injEq, Prod.mk.injEq, l_0, l_1, l_2, l_3, l_4, l_5, l_6, l_7, l_8, l_9, l_10, l_100, l_160, ↓m_1, ↓m_2, ↓m_3, ↓m_4, ↓m_5, ↓m_6, ↓m_7]
theorem m_number {p : Nat} (hG : Geo L b1 b2 M) (hQ : QS T n κ p M) (hn : n ≤ 160) (hκ : κ < 8) (hp : p ≤ n) :
    ∃ M', f_X9_number 83 M = some (if ne T n p = p then nI 0 else nI 1, M') ∧ Geo L b1 b2 M' ∧ QS T n κ (ne T n p) M' ∧ Fr PR M M' ∧ (ne T n p = p → x_i M' 83 28 = nI p) ∧ (ne T n p ≠ p → x_i M' 83 27 = nI (nv T n p)) := by
  have f0 : Fr PR M (x_wi M 83 27 (nI 0)) := Fr.rf.wi (by omega)
  have hG0 : Geo L b1 b2 (x_wi M 83 27 (nI 0)) := hG
  have r1 : x_i (x_wi M 83 27 (nI 0)) 83 25 = nI p := by rw [ii_wi, if_neg (by omega)]; exact hQ.2.1
  have hQ0 : QS T n κ p (x_wi M 83 27 (nI 0)) := hQ.fr f0 (by omega) r1
  have hd := m_dig hG0 hQ0 hn hκ hp
  by_cases q : isd T n p
  · have hne : ne T n p ≠ p := by
      have h := (nu_b (T := T) (n := n) 3 (p + 1) (0 * 10 + dg T p - 48) 100 (by omega)).1
      have e : nu T n 4 p 0 = nu T n 3 (p + 1) (0 * 10 + dg T p - 48) := if_pos q
      unfold ne
      rw [e]
      omega
    rw [if_pos q] at hd
    rw [if_neg hne]
    obtain ⟨M2, g1, g2, g3, g4, g5⟩ := m_num_lp (s := p) (L := L) (b1 := b1) (b2 := b2) hn hκ 4 x_fuel p 0 (x_wi M 83 27 (nI 0)) (fu (by omega)) hG0 hQ0 (by simp (disch := first | assumption | omega) only [ii_wi, ji_wi, ri_wi, ti_wi, li_wi, ii_wj, ji_wj, ri_wj, ti_wj, li_wj, l_of, n_ltT, n_ltF, n_leT, n_leF, n_eqT, n_eqF, n_neM, n_Mne, n_M0, n_Mlt, n_0leM, nI_clamp, x_in_nI, n_1, nI_add, x_at, x_bd_s, x_bv_s, ↓x_lt, decide_true, decide_false, Bool.and_self, Bool.true_and, Bool.and_true, if_true, if_false, ite_true, ite_false, ↓reduceIte, not_true_eq_false, not_false_eq_true, Nat.reduceAdd, Nat.reduceMul, Nat.reduceEqDiff, eq_self, true_and, and_true, false_and, and_false, Option.some.injEq, Prod.mk.injEq, l_0, l_1, l_2, l_3, l_4, l_5, l_6, l_7, l_8, l_9, l_10, l_100, l_160, ↓m_1, ↓m_2, ↓m_3, ↓m_4, ↓m_5, ↓m_6, ↓m_7]) hp rfl (Nat.le_refl _) (by rw [Nat.sub_self]; omega)
    rw [Nat.sub_self] at g1
    refine ⟨M2, ?_, g2, g3, f0.tr g5, fun z => absurd z hne, fun _ => g4⟩
    simp (disch := first | assumption | omega) only [f_X9_number, f_X9_number_c6, gt_83, hd, ti_wi, l_of, n_ltT, n_ltF, n_leT, n_leF, n_eqT, n_eqF, n_neM, n_Mne, n_M0, n_Mlt, n_0leM, nI_clamp, x_in_nI, n_1, nI_add, x_at, x_bd_s, x_bv_s, ↓x_lt, decide_true, decide_false, Bool.and_self, Bool.true_and, Bool.and_true, if_true, if_false, ite_true, ite_false, ↓reduceIte, not_true_eq_false, not_false_eq_true, Nat.reduceAdd, Nat.reduceMul, Nat.reduceEqDiff, eq_self, true_and, and_true, false_and, and_false, Option.some.injEq, Prod.mk.injEq, l_0, l_1, l_2, l_3, l_4, l_5, l_6, l_7, l_8, l_9, l_10, l_100, l_160, ↓m_1, ↓m_2, ↓m_3, ↓m_4, ↓m_5, ↓m_6, ↓m_7]
    exact g1
  · have e : nu T n 4 p 0 = (p, 0) := if_neg q
    have hne : ne T n p = p := by unfold ne; rw [e]
    rw [if_neg q] at hd
    rw [if_pos hne]
    have f1 : Fr PR M (x_wi (x_wi M 83 27 (nI 0)) 83 28 (nI p)) := f0.wi (by omega)
    refine ⟨x_wi (x_wi M 83 27 (nI 0)) 83 28 (nI p), ?_, hG, hQ.fr f1 (by omega) (by rw [hne]; simp (disch := first | assumption | omega) only [ii_wi, ji_wi, ri_wi, ti_wi, li_wi, ii_wj, ji_wj, ri_wj, ti_wj, li_wj, l_of, n_ltT, n_ltF, n_leT, n_leF, n_eqT, n_eqF, n_neM, n_Mne, n_M0, n_Mlt, n_0leM, nI_clamp, x_in_nI, n_1, nI_add, x_at, x_bd_s, x_bv_s, ↓x_lt, decide_true, decide_false, Bool.and_self, Bool.true_and, Bool.and_true, if_true, if_false, ite_true, ite_false, ↓reduceIte, not_true_eq_false, not_false_eq_true, Nat.reduceAdd, Nat.reduceMul, Nat.reduceEqDiff, eq_self, true_and, and_true, false_and, and_false, Option.some.injEq, Prod.mk.injEq, l_0, l_1, l_2, l_3, l_4, l_5, l_6, l_7, l_8, l_9, l_10, l_100, l_160, ↓m_1, ↓m_2, ↓m_3, ↓m_4, ↓m_5, ↓m_6, ↓m_7]; exact hQ.2.1), f1, fun _ => by simp (disch := first | assumption | omega) only [ii_wi, ji_wi, ri_wi, ti_wi, li_wi, ii_wj, ji_wj, ri_wj, ti_wj, li_wj, l_of, n_ltT, n_ltF, n_leT, n_leF, n_eqT, n_eqF, n_neM, n_Mne, n_M0, n_Mlt, n_0leM, nI_clamp, x_in_nI, n_1, nI_add, x_at, x_bd_s, x_bv_s, ↓x_lt, decide_true, decide_false, Bool.and_self, Bool.true_and, Bool.and_true, if_true, if_false, ite_true, ite_false, ↓reduceIte, not_true_eq_false, not_false_eq_true, Nat.reduceAdd, Nat.reduceMul, Nat.reduceEqDiff, eq_self, true_and, and_true, false_and, and_false, Option.some.injEq, Prod.mk.injEq, l_0, l_1, l_2, l_3, l_4, l_5, l_6, l_7, l_8, l_9, l_10, l_100, l_160, ↓m_1, ↓m_2, ↓m_3, ↓m_4, ↓m_5, ↓m_6, ↓m_7], fun z => absurd hne z⟩
    simp (disch := first | assumption | omega) only [f_X9_number, f_X9_number_c6, f_X9_wrong, gt_83, hd, r1, ti_wi, true_or, or_true, l_of, n_ltT, n_ltF, n_leT, n_leF, n_eqT, n_eqF, n_neM, n_Mne, n_M0, n_Mlt, n_0leM, nI_clamp, x_in_nI, n_1, nI_add, x_at, x_bd_s, x_bv_s, ↓x_lt, decide_true, decide_false, Bool.and_self, Bool.true_and, Bool.and_true, if_true, if_false, ite_true, ite_false, ↓reduceIte, not_true_eq_false, not_false_eq_true, Nat.reduceAdd, Nat.reduceMul, Nat.reduceEqDiff, eq_self, true_and, and_true, false_and, and_false, Option.some.injEq, Prod.mk.injEq, l_0, l_1, l_2, l_3, l_4, l_5, l_6, l_7, l_8, l_9, l_10, l_100, l_160, ↓m_1, ↓m_2, ↓m_3, ↓m_4, ↓m_5, ↓m_6, ↓m_7]
end
