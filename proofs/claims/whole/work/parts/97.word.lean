section
variable {L : Nat} {b1 b2 : Bool} {M : XM} {T : Nat → Int32} {n κ : Nat}
theorem zb_b : (∀ j : Fin 32, zb j.1 < 5) ∧ zb 32 = 5 := by decide
theorem l_32 : (32 : Int32) = nI 32 := rfl
theorem m_iw37 {p w : Nat} (hG : Geo L b1 b2 M) (hMW : MW M) (hQ : QS T n κ p M) (hn : n ≤ 160) (hκ : κ < 8) (hp : p ≤ n) (hw : w < 7) (d : Nat) : ∀ (F j : Nat), d < F → j + d = nl (kw w) →
    lp_X9_isWordAt_37 F 83 (nI (ow w + j)) (nI (p + j)) M = some (if al T n (kw w) p d j = nl (kw w) then nI 1 else nI 0, M) := by
  obtain ⟨r0, r1, r2, r3⟩ := id hQ
  obtain ⟨s1, s2, s3, -⟩ := tb_s hw
  have hnl := nl_b (kw w)
  induction d with
  | zero =>
    intro F j hF hj
    obtain ⟨F, rfl⟩ : ∃ i, F = i + 1 := ⟨F - 1, by omega⟩
    have ej : j = nl (kw w) := by omega
    subst ej
    have t := (mw_t hMW (k := ow w + nl (kw w)) (by omega)).1
    rw [s1] at t
    have e : al T n (kw w) p 0 (nl (kw w)) = nl (kw w) := rfl
    rw [if_pos e, s_lp_X9_isWordAt_37]
    simp (disch := first | assumption | omega) only [bd_X9_isWordAt_37, f_X9_isWordAt_86, gt_83, gr_83_22, gt_97, gl_97, t, l_32, l_of, n_ltT, n_ltF, n_leT, n_leF, n_eqT, n_eqF, n_neM, n_Mne, n_M0, n_Mlt, n_0leM, nI_clamp, x_in_nI, n_1, nI_add, x_at, x_bd_s, x_bv_s, ↓x_lt, decide_true, decide_false, Bool.and_self, Bool.true_and, Bool.and_true, if_true, if_false, ite_true, ite_false, ↓reduceIte, not_true_eq_false, not_false_eq_true, Nat.reduceAdd, Nat.reduceMul, Nat.reduceEqDiff, eq_self, true_and, and_true, false_and, and_false, Option.some.injEq, Prod.mk.injEq, l_0, l_1, l_2, l_3, l_4, l_5, l_6, l_7, l_8, l_9, l_10, l_100, l_160, ↓m_1, ↓m_2, ↓m_3, ↓m_4, ↓m_5, ↓m_6, ↓m_7]
  | succ d ih =>
    intro F j hF hj
    obtain ⟨F, rfl⟩ : ∃ i, F = i + 1 := ⟨F - 1, by omega⟩
    have t := (mw_t hMW (k := ow w + j) (by omega)).1
    rw [tb_n hw (show j < nl (kw w) by omega)] at t
    have hc := nc_b (k := kw w) (j := j) (by omega)
    rw [s_lp_X9_isWordAt_37]
    unfold al
    by_cases q1 : p + j < n
    · have y := r3 (p + j) q1
      rw [show 160 * κ + (p + j) = 160 * κ + (p + j) from rfl] at y
      by_cases q2 : T (p + j) = nI (nc (kw w) j)
      · rw [if_pos (show p + j < n ∧ T (p + j) = nI (nc (kw w) j) from ⟨q1, q2⟩)]
        have g := ih F (j + 1) (by omega) (by omega)
        rw [q2] at y
        simp (disch := first | assumption | omega) only [bd_X9_isWordAt_37, f_X9_isWordAt_86, gt_83, gr_83_20, gt_95, gl_95, gr_83_22, gt_97, gl_97, t, r0, r2, nI_add, y, l_32, l_of, n_ltT, n_ltF, n_leT, n_leF, n_eqT, n_eqF, n_neM, n_Mne, n_M0, n_Mlt, n_0leM, nI_clamp, x_in_nI, n_1, nI_add, x_at, x_bd_s, x_bv_s, ↓x_lt, decide_true, decide_false, Bool.and_self, Bool.true_and, Bool.and_true, if_true, if_false, ite_true, ite_false, ↓reduceIte, not_true_eq_false, not_false_eq_true, Nat.reduceAdd, Nat.reduceMul, Nat.reduceEqDiff, eq_self, true_and, and_true, false_and, and_false, Option.some.injEq, Prod.mk.injEq, l_0, l_1, l_2, l_3, l_4, l_5, l_6, l_7, l_8, l_9, l_10, l_100, l_160, ↓m_1, ↓m_2, ↓m_3, ↓m_4, ↓m_5, ↓m_6, ↓m_7]
        exact g
      · rw [if_neg (show ¬ (p + j < n ∧ T (p + j) = nI (nc (kw w) j)) from fun z => q2 z.2), if_neg (show ¬ j = nl (kw w) by omega)]
        simp (disch := first | assumption | omega) only [bd_X9_isWordAt_37, f_X9_isWordAt_86, gt_83, gr_83_20, gt_95, gl_95, gr_83_22, gt_97, gl_97, t, r0, r2, nI_add, y, q2, l_32, l_of, n_ltT, n_ltF, n_leT, n_leF, n_eqT, n_eqF, n_neM, n_Mne, n_M0, n_Mlt, n_0leM, nI_clamp, x_in_nI, n_1, nI_add, x_at, x_bd_s, x_bv_s, ↓x_lt, decide_true, decide_false, Bool.and_self, Bool.true_and, Bool.and_true, if_true, if_false, ite_true, ite_false, ↓reduceIte, not_true_eq_false, not_false_eq_true, Nat.reduceAdd, Nat.reduceMul, Nat.reduceEqDiff, eq_self, true_and, and_true, false_and, and_false, Option.some.injEq, Prod.mk.injEq, l_0, l_1, l_2, l_3, l_4, l_5, l_6, l_7, l_8, l_9, l_10, l_100, l_160, ↓m_1, ↓m_2, ↓m_3, ↓m_4, ↓m_5, ↓m_6, ↓m_7]
    · rw [if_neg (show ¬ (p + j < n ∧ T (p + j) = nI (nc (kw w) j)) from fun z => q1 z.1), if_neg (show ¬ j = nl (kw w) by omega)]
      simp (disch := first | assumption | omega) only [bd_X9_isWordAt_37, f_X9_isWordAt_86, gt_83, gr_83_22, gt_97, gl_97, t, r2, l_32, l_of, n_ltT, n_ltF, n_leT, n_leF, n_eqT, n_eqF, n_neM, n_Mne, n_M0, n_Mlt, n_0leM, nI_clamp, x_in_nI, n_1, nI_add, x_at, x_bd_s, x_bv_s, ↓x_lt, decide_true, decide_false, Bool.and_self, Bool.true_and, Bool.and_true, if_true, if_false, ite_true, ite_false, ↓reduceIte, not_true_eq_false, not_false_eq_true, Nat.reduceAdd, Nat.reduceMul, Nat.reduceEqDiff, eq_self, true_and, and_true, false_and, and_false, Option.some.injEq, Prod.mk.injEq, l_0, l_1, l_2, l_3, l_4, l_5, l_6, l_7, l_8, l_9, l_10, l_100, l_160, ↓m_1, ↓m_2, ↓m_3, ↓m_4, ↓m_5, ↓m_6, ↓m_7]
theorem m_iw4 (hG : Geo L b1 b2 M) (hMW : MW M) (d : Nat) : ∀ (F j : Nat), d < F → j + d = 32 → lp_X9_isWordAt_4 F 83 (nI 5) (nI j) (nI (zb j)) M = lp_X9_isWordAt_37 x_fuel 83 (nI 32) (x_i M 83 25) M := by
  induction d with
  | zero =>
    intro F j hF hj
    obtain ⟨F, rfl⟩ : ∃ i, F = i + 1 := ⟨F - 1, by omega⟩
    have ej : j = 32 := by omega
    subst ej
    have z := zb_b.2
    rw [s_lp_X9_isWordAt_4]
    generalize zb 32 = q at z ⊢
    simp (disch := first | assumption | omega) only [bd_X9_isWordAt_4, gt_83, l_of, n_ltT, n_ltF, n_leT, n_leF, n_eqT, n_eqF, n_neM, n_Mne, n_M0, n_Mlt, n_0leM, nI_clamp, x_in_nI, n_1, nI_add, x_at, x_bd_s, x_bv_s, ↓x_lt, decide_true, decide_false, Bool.and_self, Bool.true_and, Bool.and_true, if_true, if_false, ite_true, ite_false, ↓reduceIte, not_true_eq_false, not_false_eq_true, Nat.reduceAdd, Nat.reduceMul, Nat.reduceEqDiff, eq_self, true_and, and_true, false_and, and_false, Option.some.injEq, Prod.mk.injEq, l_0, l_1, l_2, l_3, l_4, l_5, l_6, l_7, l_8, l_9, l_10, l_100, l_160, ↓m_1, ↓m_2, ↓m_3, ↓m_4, ↓m_5, ↓m_6, ↓m_7]
  | succ d ih =>
    intro F j hF hj
    obtain ⟨F, rfl⟩ : ∃ i, F = i + 1 := ⟨F - 1, by omega⟩
    have z : zb j < 5 := zb_b.1 ⟨j, by omega⟩
    obtain ⟨t, tl⟩ := mw_t hMW (k := j) (by omega)
    have g := ih F (j + 1) (by omega) (by omega)
    have e : zb (j + 1) = zb j + if tb97 j = 0 then 1 else 0 := rfl
    rw [e] at g
    rw [s_lp_X9_isWordAt_4]
    by_cases q : tb97 j = 0
    · rw [if_pos q] at g
      rw [q] at t
      simp (disch := first | assumption | omega) only [bd_X9_isWordAt_4, f_X9_isWordAt_24, gt_83, gr_83_22, gt_97, gl_97, t, l_of, n_ltT, n_ltF, n_leT, n_leF, n_eqT, n_eqF, n_neM, n_Mne, n_M0, n_Mlt, n_0leM, nI_clamp, x_in_nI, n_1, nI_add, x_at, x_bd_s, x_bv_s, ↓x_lt, decide_true, decide_false, Bool.and_self, Bool.true_and, Bool.and_true, if_true, if_false, ite_true, ite_false, ↓reduceIte, not_true_eq_false, not_false_eq_true, Nat.reduceAdd, Nat.reduceMul, Nat.reduceEqDiff, eq_self, true_and, and_true, false_and, and_false, Option.some.injEq, Prod.mk.injEq, l_0, l_1, l_2, l_3, l_4, l_5, l_6, l_7, l_8, l_9, l_10, l_100, l_160, ↓m_1, ↓m_2, ↓m_3, ↓m_4, ↓m_5, ↓m_6, ↓m_7]
      exact g
    · rw [if_neg q] at g
      simp (disch := first | assumption | omega) only [bd_X9_isWordAt_4, f_X9_isWordAt_24, gt_83, gr_83_22, gt_97, gl_97, t, q, l_of, n_ltT, n_ltF, n_leT, n_leF, n_eqT, n_eqF, n_neM, n_Mne, n_M0, n_Mlt, n_0leM, nI_clamp, x_in_nI, n_1, nI_add, x_at, x_bd_s, x_bv_s, ↓x_lt, decide_true, decide_false, Bool.and_self, Bool.true_and, Bool.and_true, if_true, if_false, ite_true, ite_false, ↓reduceIte, not_true_eq_false, not_false_eq_true, Nat.reduceAdd, Nat.reduceMul, Nat.reduceEqDiff, eq_self, true_and, and_true, false_and, and_false, Option.some.injEq, Prod.mk.injEq, l_0, l_1, l_2, l_3, l_4, l_5, l_6, l_7, l_8, l_9, l_10, l_100, l_160, ↓m_1, ↓m_2, ↓m_3, ↓m_4, ↓m_5, ↓m_6, ↓m_7]
      exact g
theorem m_iw {p : Nat} (hG : Geo L b1 b2 M) (hMW : MW M) (hQ : QS T n κ p M) (hn : n ≤ 160) (hκ : κ < 8) (hp : p ≤ n) :
    f_X9_isWordAt 83 (nI 0) M = some (if A T n p 5 = nl 5 then nI 1 else nI 0, M) ∧ f_X9_isWordAt 83 (nI 5) M = some (if A T n p 4 = nl 4 then nI 1 else nI 0, M) := by
  obtain ⟨r0, r1, r2, r3⟩ := id hQ
  refine ⟨?_, ?_⟩
  · have g := m_iw37 (w := 0) hG hMW hQ hn hκ hp (by omega) (nl (kw 0)) x_fuel 0 (fu (by decide)) (by omega)
    have hf : x_fuel = 999999 + 1 := rfl
    have st : f_X9_isWordAt 83 (nI 0) M = lp_X9_isWordAt_37 x_fuel 83 (nI 0) (nI p) M := by
      show lp_X9_isWordAt_4 (999999 + 1) 83 (nI 0) 0 0 M = _
      rw [s_lp_X9_isWordAt_4]
      simp (disch := first | assumption | omega) only [bd_X9_isWordAt_4, gt_83, r1, l_of, n_ltT, n_ltF, n_leT, n_leF, n_eqT, n_eqF, n_neM, n_Mne, n_M0, n_Mlt, n_0leM, nI_clamp, x_in_nI, n_1, nI_add, x_at, x_bd_s, x_bv_s, ↓x_lt, decide_true, decide_false, Bool.and_self, Bool.true_and, Bool.and_true, if_true, if_false, ite_true, ite_false, ↓reduceIte, not_true_eq_false, not_false_eq_true, Nat.reduceAdd, Nat.reduceMul, Nat.reduceEqDiff, eq_self, true_and, and_true, false_and, and_false, Option.some.injEq, Prod.mk.injEq, l_0, l_1, l_2, l_3, l_4, l_5, l_6, l_7, l_8, l_9, l_10, l_100, l_160, ↓m_1, ↓m_2, ↓m_3, ↓m_4, ↓m_5, ↓m_6, ↓m_7]
    rw [st]
    exact g
  · have g := m_iw37 (w := 5) hG hMW hQ hn hκ hp (by omega) (nl (kw 5)) x_fuel 0 (fu (by decide)) (by omega)
    have st : f_X9_isWordAt 83 (nI 5) M = lp_X9_isWordAt_37 x_fuel 83 (nI 32) (x_i M 83 25) M := m_iw4 hG hMW 32 x_fuel 0 (fu (by omega)) rfl
    rw [st, r1]
    exact g
/-- the loops of word() -/
theorem m_w24 {F9 : Nat → Int32 → Int32 → Int32 → XM → Option (Int32 × XM)} {p w m : Nat} (hG : Geo L b1 b2 M) (hMW : MW M) (hQ : QS T n κ p M) (hn : n ≤ 160) (hκ : κ < 8) (hp : p ≤ n) (hw : w < 7) {v1 : Int32} (d : Nat) : ∀ (F j : Nat), d + 2 < F → j + d = nl (kw w) →
    lp_X9_word_24 F9 F 83 v1 (nI (p + m)) (nI w) (nI (p + j)) (nI (ow w + j)) M = f_X9_word_75 F9 83 v1 (nI (p + m)) (nI w) (nI (p + (if al T n (kw w) p d j = nl (kw w) then (if ok1 T n (p + nl (kw w)) 32 then nl (kw w) + 1 else nl (kw w)) else al T n (kw w) p d j))) (nI (ow w + (if al T n (kw w) p d j = nl (kw w) then (if ok1 T n (p + nl (kw w)) 32 then nl (kw w) + 1 else nl (kw w)) else al T n (kw w) p d j))) M := by
  obtain ⟨r0, r1, r2, r3⟩ := id hQ
  obtain ⟨s1, s2, s3, -⟩ := tb_s hw
  have hnl := nl_b (kw w)
  induction d with
  | zero =>
    intro F j hF hj
    obtain ⟨F, rfl⟩ : ∃ i, F = i + 1 + 1 := ⟨F - 2, by omega⟩
    have ej : j = nl (kw w) := by omega
    subst ej
    have t := (mw_t hMW (k := ow w + nl (kw w)) (by omega)).1
    rw [s1] at t
    have t2 := (mw_t hMW (k := ow w + nl (kw w) + 1) (by omega)).1
    rw [s2] at t2
    have e : al T n (kw w) p 0 (nl (kw w)) = nl (kw w) := rfl
    rw [if_pos e, s_lp_X9_word_24]
    by_cases q1 : p + nl (kw w) < n
    · have y := r3 (p + nl (kw w)) q1
      by_cases q2 : T (p + nl (kw w)) = nI 32
      · rw [if_pos (show ok1 T n (p + nl (kw w)) 32 from ⟨q1, q2⟩)]
        rw [q2] at y
        have nx : lp_X9_word_24 F9 (F + 1) 83 v1 (nI (p + m)) (nI w) (nI (p + nl (kw w) + 1)) (nI (ow w + nl (kw w) + 1)) M = f_X9_word_75 F9 83 v1 (nI (p + m)) (nI w) (nI (p + (nl (kw w) + 1))) (nI (ow w + (nl (kw w) + 1))) M := by
          rw [s_lp_X9_word_24]
          simp (disch := first | assumption | omega) only [bd_X9_word_24, gt_83, gr_83_22, gt_97, gl_97, t2, ← Nat.add_assoc, l_of, n_ltT, n_ltF, n_leT, n_leF, n_eqT, n_eqF, n_neM, n_Mne, n_M0, n_Mlt, n_0leM, nI_clamp, x_in_nI, n_1, nI_add, x_at, x_bd_s, x_bv_s, ↓x_lt, decide_true, decide_false, Bool.and_self, Bool.true_and, Bool.and_true, if_true, if_false, ite_true, ite_false, ↓reduceIte, not_true_eq_false, not_false_eq_true, Nat.reduceAdd, Nat.reduceMul, Nat.reduceEqDiff, eq_self, true_and, and_true, false_and, and_false, Option.some.injEq, Prod.mk.injEq, l_0, l_1, l_2, l_3, l_4, l_5, l_6, l_7, l_8, l_9, l_10, l_100, l_160, ↓m_1, ↓m_2, ↓m_3, ↓m_4, ↓m_5, ↓m_6, ↓m_7]
        simp (disch := first | assumption | omega) only [bd_X9_word_24, gt_83, gr_83_20, gt_95, gl_95, gr_83_22, gt_97, gl_97, t, r0, r2, nI_add, y, l_of, n_ltT, n_ltF, n_leT, n_leF, n_eqT, n_eqF, n_neM, n_Mne, n_M0, n_Mlt, n_0leM, nI_clamp, x_in_nI, n_1, nI_add, x_at, x_bd_s, x_bv_s, ↓x_lt, decide_true, decide_false, Bool.and_self, Bool.true_and, Bool.and_true, if_true, if_false, ite_true, ite_false, ↓reduceIte, not_true_eq_false, not_false_eq_true, Nat.reduceAdd, Nat.reduceMul, Nat.reduceEqDiff, eq_self, true_and, and_true, false_and, and_false, Option.some.injEq, Prod.mk.injEq, l_0, l_1, l_2, l_3, l_4, l_5, l_6, l_7, l_8, l_9, l_10, l_100, l_160, ↓m_1, ↓m_2, ↓m_3, ↓m_4, ↓m_5, ↓m_6, ↓m_7]
        exact nx
      · rw [if_neg (show ¬ ok1 T n (p + nl (kw w)) 32 from fun z => q2 z.2)]
        simp (disch := first | assumption | omega) only [bd_X9_word_24, gt_83, gr_83_20, gt_95, gl_95, gr_83_22, gt_97, gl_97, t, r0, r2, nI_add, y, q2, l_of, n_ltT, n_ltF, n_leT, n_leF, n_eqT, n_eqF, n_neM, n_Mne, n_M0, n_Mlt, n_0leM, nI_clamp, x_in_nI, n_1, nI_add, x_at, x_bd_s, x_bv_s, ↓x_lt, decide_true, decide_false, Bool.and_self, Bool.true_and, Bool.and_true, if_true, if_false, ite_true, ite_false, ↓reduceIte, not_true_eq_false, not_false_eq_true, Nat.reduceAdd, Nat.reduceMul, Nat.reduceEqDiff, eq_self, true_and, and_true, false_and, and_false, Option.some.injEq, Prod.mk.injEq, l_0, l_1, l_2, l_3, l_4, l_5, l_6, l_7, l_8, l_9, l_10, l_100, l_160, ↓m_1, ↓m_2, ↓m_3, ↓m_4, ↓m_5, ↓m_6, ↓m_7]
    · rw [if_neg (show ¬ ok1 T n (p + nl (kw w)) 32 from fun z => q1 z.1)]
      simp (disch := first | assumption | omega) only [bd_X9_word_24, gt_83, gr_83_22, gt_97, gl_97, t, r2, l_of, n_ltT, n_ltF, n_leT, n_leF, n_eqT, n_eqF, n_neM, n_Mne, n_M0, n_Mlt, n_0leM, nI_clamp, x_in_nI, n_1, nI_add, x_at, x_bd_s, x_bv_s, ↓x_lt, decide_true, decide_false, Bool.and_self, Bool.true_and, Bool.and_true, if_true, if_false, ite_true, ite_false, ↓reduceIte, not_true_eq_false, not_false_eq_true, Nat.reduceAdd, Nat.reduceMul, Nat.reduceEqDiff, eq_self, true_and, and_true, false_and, and_false, Option.some.injEq, Prod.mk.injEq, l_0, l_1, l_2, l_3, l_4, l_5, l_6, l_7, l_8, l_9, l_10, l_100, l_160, ↓m_1, ↓m_2, ↓m_3, ↓m_4, ↓m_5, ↓m_6, ↓m_7]
  | succ d ih =>
    intro F j hF hj
    obtain ⟨F, rfl⟩ : ∃ i, F = i + 1 := ⟨F - 1, by omega⟩
    have t := (mw_t hMW (k := ow w + j) (by omega)).1
    rw [tb_n hw (show j < nl (kw w) by omega)] at t
    have hc := nc_b (k := kw w) (j := j) (by omega)
    rw [s_lp_X9_word_24]
    by_cases q1 : p + j < n
    · have y := r3 (p + j) q1
      by_cases q2 : T (p + j) = nI (nc (kw w) j)
      · have e : al T n (kw w) p (d + 1) j = al T n (kw w) p d (j + 1) := if_pos ⟨q1, q2⟩
        have g := ih F (j + 1) (by omega) (by omega)
        rw [e]
        rw [q2] at y
        simp (disch := first | assumption | omega) only [bd_X9_word_24, gt_83, gr_83_20, gt_95, gl_95, gr_83_22, gt_97, gl_97, t, r0, r2, nI_add, y, l_of, n_ltT, n_ltF, n_leT, n_leF, n_eqT, n_eqF, n_neM, n_Mne, n_M0, n_Mlt, n_0leM, nI_clamp, x_in_nI, n_1, nI_add, x_at, x_bd_s, x_bv_s, ↓x_lt, decide_true, decide_false, Bool.and_self, Bool.true_and, Bool.and_true, if_true, if_false, ite_true, ite_false, ↓reduceIte, not_true_eq_false, not_false_eq_true, Nat.reduceAdd, Nat.reduceMul, Nat.reduceEqDiff, eq_self, true_and, and_true, false_and, and_false, Option.some.injEq, Prod.mk.injEq, l_0, l_1, l_2, l_3, l_4, l_5, l_6, l_7, l_8, l_9, l_10, l_100, l_160, ↓m_1, ↓m_2, ↓m_3, ↓m_4, ↓m_5, ↓m_6, ↓m_7]
        exact g
      · have e : al T n (kw w) p (d + 1) j = j := if_neg (fun z => q2 z.2)
        rw [e, if_neg (show ¬ j = nl (kw w) by omega)]
        simp (disch := first | assumption | omega) only [bd_X9_word_24, gt_83, gr_83_20, gt_95, gl_95, gr_83_22, gt_97, gl_97, t, r0, r2, nI_add, y, q2, l_of, n_ltT, n_ltF, n_leT, n_leF, n_eqT, n_eqF, n_neM, n_Mne, n_M0, n_Mlt, n_0leM, nI_clamp, x_in_nI, n_1, nI_add, x_at, x_bd_s, x_bv_s, ↓x_lt, decide_true, decide_false, Bool.and_self, Bool.true_and, Bool.and_true, if_true, if_false, ite_true, ite_false, ↓reduceIte, not_true_eq_false, not_false_eq_true, Nat.reduceAdd, Nat.reduceMul, Nat.reduceEqDiff, eq_self, true_and, and_true, false_and, and_false, Option.some.injEq, Prod.mk.injEq, l_0, l_1, l_2, l_3, l_4, l_5, l_6, l_7, l_8, l_9, l_10, l_100, l_160, ↓m_1, ↓m_2, ↓m_3, ↓m_4, ↓m_5, ↓m_6, ↓m_7]
    · have e : al T n (kw w) p (d + 1) j = j := if_neg (fun z => q1 z.1)
      rw [e, if_neg (show ¬ j = nl (kw w) by omega)]
      simp (disch := first | assumption | omega) only [bd_X9_word_24, gt_83, gr_83_22, gt_97, gl_97, t, r2, l_of, n_ltT, n_ltF, n_leT, n_leF, n_eqT, n_eqF, n_neM, n_Mne, n_M0, n_Mlt, n_0leM, nI_clamp, x_in_nI, n_1, nI_add, x_at, x_bd_s, x_bv_s, ↓x_lt, decide_true, decide_false, Bool.and_self, Bool.true_and, Bool.and_true, if_true, if_false, ite_true, ite_false, ↓reduceIte, not_true_eq_false, not_false_eq_true, Nat.reduceAdd, Nat.reduceMul, Nat.reduceEqDiff, eq_self, true_and, and_true, false_and, and_false, Option.some.injEq, Prod.mk.injEq, l_0, l_1, l_2, l_3, l_4, l_5, l_6, l_7, l_8, l_9, l_10, l_100, l_160, ↓m_1, ↓m_2, ↓m_3, ↓m_4, ↓m_5, ↓m_6, ↓m_7]
theorem m_w106 {F9 : Nat → Int32 → Int32 → Int32 → XM → Option (Int32 × XM)} {w : Nat} (hG : Geo L b1 b2 M) (hMW : MW M) (hw : w < 7) {v2 : Int32} (d : Nat) : ∀ (F j : Nat), d < F → j + d = nl (kw w) + 1 →
    lp_X9_word_106 F9 F 83 (nI (ow w + j)) v2 (nI w) M = F9 83 (nI (ow w + nl (kw w) + 2)) v2 (nI (w + 1)) M := by
  obtain ⟨s1, s2, s3, -⟩ := tb_s hw
  have hnl := nl_b (kw w)
  induction d with
  | zero =>
    intro F j hF hj
    obtain ⟨F, rfl⟩ : ∃ i, F = i + 1 := ⟨F - 1, by omega⟩
    have ej : j = nl (kw w) + 1 := by omega
    subst ej
    have t := (mw_t hMW (k := ow w + (nl (kw w) + 1)) (by omega)).1
    rw [show ow w + (nl (kw w) + 1) = ow w + nl (kw w) + 1 by omega, s2] at t
    rw [s_lp_X9_word_106, show ow w + (nl (kw w) + 1) = ow w + nl (kw w) + 1 by omega]
    simp (disch := first | assumption | omega) only [bd_X9_word_106, gt_83, gr_83_22, gt_97, gl_97, t, l_of, n_ltT, n_ltF, n_leT, n_leF, n_eqT, n_eqF, n_neM, n_Mne, n_M0, n_Mlt, n_0leM, nI_clamp, x_in_nI, n_1, nI_add, x_at, x_bd_s, x_bv_s, ↓x_lt, decide_true, decide_false, Bool.and_self, Bool.true_and, Bool.and_true, if_true, if_false, ite_true, ite_false, ↓reduceIte, not_true_eq_false, not_false_eq_true, Nat.reduceAdd, Nat.reduceMul, Nat.reduceEqDiff, eq_self, true_and, and_true, false_and, and_false, Option.some.injEq, Prod.mk.injEq, l_0, l_1, l_2, l_3, l_4, l_5, l_6, l_7, l_8, l_9, l_10, l_100, l_160, ↓m_1, ↓m_2, ↓m_3, ↓m_4, ↓m_5, ↓m_6, ↓m_7]
  | succ d ih =>
    intro F j hF hj
    obtain ⟨F, rfl⟩ : ∃ i, F = i + 1 := ⟨F - 1, by omega⟩
    obtain ⟨t, tl⟩ := mw_t hMW (k := ow w + j) (by omega)
    have hnz : tb97 (ow w + j) ≠ 0 := by
      by_cases q : j < nl (kw w)
      · rw [tb_n hw q]
        have := nc_b q
        omega
      · rw [show j = nl (kw w) by omega, s1]; omega
    have g := ih F (j + 1) (by omega) (by omega)
    rw [s_lp_X9_word_106]
    simp (disch := first | assumption | omega) only [bd_X9_word_106, gt_83, gr_83_22, gt_97, gl_97, t, hnz, l_of, n_ltT, n_ltF, n_leT, n_leF, n_eqT, n_eqF, n_neM, n_Mne, n_M0, n_Mlt, n_0leM, nI_clamp, x_in_nI, n_1, nI_add, x_at, x_bd_s, x_bv_s, ↓x_lt, decide_true, decide_false, Bool.and_self, Bool.true_and, Bool.and_true, if_true, if_false, ite_true, ite_false, ↓reduceIte, not_true_eq_false, not_false_eq_true, Nat.reduceAdd, Nat.reduceMul, Nat.reduceEqDiff, eq_self, true_and, and_true, false_and, and_false, Option.some.injEq, Prod.mk.injEq, l_0, l_1, l_2, l_3, l_4, l_5, l_6, l_7, l_8, l_9, l_10, l_100, l_160, ↓m_1, ↓m_2, ↓m_3, ↓m_4, ↓m_5, ↓m_6, ↓m_7]
    exact g
def mV (r : Nat × Nat) : Int32 := if r.1 = 7 then nM 1 else nI r.1
def mM (p : Nat) (r : Nat × Nat) (M : XM) : XM := if r.1 = 7 then x_wi M 83 28 (nI (p + r.2)) else x_wi M 83 25 (nI (p + nl (kw r.1) + 1))
theorem m_word {p : Nat} (hG : Geo L b1 b2 M) (hMW : MW M) (hQ : QS T n κ p M) (hn : n ≤ 160) (hκ : κ < 8) (hp : p ≤ n) (d : Nat) : ∀ (F w m i : Nat), d < F → w + d = 7 → m ≤ 8 → (w < 7 → i = ow w) →
    lp_X9_word_9 F 83 (nI i) (nI (p + m)) (nI w) M = some (mV (mw T n p d w m), mM p (mw T n p d w m) M) := by
  obtain ⟨r0, r1, r2, r3⟩ := id hQ
  have l_7 : (7 : Int32) = nI 7 := rfl
  induction d with
  | zero =>
    intro F w m i hF hw hm hi
    obtain ⟨F, rfl⟩ : ∃ i, F = i + 1 := ⟨F - 1, by omega⟩
    have ew : w = 7 := by omega
    subst ew
    rw [s_lp_X9_word_9]
    simp (disch := first | assumption | omega) only [bd_X9_word_9, gt_83, mw, mV, mM, l_of, n_ltT, n_ltF, n_leT, n_leF, n_eqT, n_eqF, n_neM, n_Mne, n_M0, n_Mlt, n_0leM, nI_clamp, x_in_nI, n_1, nI_add, x_at, x_bd_s, x_bv_s, ↓x_lt, decide_true, decide_false, Bool.and_self, Bool.true_and, Bool.and_true, if_true, if_false, ite_true, ite_false, ↓reduceIte, not_true_eq_false, not_false_eq_true, Nat.reduceAdd, Nat.reduceMul, Nat.reduceEqDiff, eq_self, true_and, and_true, false_and, and_false, Option.some.injEq, Prod.mk.injEq, l_0, l_1, l_2, l_3, l_4, l_5, l_6, l_7, l_8, l_9, l_10, l_100, l_160, ↓m_1, ↓m_2, ↓m_3, ↓m_4, ↓m_5, ↓m_6, ↓m_7]
  | succ d ih =>
    intro F w m i hF hw hm hi
    obtain ⟨F, rfl⟩ : ∃ i, F = i + 1 := ⟨F - 1, by omega⟩
    have hw7 : w < 7 := by omega
    obtain rfl := hi hw7
    obtain ⟨s1, s2, s3, s4⟩ := tb_s hw7
    have hnl := nl_b (kw w)
    have hrl := rc_le (T := T) (n := n) (p := p) (k := kw w)
    have g1 : lp_X9_word_24 (lp_X9_word_9 F) x_fuel 83 (nI (ow w)) (nI (p + m)) (nI w) (nI p) (nI (ow w)) M = f_X9_word_75 (lp_X9_word_9 F) 83 (nI (ow w)) (nI (p + m)) (nI w) (nI (p + rc T n p (kw w))) (nI (ow w + rc T n p (kw w))) M := by
      have g := m_w24 (F9 := lp_X9_word_9 F) (m := m) (v1 := nI (ow w)) hG hMW hQ hn hκ hp hw7 (nl (kw w)) x_fuel 0 (fu (by omega)) (by omega)
      rw [Nat.add_zero, Nat.add_zero] at g
      unfold rc A
      exact g
    have st : lp_X9_word_9 (F + 1) 83 (nI (ow w)) (nI (p + m)) (nI w) M = f_X9_word_75 (lp_X9_word_9 F) 83 (nI (ow w)) (nI (p + m)) (nI w) (nI (p + rc T n p (kw w))) (nI (ow w + rc T n p (kw w))) M := by
      rw [s_lp_X9_word_9, ← g1]
      simp (disch := first | assumption | omega) only [bd_X9_word_9, gt_83, r1, l_of, n_ltT, n_ltF, n_leT, n_leF, n_eqT, n_eqF, n_neM, n_Mne, n_M0, n_Mlt, n_0leM, nI_clamp, x_in_nI, n_1, nI_add, x_at, x_bd_s, x_bv_s, ↓x_lt, decide_true, decide_false, Bool.and_self, Bool.true_and, Bool.and_true, if_true, if_false, ite_true, ite_false, ↓reduceIte, not_true_eq_false, not_false_eq_true, Nat.reduceAdd, Nat.reduceMul, Nat.reduceEqDiff, eq_self, true_and, and_true, false_and, and_false, Option.some.injEq, Prod.mk.injEq, l_0, l_1, l_2, l_3, l_4, l_5, l_6, l_7, l_8, l_9, l_10, l_100, l_160, ↓m_1, ↓m_2, ↓m_3, ↓m_4, ↓m_5, ↓m_6, ↓m_7]
    rw [st]
    clear st g1
    unfold mw
    by_cases q : rc T n p (kw w) = nl (kw w) + 1
    · rw [if_pos q]
      have t2 := (mw_t hMW (k := ow w + rc T n p (kw w)) (by omega)).1
      rw [q, ← Nat.add_assoc, s2] at t2
      have hw8 : (w = 7) = False := eq_false (by omega)
      rw [q]
      simp (disch := first | assumption | omega) only [f_X9_word_75, gt_83, gr_83_22, gt_97, gl_97, t2, ← Nat.add_assoc, mV, mM, hw8, and_self, l_of, n_ltT, n_ltF, n_leT, n_leF, n_eqT, n_eqF, n_neM, n_Mne, n_M0, n_Mlt, n_0leM, nI_clamp, x_in_nI, n_1, nI_add, x_at, x_bd_s, x_bv_s, ↓x_lt, decide_true, decide_false, Bool.and_self, Bool.true_and, Bool.and_true, if_true, if_false, ite_true, ite_false, ↓reduceIte, not_true_eq_false, not_false_eq_true, Nat.reduceAdd, Nat.reduceMul, Nat.reduceEqDiff, eq_self, true_and, and_true, false_and, and_false, Option.some.injEq, Prod.mk.injEq, l_0, l_1, l_2, l_3, l_4, l_5, l_6, l_7, l_8, l_9, l_10, l_100, l_160, ↓m_1, ↓m_2, ↓m_3, ↓m_4, ↓m_5, ↓m_6, ↓m_7]
    · rw [if_neg q]
      obtain ⟨t, tl⟩ := mw_t hMW (k := ow w + rc T n p (kw w)) (by omega)
      have hnz : tb97 (ow w + rc T n p (kw w)) ≠ 0 := by
        by_cases z : rc T n p (kw w) < nl (kw w)
        · rw [tb_n hw7 z]
          have := nc_b z
          omega
        · rw [show rc T n p (kw w) = nl (kw w) by omega, s1]; omega
      have g2 : ∀ v2, f_X9_word_105 (lp_X9_word_9 F) 83 (nI (ow w)) (nI w) v2 M = lp_X9_word_9 F 83 (nI (ow w + nl (kw w) + 2)) v2 (nI (w + 1)) M := fun v2 => m_w106 hG hMW hw7 (nl (kw w) + 1) x_fuel 0 (fu (by omega)) (by omega)
      have g3 := ih F (w + 1) (if m < rc T n p (kw w) then rc T n p (kw w) else m) (ow w + nl (kw w) + 2) (by omega) (by omega) (by split <;> omega) (fun z => (s4 (by omega)).symm)
      by_cases z : m < rc T n p (kw w)
      · rw [if_pos z] at g3 ⊢
        simp (disch := first | assumption | omega) only [f_X9_word_75, gt_83, gr_83_22, gt_97, gl_97, t, hnz, g2, l_of, n_ltT, n_ltF, n_leT, n_leF, n_eqT, n_eqF, n_neM, n_Mne, n_M0, n_Mlt, n_0leM, nI_clamp, x_in_nI, n_1, nI_add, x_at, x_bd_s, x_bv_s, ↓x_lt, decide_true, decide_false, Bool.and_self, Bool.true_and, Bool.and_true, if_true, if_false, ite_true, ite_false, ↓reduceIte, not_true_eq_false, not_false_eq_true, Nat.reduceAdd, Nat.reduceMul, Nat.reduceEqDiff, eq_self, true_and, and_true, false_and, and_false, Option.some.injEq, Prod.mk.injEq, l_0, l_1, l_2, l_3, l_4, l_5, l_6, l_7, l_8, l_9, l_10, l_100, l_160, ↓m_1, ↓m_2, ↓m_3, ↓m_4, ↓m_5, ↓m_6, ↓m_7]
        exact g3
      · rw [if_neg z] at g3 ⊢
        simp (disch := first | assumption | omega) only [f_X9_word_75, gt_83, gr_83_22, gt_97, gl_97, t, hnz, g2, l_of, n_ltT, n_ltF, n_leT, n_leF, n_eqT, n_eqF, n_neM, n_Mne, n_M0, n_Mlt, n_0leM, nI_clamp, x_in_nI, n_1, nI_add, x_at, x_bd_s, x_bv_s, ↓x_lt, decide_true, decide_false, Bool.and_self, Bool.true_and, Bool.and_true, if_true, if_false, ite_true, ite_false, ↓reduceIte, not_true_eq_false, not_false_eq_true, Nat.reduceAdd, Nat.reduceMul, Nat.reduceEqDiff, eq_self, true_and, and_true, false_and, and_false, Option.some.injEq, Prod.mk.injEq, l_0, l_1, l_2, l_3, l_4, l_5, l_6, l_7, l_8, l_9, l_10, l_100, l_160, ↓m_1, ↓m_2, ↓m_3, ↓m_4, ↓m_5, ↓m_6, ↓m_7]
        exact g3
end
