section
variable {L : Nat} {b1 b2 : Bool} {M : XM} {T : Nat → Int32} {n : Nat}
theorem al_le {k p : Nat} (d : Nat) : ∀ (j : Nat), j ≤ al T n k p d j ∧ al T n k p d j ≤ j + d := by
  induction d with
  | zero => intro j; exact ⟨Nat.le_refl _, Nat.le_refl _⟩
  | succ d ih =>
    intro j
    unfold al
    split
    · have := ih (j + 1); omega
    · omega
theorem A_le {p k : Nat} : A T n p k ≤ nl k := by
  have := (al_le (T := T) (n := n) (k := k) (p := p) (nl k) 0).2
  unfold A; omega
theorem A_n {p k : Nat} (hp : p ≤ n) : p + A T n p k ≤ n := by
  have : ∀ (d j : Nat), p + j ≤ n → p + al T n k p d j ≤ n := by
    intro d
    induction d with
    | zero => intro j h; exact h
    | succ d ih =>
      intro j h
      unfold al
      split
      · next q => exact ih (j + 1) (by omega)
      · exact h
  exact this (nl k) 0 hp
theorem A_of {p k : Nat} {i : Nat} (h : i < A T n p k) : p + i < n ∧ T (p + i) = nI (nc k i) := by
  have : ∀ (d j : Nat), j ≤ i → i < al T n k p d j → p + i < n ∧ T (p + i) = nI (nc k i) := by
    intro d
    induction d with
    | zero => intro j h1 h2; unfold al at h2; omega
    | succ d ih =>
      intro j h1 h2
      unfold al at h2
      split at h2
      · next q =>
        by_cases e : i = j
        · rw [e]; exact q
        · exact ih (j + 1) (by omega) h2
      · omega
  exact this (nl k) 0 (Nat.zero_le _) h
theorem c_alike {p k : Nat} {ft : Int32} (hG : Geo L b1 b2 M) (hS : CS M) (hR : RS T n p ft M) (hn : n ≤ 160) (hp : p ≤ n) (hk : k < 7) (d : Nat) : ∀ (F j : Nat), d < F → j + d = nl k →
    lp_X5_countAlike_2 F 39 (5 + k) (nI j) M = some (nI (al T n k p d j), M) := by
  obtain ⟨r0, r3, r4, r5⟩ := id hR
  obtain ⟨h1, -, -⟩ := gt_s hG hk
  have e1 : 5 + k < 20 := by omega
  have hb := nl_b k
  have hl := c_slen hG hk
  induction d with
  | zero =>
    intro F j hF hj
    obtain ⟨F, rfl⟩ : ∃ i, F = i + 1 := ⟨F - 1, by omega⟩
    rw [s_lp_X5_countAlike_2]
    simp (disch := first | assumption | omega) only [bd_X5_countAlike_2, f_X5_countAlike_c4, h1, e1, hl, al, l_of, n_ltT, n_ltF, n_leT, n_leF, n_eqT, n_eqF, n_neM, n_Mne, n_M0, n_Mlt, n_0leM, nI_clamp, x_in_nI, n_1, nI_add, x_at, x_bd_s, x_bv_s, ↓x_lt, decide_true, decide_false, Bool.and_self, Bool.true_and, Bool.and_true, if_true, if_false, ite_true, ite_false, ↓reduceIte, not_true_eq_false, not_false_eq_true, Nat.reduceAdd, Nat.reduceMul, Nat.reduceEqDiff, eq_self, true_and, and_true, false_and, and_false, Option.some.injEq, Prod.mk.injEq, l_0, l_1, l_2, l_3, l_4, l_5, l_6, l_7, l_8, l_9, l_10, l_100, l_160, ↓m_1, ↓m_2, ↓m_3, ↓m_4, ↓m_5, ↓m_6, ↓m_7]
  | succ d ih =>
    intro F j hF hj
    obtain ⟨F, rfl⟩ : ∃ i, F = i + 1 := ⟨F - 1, by omega⟩
    have hc := c_sat (j := j) hG hS hk (by omega)
    have g := ih F (j + 1) (by omega) (by omega)
    have z : nI p + nI j = nI (p + j) := nI_add _ _
    rw [s_lp_X5_countAlike_2]
    unfold al
    by_cases q1 : p + j < n
    · have y := r5 (p + j) q1
      by_cases q2 : T (p + j) = nI (nc k j)
      · rw [if_pos ⟨q1, q2⟩]
        rw [q2] at y
        simp (disch := first | assumption | omega) only [bd_X5_countAlike_2, f_X5_countAlike_c4, f_X5_countAlike_c36, h1, e1, hl, gt_39, gr_39_2, gt_49, gl_49, r3, r4, z, hc, y, l_of, n_ltT, n_ltF, n_leT, n_leF, n_eqT, n_eqF, n_neM, n_Mne, n_M0, n_Mlt, n_0leM, nI_clamp, x_in_nI, n_1, nI_add, x_at, x_bd_s, x_bv_s, ↓x_lt, decide_true, decide_false, Bool.and_self, Bool.true_and, Bool.and_true, if_true, if_false, ite_true, ite_false, ↓reduceIte, not_true_eq_false, not_false_eq_true, Nat.reduceAdd, Nat.reduceMul, Nat.reduceEqDiff, eq_self, true_and, and_true, false_and, and_false, Option.some.injEq, Prod.mk.injEq, l_0, l_1, l_2, l_3, l_4, l_5, l_6, l_7, l_8, l_9, l_10, l_100, l_160, ↓m_1, ↓m_2, ↓m_3, ↓m_4, ↓m_5, ↓m_6, ↓m_7]
        exact g
      · rw [if_neg (fun w => q2 w.2)]
        simp (disch := first | assumption | omega) only [bd_X5_countAlike_2, f_X5_countAlike_c4, f_X5_countAlike_c36, h1, e1, hl, gt_39, gr_39_2, gt_49, gl_49, r3, r4, z, hc, y, q2, l_of, n_ltT, n_ltF, n_leT, n_leF, n_eqT, n_eqF, n_neM, n_Mne, n_M0, n_Mlt, n_0leM, nI_clamp, x_in_nI, n_1, nI_add, x_at, x_bd_s, x_bv_s, ↓x_lt, decide_true, decide_false, Bool.and_self, Bool.true_and, Bool.and_true, if_true, if_false, ite_true, ite_false, ↓reduceIte, not_true_eq_false, not_false_eq_true, Nat.reduceAdd, Nat.reduceMul, Nat.reduceEqDiff, eq_self, true_and, and_true, false_and, and_false, Option.some.injEq, Prod.mk.injEq, l_0, l_1, l_2, l_3, l_4, l_5, l_6, l_7, l_8, l_9, l_10, l_100, l_160, ↓m_1, ↓m_2, ↓m_3, ↓m_4, ↓m_5, ↓m_6, ↓m_7]
    · rw [if_neg (fun w => q1 w.1)]
      simp (disch := first | assumption | omega) only [bd_X5_countAlike_2, f_X5_countAlike_c4, f_X5_countAlike_c36, h1, e1, hl, gt_39, gr_39_2, gt_49, gl_49, r3, r4, z, l_of, n_ltT, n_ltF, n_leT, n_leF, n_eqT, n_eqF, n_neM, n_Mne, n_M0, n_Mlt, n_0leM, nI_clamp, x_in_nI, n_1, nI_add, x_at, x_bd_s, x_bv_s, ↓x_lt, decide_true, decide_false, Bool.and_self, Bool.true_and, Bool.and_true, if_true, if_false, ite_true, ite_false, ↓reduceIte, not_true_eq_false, not_false_eq_true, Nat.reduceAdd, Nat.reduceMul, Nat.reduceEqDiff, eq_self, true_and, and_true, false_and, and_false, Option.some.injEq, Prod.mk.injEq, l_0, l_1, l_2, l_3, l_4, l_5, l_6, l_7, l_8, l_9, l_10, l_100, l_160, ↓m_1, ↓m_2, ↓m_3, ↓m_4, ↓m_5, ↓m_6, ↓m_7]
theorem c_nameOf {k : Nat} (hk : k < 7) : f_X5_nameOf (nI k) M = some (5 + k, M) := by
  rcases (by omega : k = 0 ∨ k = 1 ∨ k = 2 ∨ k = 3 ∨ k = 4 ∨ k = 5 ∨ k = 6) with h | h | h | h | h | h | h <;> subst h <;> simp (disch := first | assumption | omega) only [f_X5_nameOf, l_of, n_ltT, n_ltF, n_leT, n_leF, n_eqT, n_eqF, n_neM, n_Mne, n_M0, n_Mlt, n_0leM, nI_clamp, x_in_nI, n_1, nI_add, x_at, x_bd_s, x_bv_s, ↓x_lt, decide_true, decide_false, Bool.and_self, Bool.true_and, Bool.and_true, if_true, if_false, ite_true, ite_false, ↓reduceIte, not_true_eq_false, not_false_eq_true, Nat.reduceAdd, Nat.reduceMul, Nat.reduceEqDiff, eq_self, true_and, and_true, false_and, and_false, Option.some.injEq, Prod.mk.injEq, l_0, l_1, l_2, l_3, l_4, l_5, l_6, l_7, l_8, l_9, l_10, l_100, l_160, ↓m_1, ↓m_2, ↓m_3, ↓m_4, ↓m_5, ↓m_6, ↓m_7]
/-- the state behind a word -/
def wM (p : Nat) (r : Nat × Nat) (M : XM) : XM := if r.1 = 7 then x_wi M 39 0 (nI (p + r.2)) else x_wi M 39 4 (nI (p + nl r.1))
def wV (r : Nat × Nat) : Int32 := if r.1 = 7 then nM 1 else nI r.1
theorem wz_b {p : Nat} (d : Nat) : ∀ (k m : Nat), k + d = 7 → (wz T n p d k m).1 ≤ 7 ∧ ((wz T n p d k m).1 < 7 → A T n p (wz T n p d k m).1 = nl (wz T n p d k m).1) := by
  induction d with
  | zero => intro k m h; exact ⟨Nat.le_refl _, fun h => absurd h (Nat.lt_irrefl _)⟩
  | succ d ih =>
    intro k m h
    unfold wz
    split
    · next q => exact ⟨by dsimp only; omega, fun _ => q⟩
    · exact ih _ _ (by omega)
theorem c_word {p : Nat} {ft : Int32} (hG : Geo L b1 b2 M) (hS : CS M) (hR : RS T n p ft M) (hn : n ≤ 160) (hp : p ≤ n) (d : Nat) : ∀ (F k m : Nat), d < F → k + d = 7 → m ≤ 7 →
    lp_X5_readWord_4 F 39 (nI m) (nI k) M = some (wV (wz T n p d k m), wM p (wz T n p d k m) M) := by
  obtain ⟨r0, r3, r4, r5⟩ := id hR
  have l_7 : (7 : Int32) = nI 7 := rfl
  induction d with
  | zero =>
    intro F k m hF hj hm
    obtain ⟨F, rfl⟩ : ∃ i, F = i + 1 := ⟨F - 1, by omega⟩
    rw [s_lp_X5_readWord_4, show k = 7 by omega]
    simp (disch := first | assumption | omega) only [bd_X5_readWord_4, wz, wV, wM, gt_39, r4, nI_add, l_of, n_ltT, n_ltF, n_leT, n_leF, n_eqT, n_eqF, n_neM, n_Mne, n_M0, n_Mlt, n_0leM, nI_clamp, x_in_nI, n_1, nI_add, x_at, x_bd_s, x_bv_s, ↓x_lt, decide_true, decide_false, Bool.and_self, Bool.true_and, Bool.and_true, if_true, if_false, ite_true, ite_false, ↓reduceIte, not_true_eq_false, not_false_eq_true, Nat.reduceAdd, Nat.reduceMul, Nat.reduceEqDiff, eq_self, true_and, and_true, false_and, and_false, Option.some.injEq, Prod.mk.injEq, l_0, l_1, l_2, l_3, l_4, l_5, l_6, l_7, l_8, l_9, l_10, l_100, l_160, ↓m_1, ↓m_2, ↓m_3, ↓m_4, ↓m_5, ↓m_6, ↓m_7]
  | succ d ih =>
    intro F k m hF hj hm
    obtain ⟨F, rfl⟩ : ∃ i, F = i + 1 := ⟨F - 1, by omega⟩
    have hk : k < 7 := by omega
    obtain ⟨h1, -, -⟩ := gt_s hG hk
    have e1 : 5 + k < 20 := by omega
    have hb := nl_b k
    have hl := c_slen hG hk
    have hN := c_nameOf (M := M) hk
    have hA := A_le (T := T) (n := n) (p := p) (k := k)
    have ha : f_X5_countAlike 39 (5 + k) M = some (nI (A T n p k), M) := c_alike hG hS hR hn hp hk (nl k) x_fuel 0 (fu (by omega)) (by omega)
    rw [s_lp_X5_readWord_4]
    unfold wz
    by_cases q : A T n p k = nl k
    · rw [if_pos q]
      rw [q] at ha
      have hk7 : (k = 7) = False := eq_false (by omega)
      simp (disch := first | assumption | omega) only [bd_X5_readWord_4, f_X5_readWord_c11, f_X5_readWord_c17, f_X5_readWord_c25, wV, wM, hk7, and_self, gt_39, h1, e1, hN, hl, ha, r4, nI_add, l_of, n_ltT, n_ltF, n_leT, n_leF, n_eqT, n_eqF, n_neM, n_Mne, n_M0, n_Mlt, n_0leM, nI_clamp, x_in_nI, n_1, nI_add, x_at, x_bd_s, x_bv_s, ↓x_lt, decide_true, decide_false, Bool.and_self, Bool.true_and, Bool.and_true, if_true, if_false, ite_true, ite_false, ↓reduceIte, not_true_eq_false, not_false_eq_true, Nat.reduceAdd, Nat.reduceMul, Nat.reduceEqDiff, eq_self, true_and, and_true, false_and, and_false, Option.some.injEq, Prod.mk.injEq, l_0, l_1, l_2, l_3, l_4, l_5, l_6, l_7, l_8, l_9, l_10, l_100, l_160, ↓m_1, ↓m_2, ↓m_3, ↓m_4, ↓m_5, ↓m_6, ↓m_7]
    · rw [if_neg q]
      have g := ih F (k + 1) (if m < A T n p k then A T n p k else m) (by omega) (by omega) (by split <;> omega)
      by_cases w : m < A T n p k
      · rw [if_pos w] at g ⊢
        simp (disch := first | assumption | omega) only [bd_X5_readWord_4, f_X5_readWord_c11, f_X5_readWord_c17, f_X5_readWord_c25, gt_39, h1, e1, hN, hl, ha, r4, q, nI_add, l_of, n_ltT, n_ltF, n_leT, n_leF, n_eqT, n_eqF, n_neM, n_Mne, n_M0, n_Mlt, n_0leM, nI_clamp, x_in_nI, n_1, nI_add, x_at, x_bd_s, x_bv_s, ↓x_lt, decide_true, decide_false, Bool.and_self, Bool.true_and, Bool.and_true, if_true, if_false, ite_true, ite_false, ↓reduceIte, not_true_eq_false, not_false_eq_true, Nat.reduceAdd, Nat.reduceMul, Nat.reduceEqDiff, eq_self, true_and, and_true, false_and, and_false, Option.some.injEq, Prod.mk.injEq, l_0, l_1, l_2, l_3, l_4, l_5, l_6, l_7, l_8, l_9, l_10, l_100, l_160, ↓m_1, ↓m_2, ↓m_3, ↓m_4, ↓m_5, ↓m_6, ↓m_7]
        exact g
      · rw [if_neg w] at g ⊢
        simp (disch := first | assumption | omega) only [bd_X5_readWord_4, f_X5_readWord_c11, f_X5_readWord_c17, f_X5_readWord_c25, gt_39, h1, e1, hN, hl, ha, r4, q, nI_add, l_of, n_ltT, n_ltF, n_leT, n_leF, n_eqT, n_eqF, n_neM, n_Mne, n_M0, n_Mlt, n_0leM, nI_clamp, x_in_nI, n_1, nI_add, x_at, x_bd_s, x_bv_s, ↓x_lt, decide_true, decide_false, Bool.and_self, Bool.true_and, Bool.and_true, if_true, if_false, ite_true, ite_false, ↓reduceIte, not_true_eq_false, not_false_eq_true, Nat.reduceAdd, Nat.reduceMul, Nat.reduceEqDiff, eq_self, true_and, and_true, false_and, and_false, Option.some.injEq, Prod.mk.injEq, l_0, l_1, l_2, l_3, l_4, l_5, l_6, l_7, l_8, l_9, l_10, l_100, l_160, ↓m_1, ↓m_2, ↓m_3, ↓m_4, ↓m_5, ↓m_6, ↓m_7]
        exact g
/-- one letter that must be there -/
abbrev ok1 (T : Nat → Int32) (n p c : Nat) : Prop := p < n ∧ T p = nI c
def eM (T : Nat → Int32) (n p c : Nat) (M : XM) : XM := if ok1 T n p c then x_wi M 39 4 (nI (p + 1)) else x_wi M 39 0 (nI p)
theorem c_expect {p c : Nat} (hG : Geo L b1 b2 M) (hR : RS T n p (nM 1) M) (hn : n ≤ 160) (hp : p ≤ n) (hc : c < 128) : f_X5_expect 39 (nI c) M = some (eM T n p c M) := by
  obtain ⟨r0, r3, r4, r5⟩ := id hR
  unfold eM
  by_cases q1 : p < n
  · have y := r5 p q1
    by_cases q2 : T p = nI c
    · rw [if_pos ⟨q1, q2⟩]
      rw [q2] at y
      simp (disch := first | assumption | omega) only [f_X5_expect, f_X5_expect_46, gt_39, gr_39_2, gt_49, gl_49, r0, r3, r4, y, l_of, n_ltT, n_ltF, n_leT, n_leF, n_eqT, n_eqF, n_neM, n_Mne, n_M0, n_Mlt, n_0leM, nI_clamp, x_in_nI, n_1, nI_add, x_at, x_bd_s, x_bv_s, ↓x_lt, decide_true, decide_false, Bool.and_self, Bool.true_and, Bool.and_true, if_true, if_false, ite_true, ite_false, ↓reduceIte, not_true_eq_false, not_false_eq_true, Nat.reduceAdd, Nat.reduceMul, Nat.reduceEqDiff, eq_self, true_and, and_true, false_and, and_false, Option.some.injEq, Prod.mk.injEq, l_0, l_1, l_2, l_3, l_4, l_5, l_6, l_7, l_8, l_9, l_10, l_100, l_160, ↓m_1, ↓m_2, ↓m_3, ↓m_4, ↓m_5, ↓m_6, ↓m_7]
    · rw [if_neg (fun w => q2 w.2)]
      simp (disch := first | assumption | omega) only [f_X5_expect, f_X5_expect_46, gt_39, gr_39_2, gt_49, gl_49, r0, r3, r4, y, q2, l_of, n_ltT, n_ltF, n_leT, n_leF, n_eqT, n_eqF, n_neM, n_Mne, n_M0, n_Mlt, n_0leM, nI_clamp, x_in_nI, n_1, nI_add, x_at, x_bd_s, x_bv_s, ↓x_lt, decide_true, decide_false, Bool.and_self, Bool.true_and, Bool.and_true, if_true, if_false, ite_true, ite_false, ↓reduceIte, not_true_eq_false, not_false_eq_true, Nat.reduceAdd, Nat.reduceMul, Nat.reduceEqDiff, eq_self, true_and, and_true, false_and, and_false, Option.some.injEq, Prod.mk.injEq, l_0, l_1, l_2, l_3, l_4, l_5, l_6, l_7, l_8, l_9, l_10, l_100, l_160, ↓m_1, ↓m_2, ↓m_3, ↓m_4, ↓m_5, ↓m_6, ↓m_7]
  · rw [if_neg (fun w => q1 w.1)]
    simp (disch := first | assumption | omega) only [f_X5_expect, f_X5_expect_46, gt_39, gr_39_2, gt_49, gl_49, r0, r3, r4, l_of, n_ltT, n_ltF, n_leT, n_leF, n_eqT, n_eqF, n_neM, n_Mne, n_M0, n_Mlt, n_0leM, nI_clamp, x_in_nI, n_1, nI_add, x_at, x_bd_s, x_bv_s, ↓x_lt, decide_true, decide_false, Bool.and_self, Bool.true_and, Bool.and_true, if_true, if_false, ite_true, ite_false, ↓reduceIte, not_true_eq_false, not_false_eq_true, Nat.reduceAdd, Nat.reduceMul, Nat.reduceEqDiff, eq_self, true_and, and_true, false_and, and_false, Option.some.injEq, Prod.mk.injEq, l_0, l_1, l_2, l_3, l_4, l_5, l_6, l_7, l_8, l_9, l_10, l_100, l_160, ↓m_1, ↓m_2, ↓m_3, ↓m_4, ↓m_5, ↓m_6, ↓m_7]
end
