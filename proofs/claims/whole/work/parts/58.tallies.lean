/-! TALLIES -/
def oI : Option Nat → Int32
  | none => nM 1
  | some x => nI x
/-- how many of the first m are v -/
def cal (ρ : XR) (v : Nat) : Nat → Nat
  | 0 => 0
  | m + 1 => cal ρ v m + (if r_q ρ 4 m = v then 1 else 0)
theorem cal_le (ρ : XR) (v m : Nat) : cal ρ v m ≤ m := by
  induction m with
  | zero => exact Nat.le_refl _
  | succ m ih =>
    show cal ρ v m + _ ≤ m + 1
    split <;> omega
def trs : Nat → XR → Nat → Option Nat → Option Nat
  | 0, _, _, b => b
  | m + 1, ρ, j, b => trs m ρ (j + 1) (if r_s ρ 5 ≤ cal ρ (r_q ρ 4 j) (r_s ρ 5) + 1 ∧ (b = none ∨ ∃ x, b = some x ∧ r_q ρ 4 j < x) then some (r_q ρ 4 j) else b)
def tru (ρ : XR) : Option Nat := trs (r_s ρ 5) ρ 0 none
def lis : Nat → XR → Nat → Option Nat
  | 0, _, _ => none
  | m + 1, ρ, j => if r_q ρ 4 j ≠ r_q ρ 4 (if j = 0 then 1 else 0) ∧ cal ρ (r_q ρ 4 (if j = 0 then 1 else 0)) (r_s ρ 5) + 1 = r_s ρ 5 then some j else lis m ρ (j + 1)
def lia (ρ : XR) : Option Nat := if r_s ρ 5 < 3 then none else lis (r_s ρ 5) ρ 0
def sps : Nat → XR → Nat → Nat → Nat → Nat
  | 0, _, _, l, g => g - l
  | m + 1, ρ, j, l, g => sps m ρ (j + 1) (if r_q ρ 4 j < l then r_q ρ 4 j else l) (if g < r_q ρ 4 j then r_q ρ 4 j else g)
def spr (ρ : XR) : Nat := if r_s ρ 5 = 0 then 0 else sps (r_s ρ 5 - 1) ρ 1 (r_q ρ 4 0) (r_q ρ 4 0)
theorem l_10000 : (10000 : Int32) = nI 10000 := rfl
theorem n_leM1 {a : Nat} (ha : a < 2147483648) : (nI a ≤ nM 1) = False := n_0leM (by omega) (by omega) ha
section
variable {L : Nat} {b1 b2 : Bool} {M : XM} {ρ : XR}
theorem c_cal (hG : Geo L b1 b2 M) (hR : CR 21 ρ M) (w7 : r_s ρ 5 ≤ 8) (wt : ∀ i, i < 8 → r_q ρ 4 i ≤ 9999) {v : Nat} (hv : v ≤ 9999) (m : Nat) : ∀ (n j : Nat), j + m = r_s ρ 5 → m < n →
    lp_X4_countAlike_4 n 21 (nI v) (nI (cal ρ v j)) (nI j) M = some (nI (cal ρ v (r_s ρ 5)), M) := by
  obtain ⟨⟨e0, e1, e2, e3, e4, e5, e6, e7⟩, hc, ht⟩ := id hR
  induction m with
  | zero =>
    intro n j hj hn
    obtain ⟨n, rfl⟩ : ∃ i, n = i + 1 := ⟨n - 1, by omega⟩
    rw [s_lp_X4_countAlike_4, show j = r_s ρ 5 by omega]
    simp (disch := first | assumption | omega) only [bd_X4_countAlike_4, gt_21, l_of, n_ltT, n_ltF, n_leT, n_leF, n_eqT, n_eqF, n_neM, n_Mne, n_M0, n_Mlt, n_0leM, nI_clamp, x_in_nI, n_1, nI_add, x_at, x_bd_s, x_bv_s, ↓x_lt, decide_true, decide_false, Bool.and_self, Bool.true_and, Bool.and_true, if_true, if_false, ite_true, ite_false, ↓reduceIte, not_true_eq_false, not_false_eq_true, Nat.reduceAdd, Nat.reduceMul, Nat.reduceEqDiff, eq_self, true_and, and_true, false_and, and_false, Option.some.injEq, Prod.mk.injEq, l_0, l_1, l_2, l_3, l_4, l_5, l_6, l_7, l_8, l_9, l_10, l_100, l_160, ↓m_1, ↓m_2, ↓m_3, ↓m_4, ↓m_5, ↓m_6, ↓m_7, e5]
  | succ m ih =>
    intro n j hj hn
    obtain ⟨n, rfl⟩ : ∃ i, n = i + 1 := ⟨n - 1, by omega⟩
    have y := ht j (by omega)
    have y2 := wt j (by omega)
    have y3 := cal_le ρ v j
    have g := ih n (j + 1) (by omega) (by omega)
    have e : cal ρ v (j + 1) = cal ρ v j + (if r_q ρ 4 j = v then 1 else 0) := rfl
    rw [e] at g
    rw [s_lp_X4_countAlike_4]
    by_cases hx : r_q ρ 4 j = v
    · rw [if_pos hx] at g
      simp (disch := first | assumption | omega) only [bd_X4_countAlike_4, f_X4_countAlike_25, gt_21, gr_21_6, gt_23, gl_23, l_of, n_ltT, n_ltF, n_leT, n_leF, n_eqT, n_eqF, n_neM, n_Mne, n_M0, n_Mlt, n_0leM, nI_clamp, x_in_nI, n_1, nI_add, x_at, x_bd_s, x_bv_s, ↓x_lt, decide_true, decide_false, Bool.and_self, Bool.true_and, Bool.and_true, if_true, if_false, ite_true, ite_false, ↓reduceIte, not_true_eq_false, not_false_eq_true, Nat.reduceAdd, Nat.reduceMul, Nat.reduceEqDiff, eq_self, true_and, and_true, false_and, and_false, Option.some.injEq, Prod.mk.injEq, l_0, l_1, l_2, l_3, l_4, l_5, l_6, l_7, l_8, l_9, l_10, l_100, l_160, ↓m_1, ↓m_2, ↓m_3, ↓m_4, ↓m_5, ↓m_6, ↓m_7, e5, y, hx]
      exact g
    · rw [if_neg hx] at g
      simp (disch := first | assumption | omega) only [bd_X4_countAlike_4, f_X4_countAlike_25, gt_21, gr_21_6, gt_23, gl_23, l_of, n_ltT, n_ltF, n_leT, n_leF, n_eqT, n_eqF, n_neM, n_Mne, n_M0, n_Mlt, n_0leM, nI_clamp, x_in_nI, n_1, nI_add, x_at, x_bd_s, x_bv_s, ↓x_lt, decide_true, decide_false, Bool.and_self, Bool.true_and, Bool.and_true, if_true, if_false, ite_true, ite_false, ↓reduceIte, not_true_eq_false, not_false_eq_true, Nat.reduceAdd, Nat.reduceMul, Nat.reduceEqDiff, eq_self, true_and, and_true, false_and, and_false, Option.some.injEq, Prod.mk.injEq, l_0, l_1, l_2, l_3, l_4, l_5, l_6, l_7, l_8, l_9, l_10, l_100, l_160, ↓m_1, ↓m_2, ↓m_3, ↓m_4, ↓m_5, ↓m_6, ↓m_7, e5, y, hx]
      exact g
theorem m_cal (hG : Geo L b1 b2 M) (hR : MR ρ M) (w7 : r_s ρ 5 ≤ 8) (wt : ∀ i, i < 8 → r_q ρ 4 i ≤ 9999) {v : Nat} (hv : v ≤ 9999) (m : Nat) : ∀ (n j : Nat), j + m = r_s ρ 5 → m < n →
    lp_X9_haveIt_4 n 83 (nI v) (nI (cal ρ v j)) (nI j) M = some (nI (cal ρ v (r_s ρ 5)), M) := by
  obtain ⟨⟨e0, e1, e2, e3, e4, e5, e6, e7⟩, hc, ht⟩ := id hR
  induction m with
  | zero =>
    intro n j hj hn
    obtain ⟨n, rfl⟩ : ∃ i, n = i + 1 := ⟨n - 1, by omega⟩
    rw [s_lp_X9_haveIt_4, show j = r_s ρ 5 by omega]
    simp (disch := first | assumption | omega) only [bd_X9_haveIt_4, gt_83, l_of, n_ltT, n_ltF, n_leT, n_leF, n_eqT, n_eqF, n_neM, n_Mne, n_M0, n_Mlt, n_0leM, nI_clamp, x_in_nI, n_1, nI_add, x_at, x_bd_s, x_bv_s, ↓x_lt, decide_true, decide_false, Bool.and_self, Bool.true_and, Bool.and_true, if_true, if_false, ite_true, ite_false, ↓reduceIte, not_true_eq_false, not_false_eq_true, Nat.reduceAdd, Nat.reduceMul, Nat.reduceEqDiff, eq_self, true_and, and_true, false_and, and_false, Option.some.injEq, Prod.mk.injEq, l_0, l_1, l_2, l_3, l_4, l_5, l_6, l_7, l_8, l_9, l_10, l_100, l_160, ↓m_1, ↓m_2, ↓m_3, ↓m_4, ↓m_5, ↓m_6, ↓m_7, e5]
  | succ m ih =>
    intro n j hj hn
    obtain ⟨n, rfl⟩ : ∃ i, n = i + 1 := ⟨n - 1, by omega⟩
    have y := ht j (by omega)
    have y2 := wt j (by omega)
    have y3 := cal_le ρ v j
    have g := ih n (j + 1) (by omega) (by omega)
    have e : cal ρ v (j + 1) = cal ρ v j + (if r_q ρ 4 j = v then 1 else 0) := rfl
    rw [e] at g
    rw [s_lp_X9_haveIt_4]
    by_cases hx : r_q ρ 4 j = v
    · rw [if_pos hx] at g
      simp (disch := first | assumption | omega) only [bd_X9_haveIt_4, f_X9_haveIt_25, gt_83, gr_83_15, gt_90, gl_90, l_of, n_ltT, n_ltF, n_leT, n_leF, n_eqT, n_eqF, n_neM, n_Mne, n_M0, n_Mlt, n_0leM, nI_clamp, x_in_nI, n_1, nI_add, x_at, x_bd_s, x_bv_s, ↓x_lt, decide_true, decide_false, Bool.and_self, Bool.true_and, Bool.and_true, if_true, if_false, ite_true, ite_false, ↓reduceIte, not_true_eq_false, not_false_eq_true, Nat.reduceAdd, Nat.reduceMul, Nat.reduceEqDiff, eq_self, true_and, and_true, false_and, and_false, Option.some.injEq, Prod.mk.injEq, l_0, l_1, l_2, l_3, l_4, l_5, l_6, l_7, l_8, l_9, l_10, l_100, l_160, ↓m_1, ↓m_2, ↓m_3, ↓m_4, ↓m_5, ↓m_6, ↓m_7, e5, y, hx]
      exact g
    · rw [if_neg hx] at g
      simp (disch := first | assumption | omega) only [bd_X9_haveIt_4, f_X9_haveIt_25, gt_83, gr_83_15, gt_90, gl_90, l_of, n_ltT, n_ltF, n_leT, n_leF, n_eqT, n_eqF, n_neM, n_Mne, n_M0, n_Mlt, n_0leM, nI_clamp, x_in_nI, n_1, nI_add, x_at, x_bd_s, x_bv_s, ↓x_lt, decide_true, decide_false, Bool.and_self, Bool.true_and, Bool.and_true, if_true, if_false, ite_true, ite_false, ↓reduceIte, not_true_eq_false, not_false_eq_true, Nat.reduceAdd, Nat.reduceMul, Nat.reduceEqDiff, eq_self, true_and, and_true, false_and, and_false, Option.some.injEq, Prod.mk.injEq, l_0, l_1, l_2, l_3, l_4, l_5, l_6, l_7, l_8, l_9, l_10, l_100, l_160, ↓m_1, ↓m_2, ↓m_3, ↓m_4, ↓m_5, ↓m_6, ↓m_7, e5, y, hx]
      exact g
theorem c_calf (hG : Geo L b1 b2 M) (hR : CR 21 ρ M) (w7 : r_s ρ 5 ≤ 8) (wt : ∀ i, i < 8 → r_q ρ 4 i ≤ 9999) {v : Nat} (hv : v ≤ 9999) : f_X4_countAlike 21 (nI v) M = some (nI (cal ρ v (r_s ρ 5)), M) :=
  c_cal hG hR w7 wt hv (r_s ρ 5) x_fuel 0 (by omega) (fu (by omega))
theorem m_calf (hG : Geo L b1 b2 M) (hR : MR ρ M) (w7 : r_s ρ 5 ≤ 8) (wt : ∀ i, i < 8 → r_q ρ 4 i ≤ 9999) {v : Nat} (hv : v ≤ 9999) : f_X9_haveIt 83 (nI v) M = some (nI (cal ρ v (r_s ρ 5)), M) :=
  m_cal hG hR w7 wt hv (r_s ρ 5) x_fuel 0 (by omega) (fu (by omega))
theorem c_trs (hG : Geo L b1 b2 M) (hR : CR 21 ρ M) (w7 : r_s ρ 5 ≤ 8) (wt : ∀ i, i < 8 → r_q ρ 4 i ≤ 9999) (m : Nat) : ∀ (n j : Nat) (b : Option Nat), j + m = r_s ρ 5 → m < n → (∀ x, b = some x → x ≤ 9999) →
    lp_X4_leastTrue_4 n 21 (oI b) (nI j) M = some (oI (trs m ρ j b), M) := by
  obtain ⟨⟨e0, e1, e2, e3, e4, e5, e6, e7⟩, hc, ht⟩ := id hR
  induction m with
  | zero =>
    intro n j b hj hn hb
    obtain ⟨n, rfl⟩ : ∃ i, n = i + 1 := ⟨n - 1, by omega⟩
    rw [s_lp_X4_leastTrue_4, show j = r_s ρ 5 by omega]
    simp (disch := first | assumption | omega) only [bd_X4_leastTrue_4, gt_21, l_of, n_ltT, n_ltF, n_leT, n_leF, n_eqT, n_eqF, n_neM, n_Mne, n_M0, n_Mlt, n_0leM, nI_clamp, x_in_nI, n_1, nI_add, x_at, x_bd_s, x_bv_s, ↓x_lt, decide_true, decide_false, Bool.and_self, Bool.true_and, Bool.and_true, if_true, if_false, ite_true, ite_false, ↓reduceIte, not_true_eq_false, not_false_eq_true, Nat.reduceAdd, Nat.reduceMul, Nat.reduceEqDiff, eq_self, true_and, and_true, false_and, and_false, Option.some.injEq, Prod.mk.injEq, l_0, l_1, l_2, l_3, l_4, l_5, l_6, l_7, l_8, l_9, l_10, l_100, l_160, ↓m_1, ↓m_2, ↓m_3, ↓m_4, ↓m_5, ↓m_6, ↓m_7, e5, trs]
  | succ m ih =>
    intro n j b hj hn hb
    obtain ⟨n, rfl⟩ : ∃ i, n = i + 1 := ⟨n - 1, by omega⟩
    have y := ht j (by omega)
    have y2 := wt j (by omega)
    have hca := c_calf hG hR w7 wt y2
    have y3 := cal_le ρ (r_q ρ 4 j) (r_s ρ 5)
    have z1 : nI (r_s ρ 5) - nI 1 = nI (r_s ρ 5 - 1) := pk_sub (by omega)
    have g := fun b' hb' => ih n (j + 1) b' (by omega) (by omega) hb'
    rw [s_lp_X4_leastTrue_4]
    unfold trs
    by_cases h1 : r_s ρ 5 ≤ cal ρ (r_q ρ 4 j) (r_s ρ 5) + 1
    · cases b with
      | none =>
        rw [if_pos ⟨h1, Or.inl rfl⟩]
        have g1 := g (some (r_q ρ 4 j)) (fun x hx => by cases hx; exact y2)
        simp (disch := first | assumption | omega) only [bd_X4_leastTrue_4, f_X4_leastTrue_c21, f_X4_leastTrue_38, f_X4_leastTrue_55, f_X4_leastTrue_57, gt_21, gr_21_6, gt_23, gl_23, l_of, n_ltT, n_ltF, n_leT, n_leF, n_eqT, n_eqF, n_neM, n_Mne, n_M0, n_Mlt, n_0leM, nI_clamp, x_in_nI, n_1, nI_add, x_at, x_bd_s, x_bv_s, ↓x_lt, decide_true, decide_false, Bool.and_self, Bool.true_and, Bool.and_true, if_true, if_false, ite_true, ite_false, ↓reduceIte, not_true_eq_false, not_false_eq_true, Nat.reduceAdd, Nat.reduceMul, Nat.reduceEqDiff, eq_self, true_and, and_true, false_and, and_false, Option.some.injEq, Prod.mk.injEq, l_0, l_1, l_2, l_3, l_4, l_5, l_6, l_7, l_8, l_9, l_10, l_100, l_160, ↓m_1, ↓m_2, ↓m_3, ↓m_4, ↓m_5, ↓m_6, ↓m_7, e5, y, hca, z1, oI]
        exact g1
      | some x =>
        have hx := hb x rfl
        by_cases h2 : r_q ρ 4 j < x
        · rw [if_pos ⟨h1, Or.inr ⟨x, rfl, h2⟩⟩]
          have g1 := g (some (r_q ρ 4 j)) (fun x hx => by cases hx; exact y2)
          simp (disch := first | assumption | omega) only [bd_X4_leastTrue_4, f_X4_leastTrue_c21, f_X4_leastTrue_38, f_X4_leastTrue_55, f_X4_leastTrue_57, gt_21, gr_21_6, gt_23, gl_23, l_of, n_ltT, n_ltF, n_leT, n_leF, n_eqT, n_eqF, n_neM, n_Mne, n_M0, n_Mlt, n_0leM, nI_clamp, x_in_nI, n_1, nI_add, x_at, x_bd_s, x_bv_s, ↓x_lt, decide_true, decide_false, Bool.and_self, Bool.true_and, Bool.and_true, if_true, if_false, ite_true, ite_false, ↓reduceIte, not_true_eq_false, not_false_eq_true, Nat.reduceAdd, Nat.reduceMul, Nat.reduceEqDiff, eq_self, true_and, and_true, false_and, and_false, Option.some.injEq, Prod.mk.injEq, l_0, l_1, l_2, l_3, l_4, l_5, l_6, l_7, l_8, l_9, l_10, l_100, l_160, ↓m_1, ↓m_2, ↓m_3, ↓m_4, ↓m_5, ↓m_6, ↓m_7, e5, y, hca, z1, oI]
          exact g1
        · rw [if_neg (fun q => by
            rcases q.2 with q | ⟨z, q, q2⟩
            · cases q
            · cases q; exact h2 q2)]
          have g1 := g (some x) hb
          simp (disch := first | assumption | omega) only [bd_X4_leastTrue_4, f_X4_leastTrue_c21, f_X4_leastTrue_38, f_X4_leastTrue_55, f_X4_leastTrue_57, gt_21, gr_21_6, gt_23, gl_23, l_of, n_ltT, n_ltF, n_leT, n_leF, n_eqT, n_eqF, n_neM, n_Mne, n_M0, n_Mlt, n_0leM, nI_clamp, x_in_nI, n_1, nI_add, x_at, x_bd_s, x_bv_s, ↓x_lt, decide_true, decide_false, Bool.and_self, Bool.true_and, Bool.and_true, if_true, if_false, ite_true, ite_false, ↓reduceIte, not_true_eq_false, not_false_eq_true, Nat.reduceAdd, Nat.reduceMul, Nat.reduceEqDiff, eq_self, true_and, and_true, false_and, and_false, Option.some.injEq, Prod.mk.injEq, l_0, l_1, l_2, l_3, l_4, l_5, l_6, l_7, l_8, l_9, l_10, l_100, l_160, ↓m_1, ↓m_2, ↓m_3, ↓m_4, ↓m_5, ↓m_6, ↓m_7, e5, y, hca, z1, oI]
          exact g1
    · rw [if_neg (fun q => h1 q.1)]
      have g1 := g b hb
      simp (disch := first | assumption | omega) only [bd_X4_leastTrue_4, f_X4_leastTrue_c21, f_X4_leastTrue_38, f_X4_leastTrue_55, f_X4_leastTrue_57, gt_21, gr_21_6, gt_23, gl_23, l_of, n_ltT, n_ltF, n_leT, n_leF, n_eqT, n_eqF, n_neM, n_Mne, n_M0, n_Mlt, n_0leM, nI_clamp, x_in_nI, n_1, nI_add, x_at, x_bd_s, x_bv_s, ↓x_lt, decide_true, decide_false, Bool.and_self, Bool.true_and, Bool.and_true, if_true, if_false, ite_true, ite_false, ↓reduceIte, not_true_eq_false, not_false_eq_true, Nat.reduceAdd, Nat.reduceMul, Nat.reduceEqDiff, eq_self, true_and, and_true, false_and, and_false, Option.some.injEq, Prod.mk.injEq, l_0, l_1, l_2, l_3, l_4, l_5, l_6, l_7, l_8, l_9, l_10, l_100, l_160, ↓m_1, ↓m_2, ↓m_3, ↓m_4, ↓m_5, ↓m_6, ↓m_7, e5, y, hca, z1]
      exact g1
theorem m_trs (hG : Geo L b1 b2 M) (hR : MR ρ M) (w7 : r_s ρ 5 ≤ 8) (wt : ∀ i, i < 8 → r_q ρ 4 i ≤ 9999) (m : Nat) : ∀ (n j : Nat) (b : Option Nat), j + m = r_s ρ 5 → m < n → (∀ x, b = some x → x ≤ 9999) →
    lp_X9_truth_4 n 83 (oI b) (nI j) M = some (oI (trs m ρ j b), M) := by
  obtain ⟨⟨e0, e1, e2, e3, e4, e5, e6, e7⟩, hc, ht⟩ := id hR
  induction m with
  | zero =>
    intro n j b hj hn hb
    obtain ⟨n, rfl⟩ : ∃ i, n = i + 1 := ⟨n - 1, by omega⟩
    rw [s_lp_X9_truth_4, show j = r_s ρ 5 by omega]
    simp (disch := first | assumption | omega) only [bd_X9_truth_4, gt_83, l_of, n_ltT, n_ltF, n_leT, n_leF, n_eqT, n_eqF, n_neM, n_Mne, n_M0, n_Mlt, n_0leM, nI_clamp, x_in_nI, n_1, nI_add, x_at, x_bd_s, x_bv_s, ↓x_lt, decide_true, decide_false, Bool.and_self, Bool.true_and, Bool.and_true, if_true, if_false, ite_true, ite_false, ↓reduceIte, not_true_eq_false, not_false_eq_true, Nat.reduceAdd, Nat.reduceMul, Nat.reduceEqDiff, eq_self, true_and, and_true, false_and, and_false, Option.some.injEq, Prod.mk.injEq, l_0, l_1, l_2, l_3, l_4, l_5, l_6, l_7, l_8, l_9, l_10, l_100, l_160, ↓m_1, ↓m_2, ↓m_3, ↓m_4, ↓m_5, ↓m_6, ↓m_7, e5, trs]
  | succ m ih =>
    intro n j b hj hn hb
    obtain ⟨n, rfl⟩ : ∃ i, n = i + 1 := ⟨n - 1, by omega⟩
    have y := ht j (by omega)
    have y2 := wt j (by omega)
    have hca := m_calf hG hR w7 wt y2
    have y3 := cal_le ρ (r_q ρ 4 j) (r_s ρ 5)
    have z1 : nI (r_s ρ 5) - nI 1 = nI (r_s ρ 5 - 1) := pk_sub (by omega)
    have g := fun b' hb' => ih n (j + 1) b' (by omega) (by omega) hb'
    rw [s_lp_X9_truth_4]
    unfold trs
    by_cases h1 : r_s ρ 5 ≤ cal ρ (r_q ρ 4 j) (r_s ρ 5) + 1
    · cases b with
      | none =>
        rw [if_pos ⟨h1, Or.inl rfl⟩]
        have g1 := g (some (r_q ρ 4 j)) (fun x hx => by cases hx; exact y2)
        simp (disch := first | assumption | omega) only [bd_X9_truth_4, f_X9_truth_c19, f_X9_truth_49, f_X9_truth_56, gt_83, gr_83_15, gt_90, gl_90, l_of, n_ltT, n_ltF, n_leT, n_leF, n_eqT, n_eqF, n_neM, n_Mne, n_M0, n_Mlt, n_0leM, nI_clamp, x_in_nI, n_1, nI_add, x_at, x_bd_s, x_bv_s, ↓x_lt, decide_true, decide_false, Bool.and_self, Bool.true_and, Bool.and_true, if_true, if_false, ite_true, ite_false, ↓reduceIte, not_true_eq_false, not_false_eq_true, Nat.reduceAdd, Nat.reduceMul, Nat.reduceEqDiff, eq_self, true_and, and_true, false_and, and_false, Option.some.injEq, Prod.mk.injEq, l_0, l_1, l_2, l_3, l_4, l_5, l_6, l_7, l_8, l_9, l_10, l_100, l_160, ↓m_1, ↓m_2, ↓m_3, ↓m_4, ↓m_5, ↓m_6, ↓m_7, e5, y, hca, z1, oI]
        exact g1
      | some x =>
        have hx := hb x rfl
        by_cases h2 : r_q ρ 4 j < x
        · rw [if_pos ⟨h1, Or.inr ⟨x, rfl, h2⟩⟩]
          have g1 := g (some (r_q ρ 4 j)) (fun x hx => by cases hx; exact y2)
          simp (disch := first | assumption | omega) only [bd_X9_truth_4, f_X9_truth_c19, f_X9_truth_49, f_X9_truth_56, gt_83, gr_83_15, gt_90, gl_90, l_of, n_ltT, n_ltF, n_leT, n_leF, n_eqT, n_eqF, n_neM, n_Mne, n_M0, n_Mlt, n_0leM, nI_clamp, x_in_nI, n_1, nI_add, x_at, x_bd_s, x_bv_s, ↓x_lt, decide_true, decide_false, Bool.and_self, Bool.true_and, Bool.and_true, if_true, if_false, ite_true, ite_false, ↓reduceIte, not_true_eq_false, not_false_eq_true, Nat.reduceAdd, Nat.reduceMul, Nat.reduceEqDiff, eq_self, true_and, and_true, false_and, and_false, Option.some.injEq, Prod.mk.injEq, l_0, l_1, l_2, l_3, l_4, l_5, l_6, l_7, l_8, l_9, l_10, l_100, l_160, ↓m_1, ↓m_2, ↓m_3, ↓m_4, ↓m_5, ↓m_6, ↓m_7, e5, y, hca, z1, oI]
          exact g1
        · rw [if_neg (fun q => by
            rcases q.2 with q | ⟨z, q, q2⟩
            · cases q
            · cases q; exact h2 q2)]
          have g1 := g (some x) hb
          simp (disch := first | assumption | omega) only [bd_X9_truth_4, f_X9_truth_c19, f_X9_truth_49, f_X9_truth_56, gt_83, gr_83_15, gt_90, gl_90, l_of, n_ltT, n_ltF, n_leT, n_leF, n_eqT, n_eqF, n_neM, n_Mne, n_M0, n_Mlt, n_0leM, nI_clamp, x_in_nI, n_1, nI_add, x_at, x_bd_s, x_bv_s, ↓x_lt, decide_true, decide_false, Bool.and_self, Bool.true_and, Bool.and_true, if_true, if_false, ite_true, ite_false, ↓reduceIte, not_true_eq_false, not_false_eq_true, Nat.reduceAdd, Nat.reduceMul, Nat.reduceEqDiff, eq_self, true_and, and_true, false_and, and_false, Option.some.injEq, Prod.mk.injEq, l_0, l_1, l_2, l_3, l_4, l_5, l_6, l_7, l_8, l_9, l_10, l_100, l_160, ↓m_1, ↓m_2, ↓m_3, ↓m_4, ↓m_5, ↓m_6, ↓m_7, e5, y, hca, z1, oI]
          exact g1
    · rw [if_neg (fun q => h1 q.1)]
      have g1 := g b hb
      simp (disch := first | assumption | omega) only [bd_X9_truth_4, f_X9_truth_c19, f_X9_truth_49, f_X9_truth_56, gt_83, gr_83_15, gt_90, gl_90, l_of, n_ltT, n_ltF, n_leT, n_leF, n_eqT, n_eqF, n_neM, n_Mne, n_M0, n_Mlt, n_0leM, nI_clamp, x_in_nI, n_1, nI_add, x_at, x_bd_s, x_bv_s, ↓x_lt, decide_true, decide_false, Bool.and_self, Bool.true_and, Bool.and_true, if_true, if_false, ite_true, ite_false, ↓reduceIte, not_true_eq_false, not_false_eq_true, Nat.reduceAdd, Nat.reduceMul, Nat.reduceEqDiff, eq_self, true_and, and_true, false_and, and_false, Option.some.injEq, Prod.mk.injEq, l_0, l_1, l_2, l_3, l_4, l_5, l_6, l_7, l_8, l_9, l_10, l_100, l_160, ↓m_1, ↓m_2, ↓m_3, ↓m_4, ↓m_5, ↓m_6, ↓m_7, e5, y, hca, z1]
      exact g1
theorem c_tru (hG : Geo L b1 b2 M) (hR : CR 21 ρ M) (w7 : r_s ρ 5 ≤ 8) (wt : ∀ i, i < 8 → r_q ρ 4 i ≤ 9999) : f_X4_leastTrue 21 M = some (oI (tru ρ), M) := by
  have q := c_trs hG hR w7 wt (r_s ρ 5) x_fuel 0 none (by omega) (fu (by omega)) (fun x hx => by cases hx)
  rw [f_X4_leastTrue, m_1]
  exact q
theorem m_tru (hG : Geo L b1 b2 M) (hR : MR ρ M) (w7 : r_s ρ 5 ≤ 8) (wt : ∀ i, i < 8 → r_q ρ 4 i ≤ 9999) : f_X9_truth 83 M = some (oI (tru ρ), M) := by
  have q := m_trs hG hR w7 wt (r_s ρ 5) x_fuel 0 none (by omega) (fu (by omega)) (fun x hx => by cases hx)
  rw [f_X9_truth, m_1]
  exact q
theorem c_lis (hG : Geo L b1 b2 M) (hR : CR 21 ρ M) (w7 : r_s ρ 5 ≤ 8) (w3 : 3 ≤ r_s ρ 5) (wt : ∀ i, i < 8 → r_q ρ 4 i ≤ 9999) (m : Nat) : ∀ (n j : Nat), j + m = r_s ρ 5 → m < n →
    lp_X4_liar_12 n 21 (nI j) M = some (oI (lis m ρ j), M) := by
  obtain ⟨⟨e0, e1, e2, e3, e4, e5, e6, e7⟩, hc, ht⟩ := id hR
  induction m with
  | zero =>
    intro n j hj hn
    obtain ⟨n, rfl⟩ : ∃ i, n = i + 1 := ⟨n - 1, by omega⟩
    rw [s_lp_X4_liar_12, show j = r_s ρ 5 by omega]
    simp (disch := first | assumption | omega) only [bd_X4_liar_12, gt_21, l_of, n_ltT, n_ltF, n_leT, n_leF, n_eqT, n_eqF, n_neM, n_Mne, n_M0, n_Mlt, n_0leM, nI_clamp, x_in_nI, n_1, nI_add, x_at, x_bd_s, x_bv_s, ↓x_lt, decide_true, decide_false, Bool.and_self, Bool.true_and, Bool.and_true, if_true, if_false, ite_true, ite_false, ↓reduceIte, not_true_eq_false, not_false_eq_true, Nat.reduceAdd, Nat.reduceMul, Nat.reduceEqDiff, eq_self, true_and, and_true, false_and, and_false, Option.some.injEq, Prod.mk.injEq, l_0, l_1, l_2, l_3, l_4, l_5, l_6, l_7, l_8, l_9, l_10, l_100, l_160, ↓m_1, ↓m_2, ↓m_3, ↓m_4, ↓m_5, ↓m_6, ↓m_7, e5, lis, oI]
  | succ m ih =>
    intro n j hj hn
    obtain ⟨n, rfl⟩ : ∃ i, n = i + 1 := ⟨n - 1, by omega⟩
    have y := ht j (by omega)
    have y2 := wt j (by omega)
    have z1 : nI (r_s ρ 5) - nI 1 = nI (r_s ρ 5 - 1) := pk_sub (by omega)
    have g := ih n (j + 1) (by omega) (by omega)
    rw [s_lp_X4_liar_12]
    unfold lis
    have hd : ∃ d, d < 2 ∧ (if j = 0 then 1 else 0) = d := by split <;> exact ⟨_, by omega, rfl⟩
    have key : ∀ d, d < 2 → f_X4_liar_33 (lp_X4_liar_12 n) 21 (nI j) (nI d) 23 M = some (oI (if r_q ρ 4 j ≠ r_q ρ 4 d ∧ cal ρ (r_q ρ 4 d) (r_s ρ 5) + 1 = r_s ρ 5 then some j else lis m ρ (j + 1)), M) := by
      intro d hd
      have yd := ht d (by omega)
      have yd2 := wt d (by omega)
      have hca := c_calf hG hR w7 wt yd2
      have y3 := cal_le ρ (r_q ρ 4 d) (r_s ρ 5)
      by_cases h1 : r_q ρ 4 j = r_q ρ 4 d
      · rw [if_neg (fun q => q.1 h1)]
        simp (disch := first | assumption | omega) only [f_X4_liar_33, f_X4_liar_c47, f_X4_liar_61, gt_21, gr_21_6, gt_23, gl_23, l_of, n_ltT, n_ltF, n_leT, n_leF, n_eqT, n_eqF, n_neM, n_Mne, n_M0, n_Mlt, n_0leM, nI_clamp, x_in_nI, n_1, nI_add, x_at, x_bd_s, x_bv_s, ↓x_lt, decide_true, decide_false, Bool.and_self, Bool.true_and, Bool.and_true, if_true, if_false, ite_true, ite_false, ↓reduceIte, not_true_eq_false, not_false_eq_true, Nat.reduceAdd, Nat.reduceMul, Nat.reduceEqDiff, eq_self, true_and, and_true, false_and, and_false, Option.some.injEq, Prod.mk.injEq, l_0, l_1, l_2, l_3, l_4, l_5, l_6, l_7, l_8, l_9, l_10, l_100, l_160, ↓m_1, ↓m_2, ↓m_3, ↓m_4, ↓m_5, ↓m_6, ↓m_7, e5, y, yd, h1]
        exact g
      · by_cases h2 : cal ρ (r_q ρ 4 d) (r_s ρ 5) + 1 = r_s ρ 5
        · rw [if_pos ⟨h1, h2⟩]
          simp (disch := first | assumption | omega) only [f_X4_liar_33, f_X4_liar_c47, f_X4_liar_61, gt_21, gr_21_6, gt_23, gl_23, l_of, n_ltT, n_ltF, n_leT, n_leF, n_eqT, n_eqF, n_neM, n_Mne, n_M0, n_Mlt, n_0leM, nI_clamp, x_in_nI, n_1, nI_add, x_at, x_bd_s, x_bv_s, ↓x_lt, decide_true, decide_false, Bool.and_self, Bool.true_and, Bool.and_true, if_true, if_false, ite_true, ite_false, ↓reduceIte, not_true_eq_false, not_false_eq_true, Nat.reduceAdd, Nat.reduceMul, Nat.reduceEqDiff, eq_self, true_and, and_true, false_and, and_false, Option.some.injEq, Prod.mk.injEq, l_0, l_1, l_2, l_3, l_4, l_5, l_6, l_7, l_8, l_9, l_10, l_100, l_160, ↓m_1, ↓m_2, ↓m_3, ↓m_4, ↓m_5, ↓m_6, ↓m_7, e5, y, yd, h1, hca, z1, oI]
        · rw [if_neg (fun q => h2 q.2)]
          simp (disch := first | assumption | omega) only [f_X4_liar_33, f_X4_liar_c47, f_X4_liar_61, gt_21, gr_21_6, gt_23, gl_23, l_of, n_ltT, n_ltF, n_leT, n_leF, n_eqT, n_eqF, n_neM, n_Mne, n_M0, n_Mlt, n_0leM, nI_clamp, x_in_nI, n_1, nI_add, x_at, x_bd_s, x_bv_s, ↓x_lt, decide_true, decide_false, Bool.and_self, Bool.true_and, Bool.and_true, if_true, if_false, ite_true, ite_false, ↓reduceIte, not_true_eq_false, not_false_eq_true, Nat.reduceAdd, Nat.reduceMul, Nat.reduceEqDiff, eq_self, true_and, and_true, false_and, and_false, Option.some.injEq, Prod.mk.injEq, l_0, l_1, l_2, l_3, l_4, l_5, l_6, l_7, l_8, l_9, l_10, l_100, l_160, ↓m_1, ↓m_2, ↓m_3, ↓m_4, ↓m_5, ↓m_6, ↓m_7, e5, y, yd, h1, hca, z1]
          exact g
    by_cases hj0 : j = 0
    · subst hj0
      have k := key 1 (by omega)
      rw [if_pos rfl]
      simp (disch := first | assumption | omega) only [bd_X4_liar_12, gt_21, gr_21_6, l_of, n_ltT, n_ltF, n_leT, n_leF, n_eqT, n_eqF, n_neM, n_Mne, n_M0, n_Mlt, n_0leM, nI_clamp, x_in_nI, n_1, nI_add, x_at, x_bd_s, x_bv_s, ↓x_lt, decide_true, decide_false, Bool.and_self, Bool.true_and, Bool.and_true, if_true, if_false, ite_true, ite_false, ↓reduceIte, not_true_eq_false, not_false_eq_true, Nat.reduceAdd, Nat.reduceMul, Nat.reduceEqDiff, eq_self, true_and, and_true, false_and, and_false, Option.some.injEq, Prod.mk.injEq, l_0, l_1, l_2, l_3, l_4, l_5, l_6, l_7, l_8, l_9, l_10, l_100, l_160, ↓m_1, ↓m_2, ↓m_3, ↓m_4, ↓m_5, ↓m_6, ↓m_7, e5]
      exact k
    · have k := key 0 (by omega)
      rw [if_neg hj0]
      simp (disch := first | assumption | omega) only [bd_X4_liar_12, gt_21, gr_21_6, l_of, n_ltT, n_ltF, n_leT, n_leF, n_eqT, n_eqF, n_neM, n_Mne, n_M0, n_Mlt, n_0leM, nI_clamp, x_in_nI, n_1, nI_add, x_at, x_bd_s, x_bv_s, ↓x_lt, decide_true, decide_false, Bool.and_self, Bool.true_and, Bool.and_true, if_true, if_false, ite_true, ite_false, ↓reduceIte, not_true_eq_false, not_false_eq_true, Nat.reduceAdd, Nat.reduceMul, Nat.reduceEqDiff, eq_self, true_and, and_true, false_and, and_false, Option.some.injEq, Prod.mk.injEq, l_0, l_1, l_2, l_3, l_4, l_5, l_6, l_7, l_8, l_9, l_10, l_100, l_160, ↓m_1, ↓m_2, ↓m_3, ↓m_4, ↓m_5, ↓m_6, ↓m_7, e5, hj0]
      exact k
theorem c_lia (hG : Geo L b1 b2 M) (hR : CR 21 ρ M) (w7 : r_s ρ 5 ≤ 8) (wt : ∀ i, i < 8 → r_q ρ 4 i ≤ 9999) : f_X4_liar 21 M = some (oI (lia ρ), M) := by
  have e5 := hR.1.2.2.2.2.2.1
  unfold lia
  by_cases h : r_s ρ 5 < 3
  · rw [if_pos h]
    simp (disch := first | assumption | omega) only [f_X4_liar, gt_21, l_of, n_ltT, n_ltF, n_leT, n_leF, n_eqT, n_eqF, n_neM, n_Mne, n_M0, n_Mlt, n_0leM, nI_clamp, x_in_nI, n_1, nI_add, x_at, x_bd_s, x_bv_s, ↓x_lt, decide_true, decide_false, Bool.and_self, Bool.true_and, Bool.and_true, if_true, if_false, ite_true, ite_false, ↓reduceIte, not_true_eq_false, not_false_eq_true, Nat.reduceAdd, Nat.reduceMul, Nat.reduceEqDiff, eq_self, true_and, and_true, false_and, and_false, Option.some.injEq, Prod.mk.injEq, l_0, l_1, l_2, l_3, l_4, l_5, l_6, l_7, l_8, l_9, l_10, l_100, l_160, ↓m_1, ↓m_2, ↓m_3, ↓m_4, ↓m_5, ↓m_6, ↓m_7, e5, oI]
  · have q := c_lis hG hR w7 (by omega) wt (r_s ρ 5) x_fuel 0 (by omega) (fu (by omega))
    rw [if_neg h]
    simp (disch := first | assumption | omega) only [f_X4_liar, gt_21, l_of, n_ltT, n_ltF, n_leT, n_leF, n_eqT, n_eqF, n_neM, n_Mne, n_M0, n_Mlt, n_0leM, nI_clamp, x_in_nI, n_1, nI_add, x_at, x_bd_s, x_bv_s, ↓x_lt, decide_true, decide_false, Bool.and_self, Bool.true_and, Bool.and_true, if_true, if_false, ite_true, ite_false, ↓reduceIte, not_true_eq_false, not_false_eq_true, Nat.reduceAdd, Nat.reduceMul, Nat.reduceEqDiff, eq_self, true_and, and_true, false_and, and_false, Option.some.injEq, Prod.mk.injEq, l_0, l_1, l_2, l_3, l_4, l_5, l_6, l_7, l_8, l_9, l_10, l_100, l_160, ↓m_1, ↓m_2, ↓m_3, ↓m_4, ↓m_5, ↓m_6, ↓m_7, e5]
    exact q
theorem m_lis (hG : Geo L b1 b2 M) (hR : MR ρ M) (w7 : r_s ρ 5 ≤ 8) (w3 : 3 ≤ r_s ρ 5) (wt : ∀ i, i < 8 → r_q ρ 4 i ≤ 9999) (m : Nat) : ∀ (n j : Nat), j + m = r_s ρ 5 → m < n →
    lp_X9_liar_2 n 83 (nI j) M = some (oI (lis m ρ j), M) := by
  obtain ⟨⟨e0, e1, e2, e3, e4, e5, e6, e7⟩, hc, ht⟩ := id hR
  induction m with
  | zero =>
    intro n j hj hn
    obtain ⟨n, rfl⟩ : ∃ i, n = i + 1 := ⟨n - 1, by omega⟩
    rw [s_lp_X9_liar_2, show j = r_s ρ 5 by omega]
    simp (disch := first | assumption | omega) only [bd_X9_liar_2, gt_83, l_of, n_ltT, n_ltF, n_leT, n_leF, n_eqT, n_eqF, n_neM, n_Mne, n_M0, n_Mlt, n_0leM, nI_clamp, x_in_nI, n_1, nI_add, x_at, x_bd_s, x_bv_s, ↓x_lt, decide_true, decide_false, Bool.and_self, Bool.true_and, Bool.and_true, if_true, if_false, ite_true, ite_false, ↓reduceIte, not_true_eq_false, not_false_eq_true, Nat.reduceAdd, Nat.reduceMul, Nat.reduceEqDiff, eq_self, true_and, and_true, false_and, and_false, Option.some.injEq, Prod.mk.injEq, l_0, l_1, l_2, l_3, l_4, l_5, l_6, l_7, l_8, l_9, l_10, l_100, l_160, ↓m_1, ↓m_2, ↓m_3, ↓m_4, ↓m_5, ↓m_6, ↓m_7, e5, lis, oI]
  | succ m ih =>
    intro n j hj hn
    obtain ⟨n, rfl⟩ : ∃ i, n = i + 1 := ⟨n - 1, by omega⟩
    have y := ht j (by omega)
    have y2 := wt j (by omega)
    have z1 : nI (r_s ρ 5) - nI 1 = nI (r_s ρ 5 - 1) := pk_sub (by omega)
    have g := ih n (j + 1) (by omega) (by omega)
    rw [s_lp_X9_liar_2]
    unfold lis
    have key : ∀ d, d < 2 → f_X9_liar_31 (lp_X9_liar_2 n) 83 (nI j) (nI d) 90 M = some (oI (if r_q ρ 4 j ≠ r_q ρ 4 d ∧ cal ρ (r_q ρ 4 d) (r_s ρ 5) + 1 = r_s ρ 5 then some j else lis m ρ (j + 1)), M) := by
      intro d hd
      have yd := ht d (by omega)
      have yd2 := wt d (by omega)
      have hca := m_calf hG hR w7 wt yd2
      have y3 := cal_le ρ (r_q ρ 4 d) (r_s ρ 5)
      by_cases h1 : r_q ρ 4 d = r_q ρ 4 j
      · rw [if_neg (fun q => q.1 h1.symm)]
        simp (disch := first | assumption | omega) only [f_X9_liar_31, f_X9_liar_c45, f_X9_liar_59, gt_83, gr_83_15, gt_90, gl_90, l_of, n_ltT, n_ltF, n_leT, n_leF, n_eqT, n_eqF, n_neM, n_Mne, n_M0, n_Mlt, n_0leM, nI_clamp, x_in_nI, n_1, nI_add, x_at, x_bd_s, x_bv_s, ↓x_lt, decide_true, decide_false, Bool.and_self, Bool.true_and, Bool.and_true, if_true, if_false, ite_true, ite_false, ↓reduceIte, not_true_eq_false, not_false_eq_true, Nat.reduceAdd, Nat.reduceMul, Nat.reduceEqDiff, eq_self, true_and, and_true, false_and, and_false, Option.some.injEq, Prod.mk.injEq, l_0, l_1, l_2, l_3, l_4, l_5, l_6, l_7, l_8, l_9, l_10, l_100, l_160, ↓m_1, ↓m_2, ↓m_3, ↓m_4, ↓m_5, ↓m_6, ↓m_7, e5, y, yd, h1]
        exact g
      · have h1' : r_q ρ 4 j ≠ r_q ρ 4 d := fun q => h1 q.symm
        by_cases h2 : cal ρ (r_q ρ 4 d) (r_s ρ 5) + 1 = r_s ρ 5
        · rw [if_pos ⟨h1', h2⟩]
          simp (disch := first | assumption | omega) only [f_X9_liar_31, f_X9_liar_c45, f_X9_liar_59, gt_83, gr_83_15, gt_90, gl_90, l_of, n_ltT, n_ltF, n_leT, n_leF, n_eqT, n_eqF, n_neM, n_Mne, n_M0, n_Mlt, n_0leM, nI_clamp, x_in_nI, n_1, nI_add, x_at, x_bd_s, x_bv_s, ↓x_lt, decide_true, decide_false, Bool.and_self, Bool.true_and, Bool.and_true, if_true, if_false, ite_true, ite_false, ↓reduceIte, not_true_eq_false, not_false_eq_true, Nat.reduceAdd, Nat.reduceMul, Nat.reduceEqDiff, eq_self, true_and, and_true, false_and, and_false, Option.some.injEq, Prod.mk.injEq, l_0, l_1, l_2, l_3, l_4, l_5, l_6, l_7, l_8, l_9, l_10, l_100, l_160, ↓m_1, ↓m_2, ↓m_3, ↓m_4, ↓m_5, ↓m_6, ↓m_7, e5, y, yd, h1, hca, z1, oI]
        · rw [if_neg (fun q => h2 q.2)]
          simp (disch := first | assumption | omega) only [f_X9_liar_31, f_X9_liar_c45, f_X9_liar_59, gt_83, gr_83_15, gt_90, gl_90, l_of, n_ltT, n_ltF, n_leT, n_leF, n_eqT, n_eqF, n_neM, n_Mne, n_M0, n_Mlt, n_0leM, nI_clamp, x_in_nI, n_1, nI_add, x_at, x_bd_s, x_bv_s, ↓x_lt, decide_true, decide_false, Bool.and_self, Bool.true_and, Bool.and_true, if_true, if_false, ite_true, ite_false, ↓reduceIte, not_true_eq_false, not_false_eq_true, Nat.reduceAdd, Nat.reduceMul, Nat.reduceEqDiff, eq_self, true_and, and_true, false_and, and_false, Option.some.injEq, Prod.mk.injEq, l_0, l_1, l_2, l_3, l_4, l_5, l_6, l_7, l_8, l_9, l_10, l_100, l_160, ↓m_1, ↓m_2, ↓m_3, ↓m_4, ↓m_5, ↓m_6, ↓m_7, e5, y, yd, h1, hca, z1]
          exact g
    by_cases hj0 : j = 0
    · subst hj0
      have k := key 1 (by omega)
      rw [if_pos rfl]
      simp (disch := first | assumption | omega) only [bd_X9_liar_2, gt_83, gr_83_15, l_of, n_ltT, n_ltF, n_leT, n_leF, n_eqT, n_eqF, n_neM, n_Mne, n_M0, n_Mlt, n_0leM, nI_clamp, x_in_nI, n_1, nI_add, x_at, x_bd_s, x_bv_s, ↓x_lt, decide_true, decide_false, Bool.and_self, Bool.true_and, Bool.and_true, if_true, if_false, ite_true, ite_false, ↓reduceIte, not_true_eq_false, not_false_eq_true, Nat.reduceAdd, Nat.reduceMul, Nat.reduceEqDiff, eq_self, true_and, and_true, false_and, and_false, Option.some.injEq, Prod.mk.injEq, l_0, l_1, l_2, l_3, l_4, l_5, l_6, l_7, l_8, l_9, l_10, l_100, l_160, ↓m_1, ↓m_2, ↓m_3, ↓m_4, ↓m_5, ↓m_6, ↓m_7, e5]
      exact k
    · have k := key 0 (by omega)
      rw [if_neg hj0]
      simp (disch := first | assumption | omega) only [bd_X9_liar_2, gt_83, gr_83_15, l_of, n_ltT, n_ltF, n_leT, n_leF, n_eqT, n_eqF, n_neM, n_Mne, n_M0, n_Mlt, n_0leM, nI_clamp, x_in_nI, n_1, nI_add, x_at, x_bd_s, x_bv_s, ↓x_lt, decide_true, decide_false, Bool.and_self, Bool.true_and, Bool.and_true, if_true, if_false, ite_true, ite_false, ↓reduceIte, not_true_eq_false, not_false_eq_true, Nat.reduceAdd, Nat.reduceMul, Nat.reduceEqDiff, eq_self, true_and, and_true, false_and, and_false, Option.some.injEq, Prod.mk.injEq, l_0, l_1, l_2, l_3, l_4, l_5, l_6, l_7, l_8, l_9, l_10, l_100, l_160, ↓m_1, ↓m_2, ↓m_3, ↓m_4, ↓m_5, ↓m_6, ↓m_7, e5, hj0]
      exact k
theorem m_lia (hG : Geo L b1 b2 M) (hR : MR ρ M) (w7 : r_s ρ 5 ≤ 8) (wt : ∀ i, i < 8 → r_q ρ 4 i ≤ 9999) : f_X9_liar 83 M = some (oI (lia ρ), M) := by
  have e5 := hR.1.2.2.2.2.2.1
  unfold lia
  obtain ⟨n, hn⟩ := fu_s
  by_cases h : r_s ρ 5 < 3
  · rw [if_pos h, f_X9_liar, hn, s_lp_X9_liar_2]
    by_cases h0 : r_s ρ 5 = 0
    · simp (disch := first | assumption | omega) only [bd_X9_liar_2, gt_83, l_of, n_ltT, n_ltF, n_leT, n_leF, n_eqT, n_eqF, n_neM, n_Mne, n_M0, n_Mlt, n_0leM, nI_clamp, x_in_nI, n_1, nI_add, x_at, x_bd_s, x_bv_s, ↓x_lt, decide_true, decide_false, Bool.and_self, Bool.true_and, Bool.and_true, if_true, if_false, ite_true, ite_false, ↓reduceIte, not_true_eq_false, not_false_eq_true, Nat.reduceAdd, Nat.reduceMul, Nat.reduceEqDiff, eq_self, true_and, and_true, false_and, and_false, Option.some.injEq, Prod.mk.injEq, l_0, l_1, l_2, l_3, l_4, l_5, l_6, l_7, l_8, l_9, l_10, l_100, l_160, ↓m_1, ↓m_2, ↓m_3, ↓m_4, ↓m_5, ↓m_6, ↓m_7, e5, oI, h0]
    · simp (disch := first | assumption | omega) only [bd_X9_liar_2, gt_83, l_of, n_ltT, n_ltF, n_leT, n_leF, n_eqT, n_eqF, n_neM, n_Mne, n_M0, n_Mlt, n_0leM, nI_clamp, x_in_nI, n_1, nI_add, x_at, x_bd_s, x_bv_s, ↓x_lt, decide_true, decide_false, Bool.and_self, Bool.true_and, Bool.and_true, if_true, if_false, ite_true, ite_false, ↓reduceIte, not_true_eq_false, not_false_eq_true, Nat.reduceAdd, Nat.reduceMul, Nat.reduceEqDiff, eq_self, true_and, and_true, false_and, and_false, Option.some.injEq, Prod.mk.injEq, l_0, l_1, l_2, l_3, l_4, l_5, l_6, l_7, l_8, l_9, l_10, l_100, l_160, ↓m_1, ↓m_2, ↓m_3, ↓m_4, ↓m_5, ↓m_6, ↓m_7, e5, oI]
  · have q := m_lis hG hR w7 (by omega) wt (r_s ρ 5) x_fuel 0 (by omega) (fu (by omega))
    rw [if_neg h, f_X9_liar]
    exact q
theorem c_sps (hG : Geo L b1 b2 M) (hR : CR 21 ρ M) (w7 : r_s ρ 5 ≤ 8) (wt : ∀ i, i < 8 → r_q ρ 4 i ≤ 9999) (m : Nat) : ∀ (n j l g : Nat), j + m = r_s ρ 5 → m < n → l ≤ g → g ≤ 9999 →
    lp_X4_spread_25 n 21 (nI l) (nI g) (nI j) M = some (nI (sps m ρ j l g), M) := by
  obtain ⟨⟨e0, e1, e2, e3, e4, e5, e6, e7⟩, hc, ht⟩ := id hR
  induction m with
  | zero =>
    intro n j l g hj hn h1 h2
    obtain ⟨n, rfl⟩ : ∃ i, n = i + 1 := ⟨n - 1, by omega⟩
    rw [s_lp_X4_spread_25, show j = r_s ρ 5 by omega]
    simp (disch := first | assumption | omega) only [bd_X4_spread_25, gt_21, l_of, n_ltT, n_ltF, n_leT, n_leF, n_eqT, n_eqF, n_neM, n_Mne, n_M0, n_Mlt, n_0leM, nI_clamp, x_in_nI, n_1, nI_add, x_at, x_bd_s, x_bv_s, ↓x_lt, decide_true, decide_false, Bool.and_self, Bool.true_and, Bool.and_true, if_true, if_false, ite_true, ite_false, ↓reduceIte, not_true_eq_false, not_false_eq_true, Nat.reduceAdd, Nat.reduceMul, Nat.reduceEqDiff, eq_self, true_and, and_true, false_and, and_false, Option.some.injEq, Prod.mk.injEq, l_0, l_1, l_2, l_3, l_4, l_5, l_6, l_7, l_8, l_9, l_10, l_100, l_160, ↓m_1, ↓m_2, ↓m_3, ↓m_4, ↓m_5, ↓m_6, ↓m_7, e5, sps, pk_sub]
  | succ m ih =>
    intro n j l g hj hn h1 h2
    obtain ⟨n, rfl⟩ : ∃ i, n = i + 1 := ⟨n - 1, by omega⟩
    have y := ht j (by omega)
    have y2 := wt j (by omega)
    have k := ih n (j + 1) (if r_q ρ 4 j < l then r_q ρ 4 j else l) (if g < r_q ρ 4 j then r_q ρ 4 j else g) (by omega) (by omega) (by split <;> split <;> omega) (by split <;> omega)
    rw [s_lp_X4_spread_25]
    unfold sps
    by_cases q1 : r_q ρ 4 j < l <;> by_cases q2 : g < r_q ρ 4 j
    · omega
    all_goals
      simp only [q1, q2, if_true, if_false] at k ⊢
      simp (disch := first | assumption | omega) only [bd_X4_spread_25, gt_21, gr_21_6, gt_23, gl_23, l_of, n_ltT, n_ltF, n_leT, n_leF, n_eqT, n_eqF, n_neM, n_Mne, n_M0, n_Mlt, n_0leM, nI_clamp, x_in_nI, n_1, nI_add, x_at, x_bd_s, x_bv_s, ↓x_lt, decide_true, decide_false, Bool.and_self, Bool.true_and, Bool.and_true, if_true, if_false, ite_true, ite_false, ↓reduceIte, not_true_eq_false, not_false_eq_true, Nat.reduceAdd, Nat.reduceMul, Nat.reduceEqDiff, eq_self, true_and, and_true, false_and, and_false, Option.some.injEq, Prod.mk.injEq, l_0, l_1, l_2, l_3, l_4, l_5, l_6, l_7, l_8, l_9, l_10, l_100, l_160, ↓m_1, ↓m_2, ↓m_3, ↓m_4, ↓m_5, ↓m_6, ↓m_7, e5, y]
      exact k
theorem c_spr (hG : Geo L b1 b2 M) (hR : CR 21 ρ M) (w7 : r_s ρ 5 ≤ 8) (wt : ∀ i, i < 8 → r_q ρ 4 i ≤ 9999) : f_X4_spread 21 M = some (nI (spr ρ), M) := by
  have e5 := hR.1.2.2.2.2.2.1
  have y := hR.2.2 0 (by omega)
  have y2 := wt 0 (by omega)
  unfold spr
  by_cases h : r_s ρ 5 = 0
  · rw [if_pos h]
    simp (disch := first | assumption | omega) only [f_X4_spread, gt_21, l_of, n_ltT, n_ltF, n_leT, n_leF, n_eqT, n_eqF, n_neM, n_Mne, n_M0, n_Mlt, n_0leM, nI_clamp, x_in_nI, n_1, nI_add, x_at, x_bd_s, x_bv_s, ↓x_lt, decide_true, decide_false, Bool.and_self, Bool.true_and, Bool.and_true, if_true, if_false, ite_true, ite_false, ↓reduceIte, not_true_eq_false, not_false_eq_true, Nat.reduceAdd, Nat.reduceMul, Nat.reduceEqDiff, eq_self, true_and, and_true, false_and, and_false, Option.some.injEq, Prod.mk.injEq, l_0, l_1, l_2, l_3, l_4, l_5, l_6, l_7, l_8, l_9, l_10, l_100, l_160, ↓m_1, ↓m_2, ↓m_3, ↓m_4, ↓m_5, ↓m_6, ↓m_7, e5, h]
  · have q := c_sps hG hR w7 wt (r_s ρ 5 - 1) x_fuel 1 (r_q ρ 4 0) (r_q ρ 4 0) (by omega) (fu (by omega)) (by omega) (by omega)
    rw [if_neg h]
    simp (disch := first | assumption | omega) only [f_X4_spread, gt_21, gr_21_6, gt_23, gl_23, l_of, n_ltT, n_ltF, n_leT, n_leF, n_eqT, n_eqF, n_neM, n_Mne, n_M0, n_Mlt, n_0leM, nI_clamp, x_in_nI, n_1, nI_add, x_at, x_bd_s, x_bv_s, ↓x_lt, decide_true, decide_false, Bool.and_self, Bool.true_and, Bool.and_true, if_true, if_false, ite_true, ite_false, ↓reduceIte, not_true_eq_false, not_false_eq_true, Nat.reduceAdd, Nat.reduceMul, Nat.reduceEqDiff, eq_self, true_and, and_true, false_and, and_false, Option.some.injEq, Prod.mk.injEq, l_0, l_1, l_2, l_3, l_4, l_5, l_6, l_7, l_8, l_9, l_10, l_100, l_160, ↓m_1, ↓m_2, ↓m_3, ↓m_4, ↓m_5, ↓m_6, ↓m_7, e5, y]
    exact q
theorem m_sps (hG : Geo L b1 b2 M) (hR : MR ρ M) (w7 : r_s ρ 5 ≤ 8) (w0 : 0 < r_s ρ 5) (wt : ∀ i, i < 8 → r_q ρ 4 i ≤ 9999) (m : Nat) : ∀ (n j l g : Nat), j + m = r_s ρ 5 → m < n → l ≤ g → g ≤ 9999 →
    lp_X9_spread_8 n 83 (nI l) (nI g) (nI j) M = some (nI (sps m ρ j l g), M) := by
  obtain ⟨⟨e0, e1, e2, e3, e4, e5, e6, e7⟩, hc, ht⟩ := id hR
  induction m with
  | zero =>
    intro n j l g hj hn h1 h2
    obtain ⟨n, rfl⟩ : ∃ i, n = i + 1 := ⟨n - 1, by omega⟩
    rw [s_lp_X9_spread_8, show j = r_s ρ 5 by omega]
    simp (disch := first | assumption | omega) only [bd_X9_spread_8, gt_83, l_of, n_ltT, n_ltF, n_leT, n_leF, n_eqT, n_eqF, n_neM, n_Mne, n_M0, n_Mlt, n_0leM, nI_clamp, x_in_nI, n_1, nI_add, x_at, x_bd_s, x_bv_s, ↓x_lt, decide_true, decide_false, Bool.and_self, Bool.true_and, Bool.and_true, if_true, if_false, ite_true, ite_false, ↓reduceIte, not_true_eq_false, not_false_eq_true, Nat.reduceAdd, Nat.reduceMul, Nat.reduceEqDiff, eq_self, true_and, and_true, false_and, and_false, Option.some.injEq, Prod.mk.injEq, l_0, l_1, l_2, l_3, l_4, l_5, l_6, l_7, l_8, l_9, l_10, l_100, l_160, ↓m_1, ↓m_2, ↓m_3, ↓m_4, ↓m_5, ↓m_6, ↓m_7, e5, sps, pk_sub]
  | succ m ih =>
    intro n j l g hj hn h1 h2
    obtain ⟨n, rfl⟩ : ∃ i, n = i + 1 := ⟨n - 1, by omega⟩
    have y := ht j (by omega)
    have y2 := wt j (by omega)
    have k := ih n (j + 1) (if r_q ρ 4 j < l then r_q ρ 4 j else l) (if g < r_q ρ 4 j then r_q ρ 4 j else g) (by omega) (by omega) (by split <;> split <;> omega) (by split <;> omega)
    rw [s_lp_X9_spread_8]
    unfold sps
    by_cases q1 : r_q ρ 4 j < l <;> by_cases q2 : g < r_q ρ 4 j
    · omega
    all_goals
      simp only [q1, q2, if_true, if_false] at k ⊢
      simp (disch := first | assumption | omega) only [bd_X9_spread_8, f_X9_spread_36, f_X9_spread_57, gt_83, gr_83_15, gt_90, gl_90, l_of, n_ltT, n_ltF, n_leT, n_leF, n_eqT, n_eqF, n_neM, n_Mne, n_M0, n_Mlt, n_0leM, nI_clamp, x_in_nI, n_1, nI_add, x_at, x_bd_s, x_bv_s, ↓x_lt, decide_true, decide_false, Bool.and_self, Bool.true_and, Bool.and_true, if_true, if_false, ite_true, ite_false, ↓reduceIte, not_true_eq_false, not_false_eq_true, Nat.reduceAdd, Nat.reduceMul, Nat.reduceEqDiff, eq_self, true_and, and_true, false_and, and_false, Option.some.injEq, Prod.mk.injEq, l_0, l_1, l_2, l_3, l_4, l_5, l_6, l_7, l_8, l_9, l_10, l_100, l_160, ↓m_1, ↓m_2, ↓m_3, ↓m_4, ↓m_5, ↓m_6, ↓m_7, e5, y]
      exact k
theorem m_spr (hG : Geo L b1 b2 M) (hR : MR ρ M) (w7 : r_s ρ 5 ≤ 8) (wt : ∀ i, i < 8 → r_q ρ 4 i ≤ 9999) : f_X9_spread 83 M = some (nI (spr ρ), M) := by
  have e5 := hR.1.2.2.2.2.2.1
  have y := hR.2.2 0 (by omega)
  have y2 := wt 0 (by omega)
  unfold spr
  have hn : x_fuel = 999999 + 1 := rfl
  rw [f_X9_spread, hn, s_lp_X9_spread_8]
  by_cases h : r_s ρ 5 = 0
  · rw [if_pos h]
    simp (disch := first | assumption | omega) only [bd_X9_spread_8, gt_83, l_of, n_ltT, n_ltF, n_leT, n_leF, n_eqT, n_eqF, n_neM, n_Mne, n_M0, n_Mlt, n_0leM, nI_clamp, x_in_nI, n_1, nI_add, x_at, x_bd_s, x_bv_s, ↓x_lt, decide_true, decide_false, Bool.and_self, Bool.true_and, Bool.and_true, if_true, if_false, ite_true, ite_false, ↓reduceIte, not_true_eq_false, not_false_eq_true, Nat.reduceAdd, Nat.reduceMul, Nat.reduceEqDiff, eq_self, true_and, and_true, false_and, and_false, Option.some.injEq, Prod.mk.injEq, l_0, l_1, l_2, l_3, l_4, l_5, l_6, l_7, l_8, l_9, l_10, l_100, l_160, ↓m_1, ↓m_2, ↓m_3, ↓m_4, ↓m_5, ↓m_6, ↓m_7, e5, h]
  · have q := m_sps hG hR w7 (by omega) wt (r_s ρ 5 - 1) 999999 1 (r_q ρ 4 0) (r_q ρ 4 0) (by omega) (by omega) (by omega) (by omega)
    rw [if_neg h]
    simp (disch := first | assumption | omega) only [bd_X9_spread_8, f_X9_spread_36, f_X9_spread_57, gt_83, gr_83_15, gt_90, gl_90, l_of, n_ltT, n_ltF, n_leT, n_leF, n_eqT, n_eqF, n_neM, n_Mne, n_M0, n_Mlt, n_0leM, nI_clamp, x_in_nI, n_1, nI_add, x_at, x_bd_s, x_bv_s, ↓x_lt, decide_true, decide_false, Bool.and_self, Bool.true_and, Bool.and_true, if_true, if_false, ite_true, ite_false, ↓reduceIte, not_true_eq_false, not_false_eq_true, Nat.reduceAdd, Nat.reduceMul, Nat.reduceEqDiff, eq_self, true_and, and_true, false_and, and_false, Option.some.injEq, Prod.mk.injEq, l_0, l_1, l_2, l_3, l_4, l_5, l_6, l_7, l_8, l_9, l_10, l_100, l_160, ↓m_1, ↓m_2, ↓m_3, ↓m_4, ↓m_5, ↓m_6, ↓m_7, e5, y, l_10000, n_Mlt, n_leM1]
    exact q
end
def sp_tallies (σ : XS) (v : Int32) : Int32 × XS :=
  if v = nI 0 then (oI (tru (s_now σ)), σ) else if v = nI 1 then (oI (lia (s_now σ)), σ) else if v = nI 2 then (nI (spr (s_now σ)), σ) else if v = nI 3 then (nI (r_s (s_now σ) 5), σ) else if v < nI 0 ∨ v.toNatClampNeg < 10 ∨ 10 + r_s (s_now σ) 5 ≤ v.toNatClampNeg then (nM 15, u_rf σ 5) else (nI (r_q (s_now σ) 4 (v.toNatClampNeg - 10)), σ)
set_option maxHeartbeats 400000 in
theorem oc_tallies {B : Nat} {σ : XS} (hW : WFS B σ) (v : Int32) : OpC (f_X8_tallies 20 v) σ (sp_tallies σ v).1 (sp_tallies σ v).2 := by
  intro L b1 b2 M hG hI
  obtain ⟨⟨⟨e0, e1, e2, e3, e4, e5, e6, e7⟩, hc, ht⟩, hi, hsh, hrf, hft, hrn, htr⟩ := id hI
  obtain ⟨⟨⟨w0, w1, w2, w3, w4, w5, w6, w7⟩, wc, wl, wt⟩, wi, wsh, wrn⟩ := id hW
  show EndC L (f_X8_tallies 20 v) M (sp_tallies σ v)
  by_cases h1 : v = nI 0
  · subst h1
    have g1 := c_tru hG ⟨⟨e0, e1, e2, e3, e4, e5, e6, e7⟩, hc, ht⟩ w7 wt
    rw [show sp_tallies σ (nI 0) = (oI (tru (s_now σ)), σ) by simp (disch := first | assumption | omega) only [sp_tallies, l_of, n_ltT, n_ltF, n_leT, n_leF, n_eqT, n_eqF, n_neM, n_Mne, n_M0, n_Mlt, n_0leM, nI_clamp, x_in_nI, n_1, nI_add, x_at, x_bd_s, x_bv_s, ↓x_lt, decide_true, decide_false, Bool.and_self, Bool.true_and, Bool.and_true, if_true, if_false, ite_true, ite_false, ↓reduceIte, not_true_eq_false, not_false_eq_true, Nat.reduceAdd, Nat.reduceMul, Nat.reduceEqDiff, eq_self, true_and, and_true, false_and, and_false, Option.some.injEq, Prod.mk.injEq, l_0, l_1, l_2, l_3, l_4, l_5, l_6, l_7, l_8, l_9, l_10, l_100, l_160, ↓m_1, ↓m_2, ↓m_3, ↓m_4, ↓m_5, ↓m_6, ↓m_7, true_or, or_true, false_or, or_false, or_self, not_false_eq_true, not_true_eq_false, and_self, true_and, and_true, false_and, and_false]]
    exact c_id_end hG hI (by simp (disch := first | assumption | omega) only [f_X8_tallies_c87, f_X8_tallies_84, f_X8_tallies, l_of, n_ltT, n_ltF, n_leT, n_leF, n_eqT, n_eqF, n_neM, n_Mne, n_M0, n_Mlt, n_0leM, nI_clamp, x_in_nI, n_1, nI_add, x_at, x_bd_s, x_bv_s, ↓x_lt, decide_true, decide_false, Bool.and_self, Bool.true_and, Bool.and_true, if_true, if_false, ite_true, ite_false, ↓reduceIte, not_true_eq_false, not_false_eq_true, Nat.reduceAdd, Nat.reduceMul, Nat.reduceEqDiff, eq_self, true_and, and_true, false_and, and_false, Option.some.injEq, Prod.mk.injEq, l_0, l_1, l_2, l_3, l_4, l_5, l_6, l_7, l_8, l_9, l_10, l_100, l_160, ↓m_1, ↓m_2, ↓m_3, ↓m_4, ↓m_5, ↓m_6, ↓m_7, ii_wi, ji_wi, ri_wi, ti_wi, li_wi, ii_wj, ji_wj, ri_wj, ti_wj, li_wj, gt_20, gr_20_0, gt_21, gr_21_0, gt_22, gl_22, gc_22, gct_24, gr_20_6, gt_51, gl_51, gr_21_6, gt_23, gl_23, g1, c_refM, e5, n_sub10, n_lt1, n_slF, nI_add])
  by_cases h2 : v = nI 1
  · subst h2
    have g1 := c_lia hG ⟨⟨e0, e1, e2, e3, e4, e5, e6, e7⟩, hc, ht⟩ w7 wt
    rw [show sp_tallies σ (nI 1) = (oI (lia (s_now σ)), σ) by simp (disch := first | assumption | omega) only [sp_tallies, l_of, n_ltT, n_ltF, n_leT, n_leF, n_eqT, n_eqF, n_neM, n_Mne, n_M0, n_Mlt, n_0leM, nI_clamp, x_in_nI, n_1, nI_add, x_at, x_bd_s, x_bv_s, ↓x_lt, decide_true, decide_false, Bool.and_self, Bool.true_and, Bool.and_true, if_true, if_false, ite_true, ite_false, ↓reduceIte, not_true_eq_false, not_false_eq_true, Nat.reduceAdd, Nat.reduceMul, Nat.reduceEqDiff, eq_self, true_and, and_true, false_and, and_false, Option.some.injEq, Prod.mk.injEq, l_0, l_1, l_2, l_3, l_4, l_5, l_6, l_7, l_8, l_9, l_10, l_100, l_160, ↓m_1, ↓m_2, ↓m_3, ↓m_4, ↓m_5, ↓m_6, ↓m_7, h1, true_or, or_true, false_or, or_false, or_self, not_false_eq_true, not_true_eq_false, and_self, true_and, and_true, false_and, and_false]]
    exact c_id_end hG hI (by simp (disch := first | assumption | omega) only [f_X8_tallies_c87, f_X8_tallies_84, f_X8_tallies, l_of, n_ltT, n_ltF, n_leT, n_leF, n_eqT, n_eqF, n_neM, n_Mne, n_M0, n_Mlt, n_0leM, nI_clamp, x_in_nI, n_1, nI_add, x_at, x_bd_s, x_bv_s, ↓x_lt, decide_true, decide_false, Bool.and_self, Bool.true_and, Bool.and_true, if_true, if_false, ite_true, ite_false, ↓reduceIte, not_true_eq_false, not_false_eq_true, Nat.reduceAdd, Nat.reduceMul, Nat.reduceEqDiff, eq_self, true_and, and_true, false_and, and_false, Option.some.injEq, Prod.mk.injEq, l_0, l_1, l_2, l_3, l_4, l_5, l_6, l_7, l_8, l_9, l_10, l_100, l_160, ↓m_1, ↓m_2, ↓m_3, ↓m_4, ↓m_5, ↓m_6, ↓m_7, ii_wi, ji_wi, ri_wi, ti_wi, li_wi, ii_wj, ji_wj, ri_wj, ti_wj, li_wj, gt_20, gr_20_0, gt_21, gr_21_0, gt_22, gl_22, gc_22, gct_24, gr_20_6, gt_51, gl_51, gr_21_6, gt_23, gl_23, h1, g1, c_refM, e5, n_sub10, n_lt1, n_slF, nI_add])
  by_cases h3 : v = nI 2
  · subst h3
    have g1 := c_spr hG ⟨⟨e0, e1, e2, e3, e4, e5, e6, e7⟩, hc, ht⟩ w7 wt
    rw [show sp_tallies σ (nI 2) = (nI (spr (s_now σ)), σ) by simp (disch := first | assumption | omega) only [sp_tallies, l_of, n_ltT, n_ltF, n_leT, n_leF, n_eqT, n_eqF, n_neM, n_Mne, n_M0, n_Mlt, n_0leM, nI_clamp, x_in_nI, n_1, nI_add, x_at, x_bd_s, x_bv_s, ↓x_lt, decide_true, decide_false, Bool.and_self, Bool.true_and, Bool.and_true, if_true, if_false, ite_true, ite_false, ↓reduceIte, not_true_eq_false, not_false_eq_true, Nat.reduceAdd, Nat.reduceMul, Nat.reduceEqDiff, eq_self, true_and, and_true, false_and, and_false, Option.some.injEq, Prod.mk.injEq, l_0, l_1, l_2, l_3, l_4, l_5, l_6, l_7, l_8, l_9, l_10, l_100, l_160, ↓m_1, ↓m_2, ↓m_3, ↓m_4, ↓m_5, ↓m_6, ↓m_7, h1, h2, true_or, or_true, false_or, or_false, or_self, not_false_eq_true, not_true_eq_false, and_self, true_and, and_true, false_and, and_false]]
    exact c_id_end hG hI (by simp (disch := first | assumption | omega) only [f_X8_tallies_c87, f_X8_tallies_84, f_X8_tallies, l_of, n_ltT, n_ltF, n_leT, n_leF, n_eqT, n_eqF, n_neM, n_Mne, n_M0, n_Mlt, n_0leM, nI_clamp, x_in_nI, n_1, nI_add, x_at, x_bd_s, x_bv_s, ↓x_lt, decide_true, decide_false, Bool.and_self, Bool.true_and, Bool.and_true, if_true, if_false, ite_true, ite_false, ↓reduceIte, not_true_eq_false, not_false_eq_true, Nat.reduceAdd, Nat.reduceMul, Nat.reduceEqDiff, eq_self, true_and, and_true, false_and, and_false, Option.some.injEq, Prod.mk.injEq, l_0, l_1, l_2, l_3, l_4, l_5, l_6, l_7, l_8, l_9, l_10, l_100, l_160, ↓m_1, ↓m_2, ↓m_3, ↓m_4, ↓m_5, ↓m_6, ↓m_7, ii_wi, ji_wi, ri_wi, ti_wi, li_wi, ii_wj, ji_wj, ri_wj, ti_wj, li_wj, gt_20, gr_20_0, gt_21, gr_21_0, gt_22, gl_22, gc_22, gct_24, gr_20_6, gt_51, gl_51, gr_21_6, gt_23, gl_23, h1, h2, g1, c_refM, e5, n_sub10, n_lt1, n_slF, nI_add])
  by_cases h4 : v = nI 3
  · subst h4
    rw [show sp_tallies σ (nI 3) = (nI (r_s (s_now σ) 5), σ) by simp (disch := first | assumption | omega) only [sp_tallies, l_of, n_ltT, n_ltF, n_leT, n_leF, n_eqT, n_eqF, n_neM, n_Mne, n_M0, n_Mlt, n_0leM, nI_clamp, x_in_nI, n_1, nI_add, x_at, x_bd_s, x_bv_s, ↓x_lt, decide_true, decide_false, Bool.and_self, Bool.true_and, Bool.and_true, if_true, if_false, ite_true, ite_false, ↓reduceIte, not_true_eq_false, not_false_eq_true, Nat.reduceAdd, Nat.reduceMul, Nat.reduceEqDiff, eq_self, true_and, and_true, false_and, and_false, Option.some.injEq, Prod.mk.injEq, l_0, l_1, l_2, l_3, l_4, l_5, l_6, l_7, l_8, l_9, l_10, l_100, l_160, ↓m_1, ↓m_2, ↓m_3, ↓m_4, ↓m_5, ↓m_6, ↓m_7, h1, h2, h3, true_or, or_true, false_or, or_false, or_self, not_false_eq_true, not_true_eq_false, and_self, true_and, and_true, false_and, and_false]]
    exact c_id_end hG hI (by simp (disch := first | assumption | omega) only [f_X8_tallies_c87, f_X8_tallies_84, f_X8_tallies, l_of, n_ltT, n_ltF, n_leT, n_leF, n_eqT, n_eqF, n_neM, n_Mne, n_M0, n_Mlt, n_0leM, nI_clamp, x_in_nI, n_1, nI_add, x_at, x_bd_s, x_bv_s, ↓x_lt, decide_true, decide_false, Bool.and_self, Bool.true_and, Bool.and_true, if_true, if_false, ite_true, ite_false, ↓reduceIte, not_true_eq_false, not_false_eq_true, Nat.reduceAdd, Nat.reduceMul, Nat.reduceEqDiff, eq_self, true_and, and_true, false_and, and_false, Option.some.injEq, Prod.mk.injEq, l_0, l_1, l_2, l_3, l_4, l_5, l_6, l_7, l_8, l_9, l_10, l_100, l_160, ↓m_1, ↓m_2, ↓m_3, ↓m_4, ↓m_5, ↓m_6, ↓m_7, ii_wi, ji_wi, ri_wi, ti_wi, li_wi, ii_wj, ji_wj, ri_wj, ti_wj, li_wj, gt_20, gr_20_0, gt_21, gr_21_0, gt_22, gl_22, gc_22, gct_24, gr_20_6, gt_51, gl_51, gr_21_6, gt_23, gl_23, h1, h2, h3, c_refM, e5, n_sub10, n_lt1, n_slF, nI_add])
  rcases i_cs v with h5 | ⟨k, kb, rfl⟩
  · rw [show sp_tallies σ v = (nM 15, u_rf σ 5) by simp (disch := first | assumption | omega) only [sp_tallies, l_of, n_ltT, n_ltF, n_leT, n_leF, n_eqT, n_eqF, n_neM, n_Mne, n_M0, n_Mlt, n_0leM, nI_clamp, x_in_nI, n_1, nI_add, x_at, x_bd_s, x_bv_s, ↓x_lt, decide_true, decide_false, Bool.and_self, Bool.true_and, Bool.and_true, if_true, if_false, ite_true, ite_false, ↓reduceIte, not_true_eq_false, not_false_eq_true, Nat.reduceAdd, Nat.reduceMul, Nat.reduceEqDiff, eq_self, true_and, and_true, false_and, and_false, Option.some.injEq, Prod.mk.injEq, l_0, l_1, l_2, l_3, l_4, l_5, l_6, l_7, l_8, l_9, l_10, l_100, l_160, ↓m_1, ↓m_2, ↓m_3, ↓m_4, ↓m_5, ↓m_6, ↓m_7, h1, h2, h3, h4, h5, true_or, or_true, false_or, or_false, or_self, not_false_eq_true, not_true_eq_false, and_self, true_and, and_true, false_and, and_false]]
    exact c_no_end hG hI (by simp (disch := first | assumption | omega) only [f_X8_tallies_c87, f_X8_tallies_84, f_X8_tallies, l_of, n_ltT, n_ltF, n_leT, n_leF, n_eqT, n_eqF, n_neM, n_Mne, n_M0, n_Mlt, n_0leM, nI_clamp, x_in_nI, n_1, nI_add, x_at, x_bd_s, x_bv_s, ↓x_lt, decide_true, decide_false, Bool.and_self, Bool.true_and, Bool.and_true, if_true, if_false, ite_true, ite_false, ↓reduceIte, not_true_eq_false, not_false_eq_true, Nat.reduceAdd, Nat.reduceMul, Nat.reduceEqDiff, eq_self, true_and, and_true, false_and, and_false, Option.some.injEq, Prod.mk.injEq, l_0, l_1, l_2, l_3, l_4, l_5, l_6, l_7, l_8, l_9, l_10, l_100, l_160, ↓m_1, ↓m_2, ↓m_3, ↓m_4, ↓m_5, ↓m_6, ↓m_7, ii_wi, ji_wi, ri_wi, ti_wi, li_wi, ii_wj, ji_wj, ri_wj, ti_wj, li_wj, gt_20, gr_20_0, gt_21, gr_21_0, gt_22, gl_22, gc_22, gct_24, gr_20_6, gt_51, gl_51, gr_21_6, gt_23, gl_23, h1, h2, h3, h4, h5, c_refM, e5, n_sub10, n_lt1, n_slF, nI_add])
  by_cases h6 : k < 10
  · rw [show sp_tallies σ (nI k) = (nM 15, u_rf σ 5) by simp (disch := first | assumption | omega) only [sp_tallies, l_of, n_ltT, n_ltF, n_leT, n_leF, n_eqT, n_eqF, n_neM, n_Mne, n_M0, n_Mlt, n_0leM, nI_clamp, x_in_nI, n_1, nI_add, x_at, x_bd_s, x_bv_s, ↓x_lt, decide_true, decide_false, Bool.and_self, Bool.true_and, Bool.and_true, if_true, if_false, ite_true, ite_false, ↓reduceIte, not_true_eq_false, not_false_eq_true, Nat.reduceAdd, Nat.reduceMul, Nat.reduceEqDiff, eq_self, true_and, and_true, false_and, and_false, Option.some.injEq, Prod.mk.injEq, l_0, l_1, l_2, l_3, l_4, l_5, l_6, l_7, l_8, l_9, l_10, l_100, l_160, ↓m_1, ↓m_2, ↓m_3, ↓m_4, ↓m_5, ↓m_6, ↓m_7, h1, h2, h3, h4, h6, true_or, or_true, false_or, or_false, or_self, not_false_eq_true, not_true_eq_false, and_self, true_and, and_true, false_and, and_false]]
    exact c_no_end hG hI (by simp (disch := first | assumption | omega) only [f_X8_tallies_c87, f_X8_tallies_84, f_X8_tallies, l_of, n_ltT, n_ltF, n_leT, n_leF, n_eqT, n_eqF, n_neM, n_Mne, n_M0, n_Mlt, n_0leM, nI_clamp, x_in_nI, n_1, nI_add, x_at, x_bd_s, x_bv_s, ↓x_lt, decide_true, decide_false, Bool.and_self, Bool.true_and, Bool.and_true, if_true, if_false, ite_true, ite_false, ↓reduceIte, not_true_eq_false, not_false_eq_true, Nat.reduceAdd, Nat.reduceMul, Nat.reduceEqDiff, eq_self, true_and, and_true, false_and, and_false, Option.some.injEq, Prod.mk.injEq, l_0, l_1, l_2, l_3, l_4, l_5, l_6, l_7, l_8, l_9, l_10, l_100, l_160, ↓m_1, ↓m_2, ↓m_3, ↓m_4, ↓m_5, ↓m_6, ↓m_7, ii_wi, ji_wi, ri_wi, ti_wi, li_wi, ii_wj, ji_wj, ri_wj, ti_wj, li_wj, gt_20, gr_20_0, gt_21, gr_21_0, gt_22, gl_22, gc_22, gct_24, gr_20_6, gt_51, gl_51, gr_21_6, gt_23, gl_23, h1, h2, h3, h4, h6, c_refM, e5, n_sub10, n_lt1, n_slF, nI_add])
  by_cases h7 : 10 + r_s (s_now σ) 5 ≤ k
  · rw [show sp_tallies σ (nI k) = (nM 15, u_rf σ 5) by simp (disch := first | assumption | omega) only [sp_tallies, l_of, n_ltT, n_ltF, n_leT, n_leF, n_eqT, n_eqF, n_neM, n_Mne, n_M0, n_Mlt, n_0leM, nI_clamp, x_in_nI, n_1, nI_add, x_at, x_bd_s, x_bv_s, ↓x_lt, decide_true, decide_false, Bool.and_self, Bool.true_and, Bool.and_true, if_true, if_false, ite_true, ite_false, ↓reduceIte, not_true_eq_false, not_false_eq_true, Nat.reduceAdd, Nat.reduceMul, Nat.reduceEqDiff, eq_self, true_and, and_true, false_and, and_false, Option.some.injEq, Prod.mk.injEq, l_0, l_1, l_2, l_3, l_4, l_5, l_6, l_7, l_8, l_9, l_10, l_100, l_160, ↓m_1, ↓m_2, ↓m_3, ↓m_4, ↓m_5, ↓m_6, ↓m_7, h1, h2, h3, h4, h6, h7, true_or, or_true, false_or, or_false, or_self, not_false_eq_true, not_true_eq_false, and_self, true_and, and_true, false_and, and_false]]
    exact c_no_end hG hI (by simp (disch := first | assumption | omega) only [f_X8_tallies_c87, f_X8_tallies_84, f_X8_tallies, l_of, n_ltT, n_ltF, n_leT, n_leF, n_eqT, n_eqF, n_neM, n_Mne, n_M0, n_Mlt, n_0leM, nI_clamp, x_in_nI, n_1, nI_add, x_at, x_bd_s, x_bv_s, ↓x_lt, decide_true, decide_false, Bool.and_self, Bool.true_and, Bool.and_true, if_true, if_false, ite_true, ite_false, ↓reduceIte, not_true_eq_false, not_false_eq_true, Nat.reduceAdd, Nat.reduceMul, Nat.reduceEqDiff, eq_self, true_and, and_true, false_and, and_false, Option.some.injEq, Prod.mk.injEq, l_0, l_1, l_2, l_3, l_4, l_5, l_6, l_7, l_8, l_9, l_10, l_100, l_160, ↓m_1, ↓m_2, ↓m_3, ↓m_4, ↓m_5, ↓m_6, ↓m_7, ii_wi, ji_wi, ri_wi, ti_wi, li_wi, ii_wj, ji_wj, ri_wj, ti_wj, li_wj, gt_20, gr_20_0, gt_21, gr_21_0, gt_22, gl_22, gc_22, gct_24, gr_20_6, gt_51, gl_51, gr_21_6, gt_23, gl_23, h1, h2, h3, h4, h6, h7, c_refM, e5, n_sub10, n_lt1, n_slF, nI_add])
  have q1 := ht (k - 10) (by omega)
  have q2 : nI k - nI 10 = nI (k - 10) := pk_sub (by omega)
  rw [show sp_tallies σ (nI k) = (nI (r_q (s_now σ) 4 (k - 10)), σ) by simp (disch := first | assumption | omega) only [sp_tallies, l_of, n_ltT, n_ltF, n_leT, n_leF, n_eqT, n_eqF, n_neM, n_Mne, n_M0, n_Mlt, n_0leM, nI_clamp, x_in_nI, n_1, nI_add, x_at, x_bd_s, x_bv_s, ↓x_lt, decide_true, decide_false, Bool.and_self, Bool.true_and, Bool.and_true, if_true, if_false, ite_true, ite_false, ↓reduceIte, not_true_eq_false, not_false_eq_true, Nat.reduceAdd, Nat.reduceMul, Nat.reduceEqDiff, eq_self, true_and, and_true, false_and, and_false, Option.some.injEq, Prod.mk.injEq, l_0, l_1, l_2, l_3, l_4, l_5, l_6, l_7, l_8, l_9, l_10, l_100, l_160, ↓m_1, ↓m_2, ↓m_3, ↓m_4, ↓m_5, ↓m_6, ↓m_7, h1, h2, h3, h4, h6, h7, true_or, or_true, false_or, or_false, or_self, not_false_eq_true, not_true_eq_false, and_self, true_and, and_true, false_and, and_false]]
  exact c_id_end hG hI (by simp (disch := first | assumption | omega) only [f_X8_tallies_c87, f_X8_tallies_84, f_X8_tallies, l_of, n_ltT, n_ltF, n_leT, n_leF, n_eqT, n_eqF, n_neM, n_Mne, n_M0, n_Mlt, n_0leM, nI_clamp, x_in_nI, n_1, nI_add, x_at, x_bd_s, x_bv_s, ↓x_lt, decide_true, decide_false, Bool.and_self, Bool.true_and, Bool.and_true, if_true, if_false, ite_true, ite_false, ↓reduceIte, not_true_eq_false, not_false_eq_true, Nat.reduceAdd, Nat.reduceMul, Nat.reduceEqDiff, eq_self, true_and, and_true, false_and, and_false, Option.some.injEq, Prod.mk.injEq, l_0, l_1, l_2, l_3, l_4, l_5, l_6, l_7, l_8, l_9, l_10, l_100, l_160, ↓m_1, ↓m_2, ↓m_3, ↓m_4, ↓m_5, ↓m_6, ↓m_7, ii_wi, ji_wi, ri_wi, ti_wi, li_wi, ii_wj, ji_wj, ri_wj, ti_wj, li_wj, gt_20, gr_20_0, gt_21, gr_21_0, gt_22, gl_22, gc_22, gct_24, gr_20_6, gt_51, gl_51, gr_21_6, gt_23, gl_23, h1, h2, h3, h4, h6, h7, q1, q2, c_refM, e5, n_sub10, n_lt1, n_slF, nI_add])
set_option maxHeartbeats 400000 in
theorem om_tallies {B : Nat} {σ : XS} (hW : WFS B σ) (v : Int32) : OpM (f_X9_tallies 83 v) σ (sp_tallies σ v).1 (sp_tallies σ v).2 := by
  intro L b1 b2 M hG hI hMW
  obtain ⟨⟨⟨e0, e1, e2, e3, e4, e5, e6, e7⟩, hc, ht⟩, hi, hsh, hrf, hft, hrn, htr⟩ := id hI
  obtain ⟨⟨⟨w0, w1, w2, w3, w4, w5, w6, w7⟩, wc, wl, wt⟩, wi, wsh, wrn⟩ := id hW
  show EndM L b1 b2 (f_X9_tallies 83 v) M (sp_tallies σ v)
  by_cases h1 : v = nI 0
  · subst h1
    have g1 := m_tru hG ⟨⟨e0, e1, e2, e3, e4, e5, e6, e7⟩, hc, ht⟩ w7 wt
    rw [show sp_tallies σ (nI 0) = (oI (tru (s_now σ)), σ) by simp (disch := first | assumption | omega) only [sp_tallies, l_of, n_ltT, n_ltF, n_leT, n_leF, n_eqT, n_eqF, n_neM, n_Mne, n_M0, n_Mlt, n_0leM, nI_clamp, x_in_nI, n_1, nI_add, x_at, x_bd_s, x_bv_s, ↓x_lt, decide_true, decide_false, Bool.and_self, Bool.true_and, Bool.and_true, if_true, if_false, ite_true, ite_false, ↓reduceIte, not_true_eq_false, not_false_eq_true, Nat.reduceAdd, Nat.reduceMul, Nat.reduceEqDiff, eq_self, true_and, and_true, false_and, and_false, Option.some.injEq, Prod.mk.injEq, l_0, l_1, l_2, l_3, l_4, l_5, l_6, l_7, l_8, l_9, l_10, l_100, l_160, ↓m_1, ↓m_2, ↓m_3, ↓m_4, ↓m_5, ↓m_6, ↓m_7, true_or, or_true, false_or, or_false, or_self, not_false_eq_true, not_true_eq_false, and_self, true_and, and_true, false_and, and_false]]
    exact m_id_end hG hI hMW (by simp (disch := first | assumption | omega) only [f_X9_tallies_27, f_X9_tallies, l_of, n_ltT, n_ltF, n_leT, n_leF, n_eqT, n_eqF, n_neM, n_Mne, n_M0, n_Mlt, n_0leM, nI_clamp, x_in_nI, n_1, nI_add, x_at, x_bd_s, x_bv_s, ↓x_lt, decide_true, decide_false, Bool.and_self, Bool.true_and, Bool.and_true, if_true, if_false, ite_true, ite_false, ↓reduceIte, not_true_eq_false, not_false_eq_true, Nat.reduceAdd, Nat.reduceMul, Nat.reduceEqDiff, eq_self, true_and, and_true, false_and, and_false, Option.some.injEq, Prod.mk.injEq, l_0, l_1, l_2, l_3, l_4, l_5, l_6, l_7, l_8, l_9, l_10, l_100, l_160, ↓m_1, ↓m_2, ↓m_3, ↓m_4, ↓m_5, ↓m_6, ↓m_7, ii_wi, ji_wi, ri_wi, ti_wi, li_wi, ii_wj, ji_wj, ri_wj, ti_wj, li_wj, gt_83, gr_83_9, gt_84, gl_84, gr_83_15, gt_90, gl_90, g1, m_noM, m_noTen, e5, n_sub10, n_lt1, n_slF, nI_add])
  by_cases h2 : v = nI 1
  · subst h2
    have g1 := m_lia hG ⟨⟨e0, e1, e2, e3, e4, e5, e6, e7⟩, hc, ht⟩ w7 wt
    rw [show sp_tallies σ (nI 1) = (oI (lia (s_now σ)), σ) by simp (disch := first | assumption | omega) only [sp_tallies, l_of, n_ltT, n_ltF, n_leT, n_leF, n_eqT, n_eqF, n_neM, n_Mne, n_M0, n_Mlt, n_0leM, nI_clamp, x_in_nI, n_1, nI_add, x_at, x_bd_s, x_bv_s, ↓x_lt, decide_true, decide_false, Bool.and_self, Bool.true_and, Bool.and_true, if_true, if_false, ite_true, ite_false, ↓reduceIte, not_true_eq_false, not_false_eq_true, Nat.reduceAdd, Nat.reduceMul, Nat.reduceEqDiff, eq_self, true_and, and_true, false_and, and_false, Option.some.injEq, Prod.mk.injEq, l_0, l_1, l_2, l_3, l_4, l_5, l_6, l_7, l_8, l_9, l_10, l_100, l_160, ↓m_1, ↓m_2, ↓m_3, ↓m_4, ↓m_5, ↓m_6, ↓m_7, h1, true_or, or_true, false_or, or_false, or_self, not_false_eq_true, not_true_eq_false, and_self, true_and, and_true, false_and, and_false]]
    exact m_id_end hG hI hMW (by simp (disch := first | assumption | omega) only [f_X9_tallies_27, f_X9_tallies, l_of, n_ltT, n_ltF, n_leT, n_leF, n_eqT, n_eqF, n_neM, n_Mne, n_M0, n_Mlt, n_0leM, nI_clamp, x_in_nI, n_1, nI_add, x_at, x_bd_s, x_bv_s, ↓x_lt, decide_true, decide_false, Bool.and_self, Bool.true_and, Bool.and_true, if_true, if_false, ite_true, ite_false, ↓reduceIte, not_true_eq_false, not_false_eq_true, Nat.reduceAdd, Nat.reduceMul, Nat.reduceEqDiff, eq_self, true_and, and_true, false_and, and_false, Option.some.injEq, Prod.mk.injEq, l_0, l_1, l_2, l_3, l_4, l_5, l_6, l_7, l_8, l_9, l_10, l_100, l_160, ↓m_1, ↓m_2, ↓m_3, ↓m_4, ↓m_5, ↓m_6, ↓m_7, ii_wi, ji_wi, ri_wi, ti_wi, li_wi, ii_wj, ji_wj, ri_wj, ti_wj, li_wj, gt_83, gr_83_9, gt_84, gl_84, gr_83_15, gt_90, gl_90, h1, g1, m_noM, m_noTen, e5, n_sub10, n_lt1, n_slF, nI_add])
  by_cases h3 : v = nI 2
  · subst h3
    have g1 := m_spr hG ⟨⟨e0, e1, e2, e3, e4, e5, e6, e7⟩, hc, ht⟩ w7 wt
    rw [show sp_tallies σ (nI 2) = (nI (spr (s_now σ)), σ) by simp (disch := first | assumption | omega) only [sp_tallies, l_of, n_ltT, n_ltF, n_leT, n_leF, n_eqT, n_eqF, n_neM, n_Mne, n_M0, n_Mlt, n_0leM, nI_clamp, x_in_nI, n_1, nI_add, x_at, x_bd_s, x_bv_s, ↓x_lt, decide_true, decide_false, Bool.and_self, Bool.true_and, Bool.and_true, if_true, if_false, ite_true, ite_false, ↓reduceIte, not_true_eq_false, not_false_eq_true, Nat.reduceAdd, Nat.reduceMul, Nat.reduceEqDiff, eq_self, true_and, and_true, false_and, and_false, Option.some.injEq, Prod.mk.injEq, l_0, l_1, l_2, l_3, l_4, l_5, l_6, l_7, l_8, l_9, l_10, l_100, l_160, ↓m_1, ↓m_2, ↓m_3, ↓m_4, ↓m_5, ↓m_6, ↓m_7, h1, h2, true_or, or_true, false_or, or_false, or_self, not_false_eq_true, not_true_eq_false, and_self, true_and, and_true, false_and, and_false]]
    exact m_id_end hG hI hMW (by simp (disch := first | assumption | omega) only [f_X9_tallies_27, f_X9_tallies, l_of, n_ltT, n_ltF, n_leT, n_leF, n_eqT, n_eqF, n_neM, n_Mne, n_M0, n_Mlt, n_0leM, nI_clamp, x_in_nI, n_1, nI_add, x_at, x_bd_s, x_bv_s, ↓x_lt, decide_true, decide_false, Bool.and_self, Bool.true_and, Bool.and_true, if_true, if_false, ite_true, ite_false, ↓reduceIte, not_true_eq_false, not_false_eq_true, Nat.reduceAdd, Nat.reduceMul, Nat.reduceEqDiff, eq_self, true_and, and_true, false_and, and_false, Option.some.injEq, Prod.mk.injEq, l_0, l_1, l_2, l_3, l_4, l_5, l_6, l_7, l_8, l_9, l_10, l_100, l_160, ↓m_1, ↓m_2, ↓m_3, ↓m_4, ↓m_5, ↓m_6, ↓m_7, ii_wi, ji_wi, ri_wi, ti_wi, li_wi, ii_wj, ji_wj, ri_wj, ti_wj, li_wj, gt_83, gr_83_9, gt_84, gl_84, gr_83_15, gt_90, gl_90, h1, h2, g1, m_noM, m_noTen, e5, n_sub10, n_lt1, n_slF, nI_add])
  by_cases h4 : v = nI 3
  · subst h4
    rw [show sp_tallies σ (nI 3) = (nI (r_s (s_now σ) 5), σ) by simp (disch := first | assumption | omega) only [sp_tallies, l_of, n_ltT, n_ltF, n_leT, n_leF, n_eqT, n_eqF, n_neM, n_Mne, n_M0, n_Mlt, n_0leM, nI_clamp, x_in_nI, n_1, nI_add, x_at, x_bd_s, x_bv_s, ↓x_lt, decide_true, decide_false, Bool.and_self, Bool.true_and, Bool.and_true, if_true, if_false, ite_true, ite_false, ↓reduceIte, not_true_eq_false, not_false_eq_true, Nat.reduceAdd, Nat.reduceMul, Nat.reduceEqDiff, eq_self, true_and, and_true, false_and, and_false, Option.some.injEq, Prod.mk.injEq, l_0, l_1, l_2, l_3, l_4, l_5, l_6, l_7, l_8, l_9, l_10, l_100, l_160, ↓m_1, ↓m_2, ↓m_3, ↓m_4, ↓m_5, ↓m_6, ↓m_7, h1, h2, h3, true_or, or_true, false_or, or_false, or_self, not_false_eq_true, not_true_eq_false, and_self, true_and, and_true, false_and, and_false]]
    exact m_id_end hG hI hMW (by simp (disch := first | assumption | omega) only [f_X9_tallies_27, f_X9_tallies, l_of, n_ltT, n_ltF, n_leT, n_leF, n_eqT, n_eqF, n_neM, n_Mne, n_M0, n_Mlt, n_0leM, nI_clamp, x_in_nI, n_1, nI_add, x_at, x_bd_s, x_bv_s, ↓x_lt, decide_true, decide_false, Bool.and_self, Bool.true_and, Bool.and_true, if_true, if_false, ite_true, ite_false, ↓reduceIte, not_true_eq_false, not_false_eq_true, Nat.reduceAdd, Nat.reduceMul, Nat.reduceEqDiff, eq_self, true_and, and_true, false_and, and_false, Option.some.injEq, Prod.mk.injEq, l_0, l_1, l_2, l_3, l_4, l_5, l_6, l_7, l_8, l_9, l_10, l_100, l_160, ↓m_1, ↓m_2, ↓m_3, ↓m_4, ↓m_5, ↓m_6, ↓m_7, ii_wi, ji_wi, ri_wi, ti_wi, li_wi, ii_wj, ji_wj, ri_wj, ti_wj, li_wj, gt_83, gr_83_9, gt_84, gl_84, gr_83_15, gt_90, gl_90, h1, h2, h3, m_noM, m_noTen, e5, n_sub10, n_lt1, n_slF, nI_add])
  rcases i_cs v with h5 | ⟨k, kb, rfl⟩
  · rw [show sp_tallies σ v = (nM 15, u_rf σ 5) by simp (disch := first | assumption | omega) only [sp_tallies, l_of, n_ltT, n_ltF, n_leT, n_leF, n_eqT, n_eqF, n_neM, n_Mne, n_M0, n_Mlt, n_0leM, nI_clamp, x_in_nI, n_1, nI_add, x_at, x_bd_s, x_bv_s, ↓x_lt, decide_true, decide_false, Bool.and_self, Bool.true_and, Bool.and_true, if_true, if_false, ite_true, ite_false, ↓reduceIte, not_true_eq_false, not_false_eq_true, Nat.reduceAdd, Nat.reduceMul, Nat.reduceEqDiff, eq_self, true_and, and_true, false_and, and_false, Option.some.injEq, Prod.mk.injEq, l_0, l_1, l_2, l_3, l_4, l_5, l_6, l_7, l_8, l_9, l_10, l_100, l_160, ↓m_1, ↓m_2, ↓m_3, ↓m_4, ↓m_5, ↓m_6, ↓m_7, h1, h2, h3, h4, h5, true_or, or_true, false_or, or_false, or_self, not_false_eq_true, not_true_eq_false, and_self, true_and, and_true, false_and, and_false]]
    exact m_no_end hG hI hMW (by simp (disch := first | assumption | omega) only [f_X9_tallies_27, f_X9_tallies, l_of, n_ltT, n_ltF, n_leT, n_leF, n_eqT, n_eqF, n_neM, n_Mne, n_M0, n_Mlt, n_0leM, nI_clamp, x_in_nI, n_1, nI_add, x_at, x_bd_s, x_bv_s, ↓x_lt, decide_true, decide_false, Bool.and_self, Bool.true_and, Bool.and_true, if_true, if_false, ite_true, ite_false, ↓reduceIte, not_true_eq_false, not_false_eq_true, Nat.reduceAdd, Nat.reduceMul, Nat.reduceEqDiff, eq_self, true_and, and_true, false_and, and_false, Option.some.injEq, Prod.mk.injEq, l_0, l_1, l_2, l_3, l_4, l_5, l_6, l_7, l_8, l_9, l_10, l_100, l_160, ↓m_1, ↓m_2, ↓m_3, ↓m_4, ↓m_5, ↓m_6, ↓m_7, ii_wi, ji_wi, ri_wi, ti_wi, li_wi, ii_wj, ji_wj, ri_wj, ti_wj, li_wj, gt_83, gr_83_9, gt_84, gl_84, gr_83_15, gt_90, gl_90, h1, h2, h3, h4, h5, m_noM, m_noTen, e5, n_sub10, n_lt1, n_slF, nI_add])
  by_cases h6 : k < 10
  · rw [show sp_tallies σ (nI k) = (nM 15, u_rf σ 5) by simp (disch := first | assumption | omega) only [sp_tallies, l_of, n_ltT, n_ltF, n_leT, n_leF, n_eqT, n_eqF, n_neM, n_Mne, n_M0, n_Mlt, n_0leM, nI_clamp, x_in_nI, n_1, nI_add, x_at, x_bd_s, x_bv_s, ↓x_lt, decide_true, decide_false, Bool.and_self, Bool.true_and, Bool.and_true, if_true, if_false, ite_true, ite_false, ↓reduceIte, not_true_eq_false, not_false_eq_true, Nat.reduceAdd, Nat.reduceMul, Nat.reduceEqDiff, eq_self, true_and, and_true, false_and, and_false, Option.some.injEq, Prod.mk.injEq, l_0, l_1, l_2, l_3, l_4, l_5, l_6, l_7, l_8, l_9, l_10, l_100, l_160, ↓m_1, ↓m_2, ↓m_3, ↓m_4, ↓m_5, ↓m_6, ↓m_7, h1, h2, h3, h4, h6, true_or, or_true, false_or, or_false, or_self, not_false_eq_true, not_true_eq_false, and_self, true_and, and_true, false_and, and_false]]
    exact m_no_end hG hI hMW (by simp (disch := first | assumption | omega) only [f_X9_tallies_27, f_X9_tallies, l_of, n_ltT, n_ltF, n_leT, n_leF, n_eqT, n_eqF, n_neM, n_Mne, n_M0, n_Mlt, n_0leM, nI_clamp, x_in_nI, n_1, nI_add, x_at, x_bd_s, x_bv_s, ↓x_lt, decide_true, decide_false, Bool.and_self, Bool.true_and, Bool.and_true, if_true, if_false, ite_true, ite_false, ↓reduceIte, not_true_eq_false, not_false_eq_true, Nat.reduceAdd, Nat.reduceMul, Nat.reduceEqDiff, eq_self, true_and, and_true, false_and, and_false, Option.some.injEq, Prod.mk.injEq, l_0, l_1, l_2, l_3, l_4, l_5, l_6, l_7, l_8, l_9, l_10, l_100, l_160, ↓m_1, ↓m_2, ↓m_3, ↓m_4, ↓m_5, ↓m_6, ↓m_7, ii_wi, ji_wi, ri_wi, ti_wi, li_wi, ii_wj, ji_wj, ri_wj, ti_wj, li_wj, gt_83, gr_83_9, gt_84, gl_84, gr_83_15, gt_90, gl_90, h1, h2, h3, h4, h6, m_noM, m_noTen, e5, n_sub10, n_lt1, n_slF, nI_add])
  by_cases h7 : 10 + r_s (s_now σ) 5 ≤ k
  · rw [show sp_tallies σ (nI k) = (nM 15, u_rf σ 5) by simp (disch := first | assumption | omega) only [sp_tallies, l_of, n_ltT, n_ltF, n_leT, n_leF, n_eqT, n_eqF, n_neM, n_Mne, n_M0, n_Mlt, n_0leM, nI_clamp, x_in_nI, n_1, nI_add, x_at, x_bd_s, x_bv_s, ↓x_lt, decide_true, decide_false, Bool.and_self, Bool.true_and, Bool.and_true, if_true, if_false, ite_true, ite_false, ↓reduceIte, not_true_eq_false, not_false_eq_true, Nat.reduceAdd, Nat.reduceMul, Nat.reduceEqDiff, eq_self, true_and, and_true, false_and, and_false, Option.some.injEq, Prod.mk.injEq, l_0, l_1, l_2, l_3, l_4, l_5, l_6, l_7, l_8, l_9, l_10, l_100, l_160, ↓m_1, ↓m_2, ↓m_3, ↓m_4, ↓m_5, ↓m_6, ↓m_7, h1, h2, h3, h4, h6, h7, true_or, or_true, false_or, or_false, or_self, not_false_eq_true, not_true_eq_false, and_self, true_and, and_true, false_and, and_false]]
    exact m_no_end hG hI hMW (by simp (disch := first | assumption | omega) only [f_X9_tallies_27, f_X9_tallies, l_of, n_ltT, n_ltF, n_leT, n_leF, n_eqT, n_eqF, n_neM, n_Mne, n_M0, n_Mlt, n_0leM, nI_clamp, x_in_nI, n_1, nI_add, x_at, x_bd_s, x_bv_s, ↓x_lt, decide_true, decide_false, Bool.and_self, Bool.true_and, Bool.and_true, if_true, if_false, ite_true, ite_false, ↓reduceIte, not_true_eq_false, not_false_eq_true, Nat.reduceAdd, Nat.reduceMul, Nat.reduceEqDiff, eq_self, true_and, and_true, false_and, and_false, Option.some.injEq, Prod.mk.injEq, l_0, l_1, l_2, l_3, l_4, l_5, l_6, l_7, l_8, l_9, l_10, l_100, l_160, ↓m_1, ↓m_2, ↓m_3, ↓m_4, ↓m_5, ↓m_6, ↓m_7, ii_wi, ji_wi, ri_wi, ti_wi, li_wi, ii_wj, ji_wj, ri_wj, ti_wj, li_wj, gt_83, gr_83_9, gt_84, gl_84, gr_83_15, gt_90, gl_90, h1, h2, h3, h4, h6, h7, m_noM, m_noTen, e5, n_sub10, n_lt1, n_slF, nI_add])
  have q1 := ht (k - 10) (by omega)
  have q2 : nI k - nI 10 = nI (k - 10) := pk_sub (by omega)
  rw [show sp_tallies σ (nI k) = (nI (r_q (s_now σ) 4 (k - 10)), σ) by simp (disch := first | assumption | omega) only [sp_tallies, l_of, n_ltT, n_ltF, n_leT, n_leF, n_eqT, n_eqF, n_neM, n_Mne, n_M0, n_Mlt, n_0leM, nI_clamp, x_in_nI, n_1, nI_add, x_at, x_bd_s, x_bv_s, ↓x_lt, decide_true, decide_false, Bool.and_self, Bool.true_and, Bool.and_true, if_true, if_false, ite_true, ite_false, ↓reduceIte, not_true_eq_false, not_false_eq_true, Nat.reduceAdd, Nat.reduceMul, Nat.reduceEqDiff, eq_self, true_and, and_true, false_and, and_false, Option.some.injEq, Prod.mk.injEq, l_0, l_1, l_2, l_3, l_4, l_5, l_6, l_7, l_8, l_9, l_10, l_100, l_160, ↓m_1, ↓m_2, ↓m_3, ↓m_4, ↓m_5, ↓m_6, ↓m_7, h1, h2, h3, h4, h6, h7, true_or, or_true, false_or, or_false, or_self, not_false_eq_true, not_true_eq_false, and_self, true_and, and_true, false_and, and_false]]
  exact m_id_end hG hI hMW (by simp (disch := first | assumption | omega) only [f_X9_tallies_27, f_X9_tallies, l_of, n_ltT, n_ltF, n_leT, n_leF, n_eqT, n_eqF, n_neM, n_Mne, n_M0, n_Mlt, n_0leM, nI_clamp, x_in_nI, n_1, nI_add, x_at, x_bd_s, x_bv_s, ↓x_lt, decide_true, decide_false, Bool.and_self, Bool.true_and, Bool.and_true, if_true, if_false, ite_true, ite_false, ↓reduceIte, not_true_eq_false, not_false_eq_true, Nat.reduceAdd, Nat.reduceMul, Nat.reduceEqDiff, eq_self, true_and, and_true, false_and, and_false, Option.some.injEq, Prod.mk.injEq, l_0, l_1, l_2, l_3, l_4, l_5, l_6, l_7, l_8, l_9, l_10, l_100, l_160, ↓m_1, ↓m_2, ↓m_3, ↓m_4, ↓m_5, ↓m_6, ↓m_7, ii_wi, ji_wi, ri_wi, ti_wi, li_wi, ii_wj, ji_wj, ri_wj, ti_wj, li_wj, gt_83, gr_83_9, gt_84, gl_84, gr_83_15, gt_90, gl_90, h1, h2, h3, h4, h6, h7, q1, q2, m_noM, m_noTen, e5, n_sub10, n_lt1, n_slF, nI_add])
