/-! THE LAW'S LOOP -/
def LwI (L : Nat) (σ : XS) (xs : Nat → Int32) (M : XM) : Prop := ∃ b1 b2, Geo L b1 b2 M ∧ CInv σ M ∧ MInv σ M ∧ MW M ∧ CT M ∧ CS M ∧ ∀ j, x_i M 1 j = xs j
theorem lg_same (v : Int64) : lg_cmp v v = nI 0 := by
  unfold lg_cmp
  rw [if_neg (fun h => by rw [gt_iff_lt, Int64.lt_iff_toInt_lt] at h; omega), if_pos rfl]
  rfl
def LwP (κ : Nat → Nat → Nat → Int32 → XM → Option (Int32 × XM)) (L : Nat) (xs : Nat → Int32) (i B : Nat) (o : Option (Int32 × XM)) : Prop := ∃ σ' M', o = κ 1 20 83 (nI (i + 6)) M' ∧ LwI L σ' xs M' ∧ WFS (B + 400) σ'
section
variable {L : Nat} {b1 b2 : Bool} {M : XM} {σ : XS} {B i : Nat} {xs : Nat → Int32} {κ : Nat → Nat → Nat → Int32 → XM → Option (Int32 × XM)}
theorem LwP.ite {c : Prop} [Decidable c] {a b : Option (Int32 × XM)} (h1 : LwP κ L xs i B a) (h2 : LwP κ L xs i B b) : LwP κ L xs i B (if c then a else b) := by split <;> assumption
theorem MInv.agA {M' : XM} (h : MInv σ M) (g : Agr 83 105 M M') : MInv σ M' := h.ag (fun j _ => g.i _ (by omega) (by omega)) (g.mono (by omega) (by omega)) (g.mono (by omega) (by omega)) (g.mono (by omega) (by omega))
theorem CInv.agA {M' : XM} (h : CInv σ M) (g : Agr 0 83 M M') : CInv σ M' := h.ag ⟨g.i _ (by omega) (by omega), g.i _ (by omega) (by omega)⟩ (g.mono (by omega) (by omega)) (g.mono (by omega) (by omega)) (g.mono (by omega) (by omega))
theorem Pr.go {α : Type} {f g : XM → Option (α × XM)} (h : Pr B σ f g) (hL : LwI L σ xs M) : ∃ r σ' M1 M2 c1 c2, f M = some (r, M1) ∧ g M1 = some (r, M2) ∧ WFS (B + 400) σ' ∧ LwI L σ' xs M2 ∧ Geo L c1 c2 M1 ∧ ∀ j, x_i M1 1 j = xs j := by
  obtain ⟨r, σ', h1, h2, h3⟩ := h
  obtain ⟨b1, b2, hG, hC, hM, hW, hT, hS, hx⟩ := hL
  obtain ⟨M1, c1, c2, e1, g1, i1, a1, a2⟩ := h1 L b1 b2 M hG hC hT hS
  obtain ⟨M2, e2, g2, i2, w2, a3⟩ := h2 L c1 c2 M1 g1 (hM.agA a2) (hW.ag (a2.mono (by omega) (by omega)))
  have hx1 : ∀ j, x_i M1 1 j = xs j := fun j => (a1.i _ (by omega) (by omega)).trans (hx j)
  exact ⟨r, σ', M1, M2, c1, c2, e1, e2, h3, ⟨c1, c2, g2, i1.agA a3, i2, w2, (hT.ag a1).ag (a3.mono (by omega) (by omega)), (hS.ag a1).ag (a3.mono (by omega) (by omega)), fun j => (a3.i _ (by omega) (by omega)).trans (hx1 j)⟩, g1, hx1⟩
theorem arm_208 (hL : LwI L σ xs M) (hW : WFS B σ) (hB : B ≤ 800000) (hi : i + 6 ≤ L) (hLb : L < 1000000) : LwP κ L xs i B (f_L_law_208 κ 1 20 83 (nI i) M) := by
  obtain ⟨r, σ', M1, M2, c1, c2, e1, e2, w, l2, g1, x1⟩ := (pr_row hW hB (xs (i + 1)) (xs (i + 2)) (xs (i + 3))).go hL
  obtain ⟨b1, b2, hG, -, -, -, -, -, hx⟩ := hL
  have t1 : (1 : Nat) < 20 := by omega
  refine ⟨σ', M2, ?_, l2, w⟩
  simp (disch := first | assumption | omega) only [f_L_law_208, f_L_law_c224, f_L_law_c243, f_L_law_1519, gt_1, gl_1, gt_20, gt_83, t1, hx, x1, e1, e2, lg_same, l_of, n_ltT, n_ltF, n_leT, n_leF, n_eqT, n_eqF, n_neM, n_Mne, n_M0, n_Mlt, n_0leM, nI_clamp, x_in_nI, n_1, nI_add, x_at, x_bd_s, x_bv_s, ↓x_lt, decide_true, decide_false, Bool.and_self, Bool.true_and, Bool.and_true, if_true, if_false, ite_true, ite_false, ↓reduceIte, not_true_eq_false, not_false_eq_true, Nat.reduceAdd, Nat.reduceMul, Nat.reduceEqDiff, eq_self, true_and, and_true, false_and, and_false, Option.some.injEq, Prod.mk.injEq, l_0, l_1, l_2, l_3, l_4, l_5, l_6, l_7, l_8, l_9, l_10, l_100, l_160, ↓m_1, ↓m_2, ↓m_3, ↓m_4, ↓m_5, ↓m_6, ↓m_7]
theorem arm_251 (hL : LwI L σ xs M) (hW : WFS B σ) (hB : B ≤ 800000) (hi : i + 6 ≤ L) (hLb : L < 1000000) : LwP κ L xs i B (f_L_law_251 κ 1 20 83 (nI i) M) := by
  obtain ⟨r, σ', M1, M2, c1, c2, e1, e2, w, l2, g1, x1⟩ := (pr_set hW hB (xs (i + 1)) (xs (i + 2)) ((((xs (i + 3)).toInt64) <<< ((32 : Int32).toInt64 &&& 63)) ||| (((xs (i + 4)).toInt64) &&& (4294967295 : Int64)))).go hL
  obtain ⟨b1, b2, hG, -, -, -, -, -, hx⟩ := hL
  have t1 : (1 : Nat) < 20 := by omega
  refine ⟨σ', M2, ?_, l2, w⟩
  simp (disch := first | assumption | omega) only [f_L_law_251, f_L_law_c282, f_L_law_c316, f_L_law_1519, gt_1, gl_1, gt_20, gt_83, t1, hx, x1, e1, e2, lg_same, l_of, n_ltT, n_ltF, n_leT, n_leF, n_eqT, n_eqF, n_neM, n_Mne, n_M0, n_Mlt, n_0leM, nI_clamp, x_in_nI, n_1, nI_add, x_at, x_bd_s, x_bv_s, ↓x_lt, decide_true, decide_false, Bool.and_self, Bool.true_and, Bool.and_true, if_true, if_false, ite_true, ite_false, ↓reduceIte, not_true_eq_false, not_false_eq_true, Nat.reduceAdd, Nat.reduceMul, Nat.reduceEqDiff, eq_self, true_and, and_true, false_and, and_false, Option.some.injEq, Prod.mk.injEq, l_0, l_1, l_2, l_3, l_4, l_5, l_6, l_7, l_8, l_9, l_10, l_100, l_160, ↓m_1, ↓m_2, ↓m_3, ↓m_4, ↓m_5, ↓m_6, ↓m_7]
theorem arm_324 (hL : LwI L σ xs M) (hW : WFS B σ) (hB : B ≤ 800000) (hi : i + 6 ≤ L) (hLb : L < 1000000) : LwP κ L xs i B (f_L_law_324 κ 1 20 83 (nI i) M) := by
  obtain ⟨r, σ', M1, M2, c1, c2, e1, e2, w, l2, g1, x1⟩ := (pr_copy hW hB (xs (i + 1)) (xs (i + 2)) (xs (i + 3)) (xs (i + 4)) (xs (i + 5))).go hL
  obtain ⟨b1, b2, hG, -, -, -, -, -, hx⟩ := hL
  have t1 : (1 : Nat) < 20 := by omega
  refine ⟨σ', M2, ?_, l2, w⟩
  simp (disch := first | assumption | omega) only [f_L_law_324, f_L_law_c350, f_L_law_c379, f_L_law_1519, gt_1, gl_1, gt_20, gt_83, t1, hx, x1, e1, e2, lg_same, l_of, n_ltT, n_ltF, n_leT, n_leF, n_eqT, n_eqF, n_neM, n_Mne, n_M0, n_Mlt, n_0leM, nI_clamp, x_in_nI, n_1, nI_add, x_at, x_bd_s, x_bv_s, ↓x_lt, decide_true, decide_false, Bool.and_self, Bool.true_and, Bool.and_true, if_true, if_false, ite_true, ite_false, ↓reduceIte, not_true_eq_false, not_false_eq_true, Nat.reduceAdd, Nat.reduceMul, Nat.reduceEqDiff, eq_self, true_and, and_true, false_and, and_false, Option.some.injEq, Prod.mk.injEq, l_0, l_1, l_2, l_3, l_4, l_5, l_6, l_7, l_8, l_9, l_10, l_100, l_160, ↓m_1, ↓m_2, ↓m_3, ↓m_4, ↓m_5, ↓m_6, ↓m_7]
theorem arm_387 (hL : LwI L σ xs M) (hW : WFS B σ) (hB : B ≤ 800000) (hi : i + 6 ≤ L) (hLb : L < 1000000) : LwP κ L xs i B (f_L_law_387 κ 1 20 83 (nI i) M) := by
  obtain ⟨r, σ', M1, M2, c1, c2, e1, e2, w, l2, g1, x1⟩ := (pr_element hW hB (xs (i + 1)) (xs (i + 2))).go hL
  obtain ⟨b1, b2, hG, -, -, -, -, -, hx⟩ := hL
  have t1 : (1 : Nat) < 20 := by omega
  refine ⟨σ', M2, ?_, l2, w⟩
  simp (disch := first | assumption | omega) only [f_L_law_387, f_L_law_c398, f_L_law_c412, f_L_law_1519, gt_1, gl_1, gt_20, gt_83, t1, hx, x1, e1, e2, lg_same, l_of, n_ltT, n_ltF, n_leT, n_leF, n_eqT, n_eqF, n_neM, n_Mne, n_M0, n_Mlt, n_0leM, nI_clamp, x_in_nI, n_1, nI_add, x_at, x_bd_s, x_bv_s, ↓x_lt, decide_true, decide_false, Bool.and_self, Bool.true_and, Bool.and_true, if_true, if_false, ite_true, ite_false, ↓reduceIte, not_true_eq_false, not_false_eq_true, Nat.reduceAdd, Nat.reduceMul, Nat.reduceEqDiff, eq_self, true_and, and_true, false_and, and_false, Option.some.injEq, Prod.mk.injEq, l_0, l_1, l_2, l_3, l_4, l_5, l_6, l_7, l_8, l_9, l_10, l_100, l_160, ↓m_1, ↓m_2, ↓m_3, ↓m_4, ↓m_5, ↓m_6, ↓m_7]
theorem arm_421 (hL : LwI L σ xs M) (hW : WFS B σ) (hB : B ≤ 800000) (hi : i + 6 ≤ L) (hLb : L < 1000000) : LwP κ L xs i B (f_L_law_421 κ 1 20 83 (nI i) M) := by
  obtain ⟨r, σ', M1, M2, c1, c2, e1, e2, w, l2, g1, x1⟩ := (pr_show hW hB (xs (i + 1)) (xs (i + 2))).go hL
  obtain ⟨b1, b2, hG, -, -, -, -, -, hx⟩ := hL
  have t1 : (1 : Nat) < 20 := by omega
  refine ⟨σ', M2, ?_, l2, w⟩
  simp (disch := first | assumption | omega) only [f_L_law_421, f_L_law_c432, f_L_law_c446, f_L_law_1519, gt_1, gl_1, gt_20, gt_83, t1, hx, x1, e1, e2, lg_same, l_of, n_ltT, n_ltF, n_leT, n_leF, n_eqT, n_eqF, n_neM, n_Mne, n_M0, n_Mlt, n_0leM, nI_clamp, x_in_nI, n_1, nI_add, x_at, x_bd_s, x_bv_s, ↓x_lt, decide_true, decide_false, Bool.and_self, Bool.true_and, Bool.and_true, if_true, if_false, ite_true, ite_false, ↓reduceIte, not_true_eq_false, not_false_eq_true, Nat.reduceAdd, Nat.reduceMul, Nat.reduceEqDiff, eq_self, true_and, and_true, false_and, and_false, Option.some.injEq, Prod.mk.injEq, l_0, l_1, l_2, l_3, l_4, l_5, l_6, l_7, l_8, l_9, l_10, l_100, l_160, ↓m_1, ↓m_2, ↓m_3, ↓m_4, ↓m_5, ↓m_6, ↓m_7]
theorem arm_454 (hL : LwI L σ xs M) (hW : WFS B σ) (hB : B ≤ 800000) (hi : i + 6 ≤ L) (hLb : L < 1000000) : LwP κ L xs i B (f_L_law_454 κ 1 20 83 (nI i) M) := by
  obtain ⟨r, σ', M1, M2, c1, c2, e1, e2, w, l2, g1, x1⟩ := (pr_holds hW hB (xs (i + 1))).go hL
  obtain ⟨b1, b2, hG, -, -, -, -, -, hx⟩ := hL
  have t1 : (1 : Nat) < 20 := by omega
  refine ⟨σ', M2, ?_, l2, w⟩
  simp (disch := first | assumption | omega) only [f_L_law_454, f_L_law_c460, f_L_law_c469, f_L_law_1519, gt_1, gl_1, gt_20, gt_83, t1, hx, x1, e1, e2, lg_same, l_of, n_ltT, n_ltF, n_leT, n_leF, n_eqT, n_eqF, n_neM, n_Mne, n_M0, n_Mlt, n_0leM, nI_clamp, x_in_nI, n_1, nI_add, x_at, x_bd_s, x_bv_s, ↓x_lt, decide_true, decide_false, Bool.and_self, Bool.true_and, Bool.and_true, if_true, if_false, ite_true, ite_false, ↓reduceIte, not_true_eq_false, not_false_eq_true, Nat.reduceAdd, Nat.reduceMul, Nat.reduceEqDiff, eq_self, true_and, and_true, false_and, and_false, Option.some.injEq, Prod.mk.injEq, l_0, l_1, l_2, l_3, l_4, l_5, l_6, l_7, l_8, l_9, l_10, l_100, l_160, ↓m_1, ↓m_2, ↓m_3, ↓m_4, ↓m_5, ↓m_6, ↓m_7]
theorem arm_477 (hL : LwI L σ xs M) (hW : WFS B σ) (hB : B ≤ 800000) (hi : i + 6 ≤ L) (hLb : L < 1000000) : LwP κ L xs i B (f_L_law_477 κ 1 20 83 (nI i) M) := by
  obtain ⟨r, σ', M1, M2, c1, c2, e1, e2, w, l2, g1, x1⟩ := (pr_says hW hB (xs (i + 1)) (xs (i + 2))).go hL
  obtain ⟨b1, b2, hG, -, -, -, -, -, hx⟩ := hL
  have t1 : (1 : Nat) < 20 := by omega
  refine ⟨σ', M2, ?_, l2, w⟩
  simp (disch := first | assumption | omega) only [f_L_law_477, f_L_law_c488, f_L_law_c502, f_L_law_1519, gt_1, gl_1, gt_20, gt_83, t1, hx, x1, e1, e2, lg_same, l_of, n_ltT, n_ltF, n_leT, n_leF, n_eqT, n_eqF, n_neM, n_Mne, n_M0, n_Mlt, n_0leM, nI_clamp, x_in_nI, n_1, nI_add, x_at, x_bd_s, x_bv_s, ↓x_lt, decide_true, decide_false, Bool.and_self, Bool.true_and, Bool.and_true, if_true, if_false, ite_true, ite_false, ↓reduceIte, not_true_eq_false, not_false_eq_true, Nat.reduceAdd, Nat.reduceMul, Nat.reduceEqDiff, eq_self, true_and, and_true, false_and, and_false, Option.some.injEq, Prod.mk.injEq, l_0, l_1, l_2, l_3, l_4, l_5, l_6, l_7, l_8, l_9, l_10, l_100, l_160, ↓m_1, ↓m_2, ↓m_3, ↓m_4, ↓m_5, ↓m_6, ↓m_7]
theorem arm_510 (hL : LwI L σ xs M) (hW : WFS B σ) (hB : B ≤ 800000) (hi : i + 6 ≤ L) (hLb : L < 1000000) : LwP κ L xs i B (f_L_law_510 κ 1 20 83 (nI i) M) := by
  obtain ⟨r, σ', M1, M2, c1, c2, e1, e2, w, l2, g1, x1⟩ := (pr_counter hW hB (xs (i + 1)) (xs (i + 2))).go hL
  obtain ⟨b1, b2, hG, -, -, -, -, -, hx⟩ := hL
  have t1 : (1 : Nat) < 20 := by omega
  refine ⟨σ', M2, ?_, l2, w⟩
  simp (disch := first | assumption | omega) only [f_L_law_510, f_L_law_c521, f_L_law_c535, f_L_law_1519, gt_1, gl_1, gt_20, gt_83, t1, hx, x1, e1, e2, lg_same, l_of, n_ltT, n_ltF, n_leT, n_leF, n_eqT, n_eqF, n_neM, n_Mne, n_M0, n_Mlt, n_0leM, nI_clamp, x_in_nI, n_1, nI_add, x_at, x_bd_s, x_bv_s, ↓x_lt, decide_true, decide_false, Bool.and_self, Bool.true_and, Bool.and_true, if_true, if_false, ite_true, ite_false, ↓reduceIte, not_true_eq_false, not_false_eq_true, Nat.reduceAdd, Nat.reduceMul, Nat.reduceEqDiff, eq_self, true_and, and_true, false_and, and_false, Option.some.injEq, Prod.mk.injEq, l_0, l_1, l_2, l_3, l_4, l_5, l_6, l_7, l_8, l_9, l_10, l_100, l_160, ↓m_1, ↓m_2, ↓m_3, ↓m_4, ↓m_5, ↓m_6, ↓m_7]
theorem arm_543 (hL : LwI L σ xs M) (hW : WFS B σ) (hB : B ≤ 800000) (hi : i + 6 ≤ L) (hLb : L < 1000000) : LwP κ L xs i B (f_L_law_543 κ 1 20 83 (nI i) M) := by
  obtain ⟨r, σ', M1, M2, c1, c2, e1, e2, w, l2, g1, x1⟩ := (pr_counterOf hW hB (xs (i + 1)) (xs (i + 2))).go hL
  obtain ⟨b1, b2, hG, -, -, -, -, -, hx⟩ := hL
  have t1 : (1 : Nat) < 20 := by omega
  refine ⟨σ', M2, ?_, l2, w⟩
  simp (disch := first | assumption | omega) only [f_L_law_543, f_L_law_c554, f_L_law_c568, f_L_law_1519, gt_1, gl_1, gt_20, gt_83, t1, hx, x1, e1, e2, lg_same, l_of, n_ltT, n_ltF, n_leT, n_leF, n_eqT, n_eqF, n_neM, n_Mne, n_M0, n_Mlt, n_0leM, nI_clamp, x_in_nI, n_1, nI_add, x_at, x_bd_s, x_bv_s, ↓x_lt, decide_true, decide_false, Bool.and_self, Bool.true_and, Bool.and_true, if_true, if_false, ite_true, ite_false, ↓reduceIte, not_true_eq_false, not_false_eq_true, Nat.reduceAdd, Nat.reduceMul, Nat.reduceEqDiff, eq_self, true_and, and_true, false_and, and_false, Option.some.injEq, Prod.mk.injEq, l_0, l_1, l_2, l_3, l_4, l_5, l_6, l_7, l_8, l_9, l_10, l_100, l_160, ↓m_1, ↓m_2, ↓m_3, ↓m_4, ↓m_5, ↓m_6, ↓m_7]
theorem arm_576 (hL : LwI L σ xs M) (hW : WFS B σ) (hB : B ≤ 800000) (hi : i + 6 ≤ L) (hLb : L < 1000000) : LwP κ L xs i B (f_L_law_576 κ 1 20 83 (nI i) M) := by
  obtain ⟨r, σ', M1, M2, c1, c2, e1, e2, w, l2, g1, x1⟩ := (pr_ask hW hB (xs (i + 1)) (xs (i + 2))).go hL
  obtain ⟨b1, b2, hG, -, -, -, -, -, hx⟩ := hL
  have t1 : (1 : Nat) < 20 := by omega
  refine ⟨σ', M2, ?_, l2, w⟩
  simp (disch := first | assumption | omega) only [f_L_law_576, f_L_law_c587, f_L_law_c601, f_L_law_1519, gt_1, gl_1, gt_20, gt_83, t1, hx, x1, e1, e2, lg_same, l_of, n_ltT, n_ltF, n_leT, n_leF, n_eqT, n_eqF, n_neM, n_Mne, n_M0, n_Mlt, n_0leM, nI_clamp, x_in_nI, n_1, nI_add, x_at, x_bd_s, x_bv_s, ↓x_lt, decide_true, decide_false, Bool.and_self, Bool.true_and, Bool.and_true, if_true, if_false, ite_true, ite_false, ↓reduceIte, not_true_eq_false, not_false_eq_true, Nat.reduceAdd, Nat.reduceMul, Nat.reduceEqDiff, eq_self, true_and, and_true, false_and, and_false, Option.some.injEq, Prod.mk.injEq, l_0, l_1, l_2, l_3, l_4, l_5, l_6, l_7, l_8, l_9, l_10, l_100, l_160, ↓m_1, ↓m_2, ↓m_3, ↓m_4, ↓m_5, ↓m_6, ↓m_7]
theorem arm_609 (hL : LwI L σ xs M) (hW : WFS B σ) (hB : B ≤ 800000) (hi : i + 6 ≤ L) (hLb : L < 1000000) : LwP κ L xs i B (f_L_law_609 κ 1 20 83 (nI i) M) := by
  obtain ⟨r, σ', M1, M2, c1, c2, e1, e2, w, l2, g1, x1⟩ := (pr_put hW hB (xs (i + 1)) (xs (i + 2))).go hL
  obtain ⟨b1, b2, hG, -, -, -, -, -, hx⟩ := hL
  have t1 : (1 : Nat) < 20 := by omega
  refine ⟨σ', M2, ?_, l2, w⟩
  simp (disch := first | assumption | omega) only [f_L_law_609, f_L_law_c620, f_L_law_c634, f_L_law_1519, gt_1, gl_1, gt_20, gt_83, t1, hx, x1, e1, e2, lg_same, l_of, n_ltT, n_ltF, n_leT, n_leF, n_eqT, n_eqF, n_neM, n_Mne, n_M0, n_Mlt, n_0leM, nI_clamp, x_in_nI, n_1, nI_add, x_at, x_bd_s, x_bv_s, ↓x_lt, decide_true, decide_false, Bool.and_self, Bool.true_and, Bool.and_true, if_true, if_false, ite_true, ite_false, ↓reduceIte, not_true_eq_false, not_false_eq_true, Nat.reduceAdd, Nat.reduceMul, Nat.reduceEqDiff, eq_self, true_and, and_true, false_and, and_false, Option.some.injEq, Prod.mk.injEq, l_0, l_1, l_2, l_3, l_4, l_5, l_6, l_7, l_8, l_9, l_10, l_100, l_160, ↓m_1, ↓m_2, ↓m_3, ↓m_4, ↓m_5, ↓m_6, ↓m_7]
theorem arm_642 (hL : LwI L σ xs M) (hW : WFS B σ) (hB : B ≤ 800000) (hi : i + 6 ≤ L) (hLb : L < 1000000) : LwP κ L xs i B (f_L_law_642 κ 1 20 83 (nI i) M) := by
  obtain ⟨r, σ', M1, M2, c1, c2, e1, e2, w, l2, g1, x1⟩ := (pr_room hW hB (xs (i + 1))).go hL
  obtain ⟨b1, b2, hG, -, -, -, -, -, hx⟩ := hL
  have t1 : (1 : Nat) < 20 := by omega
  refine ⟨σ', M2, ?_, l2, w⟩
  simp (disch := first | assumption | omega) only [f_L_law_642, f_L_law_c648, f_L_law_c657, f_L_law_1519, gt_1, gl_1, gt_20, gt_83, t1, hx, x1, e1, e2, lg_same, l_of, n_ltT, n_ltF, n_leT, n_leF, n_eqT, n_eqF, n_neM, n_Mne, n_M0, n_Mlt, n_0leM, nI_clamp, x_in_nI, n_1, nI_add, x_at, x_bd_s, x_bv_s, ↓x_lt, decide_true, decide_false, Bool.and_self, Bool.true_and, Bool.and_true, if_true, if_false, ite_true, ite_false, ↓reduceIte, not_true_eq_false, not_false_eq_true, Nat.reduceAdd, Nat.reduceMul, Nat.reduceEqDiff, eq_self, true_and, and_true, false_and, and_false, Option.some.injEq, Prod.mk.injEq, l_0, l_1, l_2, l_3, l_4, l_5, l_6, l_7, l_8, l_9, l_10, l_100, l_160, ↓m_1, ↓m_2, ↓m_3, ↓m_4, ↓m_5, ↓m_6, ↓m_7]
theorem arm_665 (hL : LwI L σ xs M) (hW : WFS B σ) (hB : B ≤ 800000) (hi : i + 6 ≤ L) (hLb : L < 1000000) : LwP κ L xs i B (f_L_law_665 κ 1 20 83 (nI i) M) := by
  obtain ⟨r, σ', M1, M2, c1, c2, e1, e2, w, l2, g1, x1⟩ := (pr_fault hW hB).go hL
  obtain ⟨b1, b2, hG, -, -, -, -, -, hx⟩ := hL
  have t1 : (1 : Nat) < 20 := by omega
  refine ⟨σ', M2, ?_, l2, w⟩
  simp (disch := first | assumption | omega) only [f_L_law_665, f_L_law_c666, f_L_law_c670, f_L_law_1519, gt_1, gl_1, gt_20, gt_83, t1, hx, x1, e1, e2, lg_same, l_of, n_ltT, n_ltF, n_leT, n_leF, n_eqT, n_eqF, n_neM, n_Mne, n_M0, n_Mlt, n_0leM, nI_clamp, x_in_nI, n_1, nI_add, x_at, x_bd_s, x_bv_s, ↓x_lt, decide_true, decide_false, Bool.and_self, Bool.true_and, Bool.and_true, if_true, if_false, ite_true, ite_false, ↓reduceIte, not_true_eq_false, not_false_eq_true, Nat.reduceAdd, Nat.reduceMul, Nat.reduceEqDiff, eq_self, true_and, and_true, false_and, and_false, Option.some.injEq, Prod.mk.injEq, l_0, l_1, l_2, l_3, l_4, l_5, l_6, l_7, l_8, l_9, l_10, l_100, l_160, ↓m_1, ↓m_2, ↓m_3, ↓m_4, ↓m_5, ↓m_6, ↓m_7]
theorem arm_678 (hL : LwI L σ xs M) (hW : WFS B σ) (hB : B ≤ 800000) (hi : i + 6 ≤ L) (hLb : L < 1000000) : LwP κ L xs i B (f_L_law_678 κ 1 20 83 (nI i) M) := by
  obtain ⟨r, σ', M1, M2, c1, c2, e1, e2, w, l2, g1, x1⟩ := (pr_back hW hB (xs (i + 1))).go hL
  obtain ⟨b1, b2, hG, -, -, -, -, -, hx⟩ := hL
  have t1 : (1 : Nat) < 20 := by omega
  refine ⟨σ', M2, ?_, l2, w⟩
  simp (disch := first | assumption | omega) only [f_L_law_678, f_L_law_c684, f_L_law_c693, f_L_law_1519, gt_1, gl_1, gt_20, gt_83, t1, hx, x1, e1, e2, lg_same, l_of, n_ltT, n_ltF, n_leT, n_leF, n_eqT, n_eqF, n_neM, n_Mne, n_M0, n_Mlt, n_0leM, nI_clamp, x_in_nI, n_1, nI_add, x_at, x_bd_s, x_bv_s, ↓x_lt, decide_true, decide_false, Bool.and_self, Bool.true_and, Bool.and_true, if_true, if_false, ite_true, ite_false, ↓reduceIte, not_true_eq_false, not_false_eq_true, Nat.reduceAdd, Nat.reduceMul, Nat.reduceEqDiff, eq_self, true_and, and_true, false_and, and_false, Option.some.injEq, Prod.mk.injEq, l_0, l_1, l_2, l_3, l_4, l_5, l_6, l_7, l_8, l_9, l_10, l_100, l_160, ↓m_1, ↓m_2, ↓m_3, ↓m_4, ↓m_5, ↓m_6, ↓m_7]
theorem arm_701 (hL : LwI L σ xs M) (hW : WFS B σ) (hB : B ≤ 800000) (hi : i + 6 ≤ L) (hLb : L < 1000000) : LwP κ L xs i B (f_L_law_701 κ 1 20 83 (nI i) M) := by
  obtain ⟨r, σ', M1, M2, c1, c2, e1, e2, w, l2, g1, x1⟩ := (pr_run hW hB (xs (i + 1)) (xs (i + 2)) (xs (i + 3)) (xs (i + 4)) (xs (i + 5))).go hL
  obtain ⟨b1, b2, hG, -, -, -, -, -, hx⟩ := hL
  have t1 : (1 : Nat) < 20 := by omega
  refine ⟨σ', M2, ?_, l2, w⟩
  simp (disch := first | assumption | omega) only [f_L_law_701, f_L_law_c727, f_L_law_c756, f_L_law_1519, gt_1, gl_1, gt_20, gt_83, t1, hx, x1, e1, e2, lg_same, l_of, n_ltT, n_ltF, n_leT, n_leF, n_eqT, n_eqF, n_neM, n_Mne, n_M0, n_Mlt, n_0leM, nI_clamp, x_in_nI, n_1, nI_add, x_at, x_bd_s, x_bv_s, ↓x_lt, decide_true, decide_false, Bool.and_self, Bool.true_and, Bool.and_true, if_true, if_false, ite_true, ite_false, ↓reduceIte, not_true_eq_false, not_false_eq_true, Nat.reduceAdd, Nat.reduceMul, Nat.reduceEqDiff, eq_self, true_and, and_true, false_and, and_false, Option.some.injEq, Prod.mk.injEq, l_0, l_1, l_2, l_3, l_4, l_5, l_6, l_7, l_8, l_9, l_10, l_100, l_160, ↓m_1, ↓m_2, ↓m_3, ↓m_4, ↓m_5, ↓m_6, ↓m_7]
theorem arm_764 (hL : LwI L σ xs M) (hW : WFS B σ) (hB : B ≤ 800000) (hi : i + 6 ≤ L) (hLb : L < 1000000) : LwP κ L xs i B (f_L_law_764 κ 1 20 83 (nI i) M) := by
  obtain ⟨r, σ', M1, M2, c1, c2, e1, e2, w, l2, g1, x1⟩ := (pr_through hW hB (xs (i + 1)) (xs (i + 2)) (xs (i + 3))).go hL
  obtain ⟨b1, b2, hG, -, -, -, -, -, hx⟩ := hL
  have t1 : (1 : Nat) < 20 := by omega
  refine ⟨σ', M2, ?_, l2, w⟩
  simp (disch := first | assumption | omega) only [f_L_law_764, f_L_law_c780, f_L_law_c799, f_L_law_1519, gt_1, gl_1, gt_20, gt_83, t1, hx, x1, e1, e2, lg_same, l_of, n_ltT, n_ltF, n_leT, n_leF, n_eqT, n_eqF, n_neM, n_Mne, n_M0, n_Mlt, n_0leM, nI_clamp, x_in_nI, n_1, nI_add, x_at, x_bd_s, x_bv_s, ↓x_lt, decide_true, decide_false, Bool.and_self, Bool.true_and, Bool.and_true, if_true, if_false, ite_true, ite_false, ↓reduceIte, not_true_eq_false, not_false_eq_true, Nat.reduceAdd, Nat.reduceMul, Nat.reduceEqDiff, eq_self, true_and, and_true, false_and, and_false, Option.some.injEq, Prod.mk.injEq, l_0, l_1, l_2, l_3, l_4, l_5, l_6, l_7, l_8, l_9, l_10, l_100, l_160, ↓m_1, ↓m_2, ↓m_3, ↓m_4, ↓m_5, ↓m_6, ↓m_7]
theorem arm_807 (hL : LwI L σ xs M) (hW : WFS B σ) (hB : B ≤ 800000) (hi : i + 6 ≤ L) (hLb : L < 1000000) : LwP κ L xs i B (f_L_law_807 κ 1 20 83 (nI i) M) := by
  obtain ⟨r, σ', M1, M2, c1, c2, e1, e2, w, l2, g1, x1⟩ := (pr_chance hW hB (xs (i + 1)) (xs (i + 2))).go hL
  obtain ⟨b1, b2, hG, -, -, -, -, -, hx⟩ := hL
  have t1 : (1 : Nat) < 20 := by omega
  refine ⟨σ', M2, ?_, l2, w⟩
  simp (disch := first | assumption | omega) only [f_L_law_807, f_L_law_c818, f_L_law_c832, f_L_law_1519, gt_1, gl_1, gt_20, gt_83, t1, hx, x1, e1, e2, lg_same, l_of, n_ltT, n_ltF, n_leT, n_leF, n_eqT, n_eqF, n_neM, n_Mne, n_M0, n_Mlt, n_0leM, nI_clamp, x_in_nI, n_1, nI_add, x_at, x_bd_s, x_bv_s, ↓x_lt, decide_true, decide_false, Bool.and_self, Bool.true_and, Bool.and_true, if_true, if_false, ite_true, ite_false, ↓reduceIte, not_true_eq_false, not_false_eq_true, Nat.reduceAdd, Nat.reduceMul, Nat.reduceEqDiff, eq_self, true_and, and_true, false_and, and_false, Option.some.injEq, Prod.mk.injEq, l_0, l_1, l_2, l_3, l_4, l_5, l_6, l_7, l_8, l_9, l_10, l_100, l_160, ↓m_1, ↓m_2, ↓m_3, ↓m_4, ↓m_5, ↓m_6, ↓m_7]
theorem arm_840 (hL : LwI L σ xs M) (hW : WFS B σ) (hB : B ≤ 800000) (hi : i + 6 ≤ L) (hLb : L < 1000000) : LwP κ L xs i B (f_L_law_840 κ 1 20 83 (nI i) M) := by
  obtain ⟨r, σ', M1, M2, c1, c2, e1, e2, w, l2, g1, x1⟩ := (pr_median hW hB (xs (i + 1)) (xs (i + 2))).go hL
  obtain ⟨b1, b2, hG, -, -, -, -, -, hx⟩ := hL
  have t1 : (1 : Nat) < 20 := by omega
  refine ⟨σ', M2, ?_, l2, w⟩
  simp (disch := first | assumption | omega) only [f_L_law_840, f_L_law_c851, f_L_law_c865, f_L_law_1519, gt_1, gl_1, gt_20, gt_83, t1, hx, x1, e1, e2, lg_same, l_of, n_ltT, n_ltF, n_leT, n_leF, n_eqT, n_eqF, n_neM, n_Mne, n_M0, n_Mlt, n_0leM, nI_clamp, x_in_nI, n_1, nI_add, x_at, x_bd_s, x_bv_s, ↓x_lt, decide_true, decide_false, Bool.and_self, Bool.true_and, Bool.and_true, if_true, if_false, ite_true, ite_false, ↓reduceIte, not_true_eq_false, not_false_eq_true, Nat.reduceAdd, Nat.reduceMul, Nat.reduceEqDiff, eq_self, true_and, and_true, false_and, and_false, Option.some.injEq, Prod.mk.injEq, l_0, l_1, l_2, l_3, l_4, l_5, l_6, l_7, l_8, l_9, l_10, l_100, l_160, ↓m_1, ↓m_2, ↓m_3, ↓m_4, ↓m_5, ↓m_6, ↓m_7]
theorem arm_873 (hL : LwI L σ xs M) (hW : WFS B σ) (hB : B ≤ 800000) (hi : i + 6 ≤ L) (hLb : L < 1000000) : LwP κ L xs i B (f_L_law_873 κ 1 20 83 (nI i) M) := by
  obtain ⟨r, σ', M1, M2, c1, c2, e1, e2, w, l2, g1, x1⟩ := (pr_bestApart hW hB (xs (i + 1)) (xs (i + 2))).go hL
  obtain ⟨b1, b2, hG, -, -, -, -, -, hx⟩ := hL
  have t1 : (1 : Nat) < 20 := by omega
  refine ⟨σ', M2, ?_, l2, w⟩
  simp (disch := first | assumption | omega) only [f_L_law_873, f_L_law_c884, f_L_law_c898, f_L_law_1519, gt_1, gl_1, gt_20, gt_83, t1, hx, x1, e1, e2, lg_same, l_of, n_ltT, n_ltF, n_leT, n_leF, n_eqT, n_eqF, n_neM, n_Mne, n_M0, n_Mlt, n_0leM, nI_clamp, x_in_nI, n_1, nI_add, x_at, x_bd_s, x_bv_s, ↓x_lt, decide_true, decide_false, Bool.and_self, Bool.true_and, Bool.and_true, if_true, if_false, ite_true, ite_false, ↓reduceIte, not_true_eq_false, not_false_eq_true, Nat.reduceAdd, Nat.reduceMul, Nat.reduceEqDiff, eq_self, true_and, and_true, false_and, and_false, Option.some.injEq, Prod.mk.injEq, l_0, l_1, l_2, l_3, l_4, l_5, l_6, l_7, l_8, l_9, l_10, l_100, l_160, ↓m_1, ↓m_2, ↓m_3, ↓m_4, ↓m_5, ↓m_6, ↓m_7]
theorem arm_906 (hL : LwI L σ xs M) (hW : WFS B σ) (hB : B ≤ 800000) (hi : i + 6 ≤ L) (hLb : L < 1000000) : LwP κ L xs i B (f_L_law_906 κ 1 20 83 (nI i) M) := by
  obtain ⟨r, σ', M1, M2, c1, c2, e1, e2, w, l2, g1, x1⟩ := (pr_when hW hB (xs (i + 1)) (xs (i + 2)) (xs (i + 3))).go hL
  obtain ⟨b1, b2, hG, -, -, -, -, -, hx⟩ := hL
  have t1 : (1 : Nat) < 20 := by omega
  refine ⟨σ', M2, ?_, l2, w⟩
  simp (disch := first | assumption | omega) only [f_L_law_906, f_L_law_c922, f_L_law_c941, f_L_law_1519, gt_1, gl_1, gt_20, gt_83, t1, hx, x1, e1, e2, lg_same, l_of, n_ltT, n_ltF, n_leT, n_leF, n_eqT, n_eqF, n_neM, n_Mne, n_M0, n_Mlt, n_0leM, nI_clamp, x_in_nI, n_1, nI_add, x_at, x_bd_s, x_bv_s, ↓x_lt, decide_true, decide_false, Bool.and_self, Bool.true_and, Bool.and_true, if_true, if_false, ite_true, ite_false, ↓reduceIte, not_true_eq_false, not_false_eq_true, Nat.reduceAdd, Nat.reduceMul, Nat.reduceEqDiff, eq_self, true_and, and_true, false_and, and_false, Option.some.injEq, Prod.mk.injEq, l_0, l_1, l_2, l_3, l_4, l_5, l_6, l_7, l_8, l_9, l_10, l_100, l_160, ↓m_1, ↓m_2, ↓m_3, ↓m_4, ↓m_5, ↓m_6, ↓m_7]
theorem arm_949 (hL : LwI L σ xs M) (hW : WFS B σ) (hB : B ≤ 800000) (hi : i + 6 ≤ L) (hLb : L < 1000000) : LwP κ L xs i B (f_L_law_949 κ 1 20 83 (nI i) M) := by
  obtain ⟨r, σ', M1, M2, c1, c2, e1, e2, w, l2, g1, x1⟩ := (pr_longest hW hB (xs (i + 1)) (xs (i + 2))).go hL
  obtain ⟨b1, b2, hG, -, -, -, -, -, hx⟩ := hL
  have t1 : (1 : Nat) < 20 := by omega
  refine ⟨σ', M2, ?_, l2, w⟩
  simp (disch := first | assumption | omega) only [f_L_law_949, f_L_law_c960, f_L_law_c974, f_L_law_1519, gt_1, gl_1, gt_20, gt_83, t1, hx, x1, e1, e2, lg_same, l_of, n_ltT, n_ltF, n_leT, n_leF, n_eqT, n_eqF, n_neM, n_Mne, n_M0, n_Mlt, n_0leM, nI_clamp, x_in_nI, n_1, nI_add, x_at, x_bd_s, x_bv_s, ↓x_lt, decide_true, decide_false, Bool.and_self, Bool.true_and, Bool.and_true, if_true, if_false, ite_true, ite_false, ↓reduceIte, not_true_eq_false, not_false_eq_true, Nat.reduceAdd, Nat.reduceMul, Nat.reduceEqDiff, eq_self, true_and, and_true, false_and, and_false, Option.some.injEq, Prod.mk.injEq, l_0, l_1, l_2, l_3, l_4, l_5, l_6, l_7, l_8, l_9, l_10, l_100, l_160, ↓m_1, ↓m_2, ↓m_3, ↓m_4, ↓m_5, ↓m_6, ↓m_7]
theorem arm_982 (hL : LwI L σ xs M) (hW : WFS B σ) (hB : B ≤ 800000) (hi : i + 6 ≤ L) (hLb : L < 1000000) : LwP κ L xs i B (f_L_law_982 κ 1 20 83 (nI i) M) := by
  obtain ⟨r, σ', M1, M2, c1, c2, e1, e2, w, l2, g1, x1⟩ := (pr_fits hW hB (xs (i + 1)) (xs (i + 2))).go hL
  obtain ⟨b1, b2, hG, -, -, -, -, -, hx⟩ := hL
  have t1 : (1 : Nat) < 20 := by omega
  refine ⟨σ', M2, ?_, l2, w⟩
  simp (disch := first | assumption | omega) only [f_L_law_982, f_L_law_c993, f_L_law_c1007, f_L_law_1519, gt_1, gl_1, gt_20, gt_83, t1, hx, x1, e1, e2, lg_same, l_of, n_ltT, n_ltF, n_leT, n_leF, n_eqT, n_eqF, n_neM, n_Mne, n_M0, n_Mlt, n_0leM, nI_clamp, x_in_nI, n_1, nI_add, x_at, x_bd_s, x_bv_s, ↓x_lt, decide_true, decide_false, Bool.and_self, Bool.true_and, Bool.and_true, if_true, if_false, ite_true, ite_false, ↓reduceIte, not_true_eq_false, not_false_eq_true, Nat.reduceAdd, Nat.reduceMul, Nat.reduceEqDiff, eq_self, true_and, and_true, false_and, and_false, Option.some.injEq, Prod.mk.injEq, l_0, l_1, l_2, l_3, l_4, l_5, l_6, l_7, l_8, l_9, l_10, l_100, l_160, ↓m_1, ↓m_2, ↓m_3, ↓m_4, ↓m_5, ↓m_6, ↓m_7]
theorem arm_1015 (hL : LwI L σ xs M) (hW : WFS B σ) (hB : B ≤ 800000) (hi : i + 6 ≤ L) (hLb : L < 1000000) : LwP κ L xs i B (f_L_law_1015 κ 1 20 83 (nI i) M) := by
  obtain ⟨r, σ', M1, M2, c1, c2, e1, e2, w, l2, g1, x1⟩ := (pr_judge hW hB (xs (i + 1)) (xs (i + 2)) (xs (i + 3))).go hL
  obtain ⟨b1, b2, hG, -, -, -, -, -, hx⟩ := hL
  have t1 : (1 : Nat) < 20 := by omega
  refine ⟨σ', M2, ?_, l2, w⟩
  simp (disch := first | assumption | omega) only [f_L_law_1015, f_L_law_c1031, f_L_law_c1050, f_L_law_1519, gt_1, gl_1, gt_20, gt_83, t1, hx, x1, e1, e2, lg_same, l_of, n_ltT, n_ltF, n_leT, n_leF, n_eqT, n_eqF, n_neM, n_Mne, n_M0, n_Mlt, n_0leM, nI_clamp, x_in_nI, n_1, nI_add, x_at, x_bd_s, x_bv_s, ↓x_lt, decide_true, decide_false, Bool.and_self, Bool.true_and, Bool.and_true, if_true, if_false, ite_true, ite_false, ↓reduceIte, not_true_eq_false, not_false_eq_true, Nat.reduceAdd, Nat.reduceMul, Nat.reduceEqDiff, eq_self, true_and, and_true, false_and, and_false, Option.some.injEq, Prod.mk.injEq, l_0, l_1, l_2, l_3, l_4, l_5, l_6, l_7, l_8, l_9, l_10, l_100, l_160, ↓m_1, ↓m_2, ↓m_3, ↓m_4, ↓m_5, ↓m_6, ↓m_7]
theorem arm_1058 (hL : LwI L σ xs M) (hW : WFS B σ) (hB : B ≤ 800000) (hi : i + 6 ≤ L) (hLb : L < 1000000) : LwP κ L xs i B (f_L_law_1058 κ 1 20 83 (nI i) M) := by
  obtain ⟨r, σ', M1, M2, c1, c2, e1, e2, w, l2, g1, x1⟩ := (pr_breaks hW hB (xs (i + 1)) (xs (i + 2)) (xs (i + 3))).go hL
  obtain ⟨b1, b2, hG, -, -, -, -, -, hx⟩ := hL
  have t1 : (1 : Nat) < 20 := by omega
  refine ⟨σ', M2, ?_, l2, w⟩
  simp (disch := first | assumption | omega) only [f_L_law_1058, f_L_law_c1074, f_L_law_c1093, f_L_law_1519, gt_1, gl_1, gt_20, gt_83, t1, hx, x1, e1, e2, lg_same, l_of, n_ltT, n_ltF, n_leT, n_leF, n_eqT, n_eqF, n_neM, n_Mne, n_M0, n_Mlt, n_0leM, nI_clamp, x_in_nI, n_1, nI_add, x_at, x_bd_s, x_bv_s, ↓x_lt, decide_true, decide_false, Bool.and_self, Bool.true_and, Bool.and_true, if_true, if_false, ite_true, ite_false, ↓reduceIte, not_true_eq_false, not_false_eq_true, Nat.reduceAdd, Nat.reduceMul, Nat.reduceEqDiff, eq_self, true_and, and_true, false_and, and_false, Option.some.injEq, Prod.mk.injEq, l_0, l_1, l_2, l_3, l_4, l_5, l_6, l_7, l_8, l_9, l_10, l_100, l_160, ↓m_1, ↓m_2, ↓m_3, ↓m_4, ↓m_5, ↓m_6, ↓m_7]
theorem arm_1101 (hL : LwI L σ xs M) (hW : WFS B σ) (hB : B ≤ 800000) (hi : i + 6 ≤ L) (hLb : L < 1000000) : LwP κ L xs i B (f_L_law_1101 κ 1 20 83 (nI i) M) := by
  obtain ⟨r, σ', M1, M2, c1, c2, e1, e2, w, l2, g1, x1⟩ := (pr_quickest hW hB (xs (i + 1)) (xs (i + 2))).go hL
  obtain ⟨b1, b2, hG, -, -, -, -, -, hx⟩ := hL
  have t1 : (1 : Nat) < 20 := by omega
  refine ⟨σ', M2, ?_, l2, w⟩
  simp (disch := first | assumption | omega) only [f_L_law_1101, f_L_law_c1112, f_L_law_c1126, f_L_law_1519, gt_1, gl_1, gt_20, gt_83, t1, hx, x1, e1, e2, lg_same, l_of, n_ltT, n_ltF, n_leT, n_leF, n_eqT, n_eqF, n_neM, n_Mne, n_M0, n_Mlt, n_0leM, nI_clamp, x_in_nI, n_1, nI_add, x_at, x_bd_s, x_bv_s, ↓x_lt, decide_true, decide_false, Bool.and_self, Bool.true_and, Bool.and_true, if_true, if_false, ite_true, ite_false, ↓reduceIte, not_true_eq_false, not_false_eq_true, Nat.reduceAdd, Nat.reduceMul, Nat.reduceEqDiff, eq_self, true_and, and_true, false_and, and_false, Option.some.injEq, Prod.mk.injEq, l_0, l_1, l_2, l_3, l_4, l_5, l_6, l_7, l_8, l_9, l_10, l_100, l_160, ↓m_1, ↓m_2, ↓m_3, ↓m_4, ↓m_5, ↓m_6, ↓m_7]
theorem arm_1134 (hL : LwI L σ xs M) (hW : WFS B σ) (hB : B ≤ 800000) (hi : i + 6 ≤ L) (hLb : L < 1000000) : LwP κ L xs i B (f_L_law_1134 κ 1 20 83 (nI i) M) := by
  obtain ⟨r, σ', M1, M2, c1, c2, e1, e2, w, l2, g1, x1⟩ := (pr_surest hW hB (xs (i + 1))).go hL
  obtain ⟨b1, b2, hG, -, -, -, -, -, hx⟩ := hL
  have t1 : (1 : Nat) < 20 := by omega
  refine ⟨σ', M2, ?_, l2, w⟩
  simp (disch := first | assumption | omega) only [f_L_law_1134, f_L_law_c1140, f_L_law_c1149, f_L_law_1519, gt_1, gl_1, gt_20, gt_83, t1, hx, x1, e1, e2, lg_same, l_of, n_ltT, n_ltF, n_leT, n_leF, n_eqT, n_eqF, n_neM, n_Mne, n_M0, n_Mlt, n_0leM, nI_clamp, x_in_nI, n_1, nI_add, x_at, x_bd_s, x_bv_s, ↓x_lt, decide_true, decide_false, Bool.and_self, Bool.true_and, Bool.and_true, if_true, if_false, ite_true, ite_false, ↓reduceIte, not_true_eq_false, not_false_eq_true, Nat.reduceAdd, Nat.reduceMul, Nat.reduceEqDiff, eq_self, true_and, and_true, false_and, and_false, Option.some.injEq, Prod.mk.injEq, l_0, l_1, l_2, l_3, l_4, l_5, l_6, l_7, l_8, l_9, l_10, l_100, l_160, ↓m_1, ↓m_2, ↓m_3, ↓m_4, ↓m_5, ↓m_6, ↓m_7]
theorem arm_1157 (hL : LwI L σ xs M) (hW : WFS B σ) (hB : B ≤ 800000) (hi : i + 6 ≤ L) (hLb : L < 1000000) : LwP κ L xs i B (f_L_law_1157 κ 1 20 83 (nI i) M) := by
  obtain ⟨r, σ', M1, M2, c1, c2, e1, e2, w, l2, g1, x1⟩ := (pr_parted hW hB (xs (i + 1)) (xs (i + 2)) (xs (i + 3)) (xs (i + 4)) (xs (i + 5))).go hL
  obtain ⟨b1, b2, hG, -, -, -, -, -, hx⟩ := hL
  have t1 : (1 : Nat) < 20 := by omega
  refine ⟨σ', M2, ?_, l2, w⟩
  simp (disch := first | assumption | omega) only [f_L_law_1157, f_L_law_c1183, f_L_law_c1212, f_L_law_1519, gt_1, gl_1, gt_20, gt_83, t1, hx, x1, e1, e2, lg_same, l_of, n_ltT, n_ltF, n_leT, n_leF, n_eqT, n_eqF, n_neM, n_Mne, n_M0, n_Mlt, n_0leM, nI_clamp, x_in_nI, n_1, nI_add, x_at, x_bd_s, x_bv_s, ↓x_lt, decide_true, decide_false, Bool.and_self, Bool.true_and, Bool.and_true, if_true, if_false, ite_true, ite_false, ↓reduceIte, not_true_eq_false, not_false_eq_true, Nat.reduceAdd, Nat.reduceMul, Nat.reduceEqDiff, eq_self, true_and, and_true, false_and, and_false, Option.some.injEq, Prod.mk.injEq, l_0, l_1, l_2, l_3, l_4, l_5, l_6, l_7, l_8, l_9, l_10, l_100, l_160, ↓m_1, ↓m_2, ↓m_3, ↓m_4, ↓m_5, ↓m_6, ↓m_7]
theorem arm_1220 (hL : LwI L σ xs M) (hW : WFS B σ) (hB : B ≤ 800000) (hi : i + 6 ≤ L) (hLb : L < 1000000) : LwP κ L xs i B (f_L_law_1220 κ 1 20 83 (nI i) M) := by
  obtain ⟨r, σ', M1, M2, c1, c2, e1, e2, w, l2, g1, x1⟩ := (pr_tally hW hB (xs (i + 1))).go hL
  obtain ⟨b1, b2, hG, -, -, -, -, -, hx⟩ := hL
  have t1 : (1 : Nat) < 20 := by omega
  refine ⟨σ', M2, ?_, l2, w⟩
  simp (disch := first | assumption | omega) only [f_L_law_1220, f_L_law_c1226, f_L_law_c1235, f_L_law_1519, gt_1, gl_1, gt_20, gt_83, t1, hx, x1, e1, e2, lg_same, l_of, n_ltT, n_ltF, n_leT, n_leF, n_eqT, n_eqF, n_neM, n_Mne, n_M0, n_Mlt, n_0leM, nI_clamp, x_in_nI, n_1, nI_add, x_at, x_bd_s, x_bv_s, ↓x_lt, decide_true, decide_false, Bool.and_self, Bool.true_and, Bool.and_true, if_true, if_false, ite_true, ite_false, ↓reduceIte, not_true_eq_false, not_false_eq_true, Nat.reduceAdd, Nat.reduceMul, Nat.reduceEqDiff, eq_self, true_and, and_true, false_and, and_false, Option.some.injEq, Prod.mk.injEq, l_0, l_1, l_2, l_3, l_4, l_5, l_6, l_7, l_8, l_9, l_10, l_100, l_160, ↓m_1, ↓m_2, ↓m_3, ↓m_4, ↓m_5, ↓m_6, ↓m_7]
theorem arm_1243 (hL : LwI L σ xs M) (hW : WFS B σ) (hB : B ≤ 800000) (hi : i + 6 ≤ L) (hLb : L < 1000000) : LwP κ L xs i B (f_L_law_1243 κ 1 20 83 (nI i) M) := by
  obtain ⟨r, σ', M1, M2, c1, c2, e1, e2, w, l2, g1, x1⟩ := (pr_tallies hW hB (xs (i + 1))).go hL
  obtain ⟨b1, b2, hG, -, -, -, -, -, hx⟩ := hL
  have t1 : (1 : Nat) < 20 := by omega
  refine ⟨σ', M2, ?_, l2, w⟩
  simp (disch := first | assumption | omega) only [f_L_law_1243, f_L_law_c1249, f_L_law_c1258, f_L_law_1519, gt_1, gl_1, gt_20, gt_83, t1, hx, x1, e1, e2, lg_same, l_of, n_ltT, n_ltF, n_leT, n_leF, n_eqT, n_eqF, n_neM, n_Mne, n_M0, n_Mlt, n_0leM, nI_clamp, x_in_nI, n_1, nI_add, x_at, x_bd_s, x_bv_s, ↓x_lt, decide_true, decide_false, Bool.and_self, Bool.true_and, Bool.and_true, if_true, if_false, ite_true, ite_false, ↓reduceIte, not_true_eq_false, not_false_eq_true, Nat.reduceAdd, Nat.reduceMul, Nat.reduceEqDiff, eq_self, true_and, and_true, false_and, and_false, Option.some.injEq, Prod.mk.injEq, l_0, l_1, l_2, l_3, l_4, l_5, l_6, l_7, l_8, l_9, l_10, l_100, l_160, ↓m_1, ↓m_2, ↓m_3, ↓m_4, ↓m_5, ↓m_6, ↓m_7]
theorem arm_1266 (hL : LwI L σ xs M) (hW : WFS B σ) (hB : B ≤ 800000) (hi : i + 6 ≤ L) (hLb : L < 1000000) : LwP κ L xs i B (f_L_law_1266 κ 1 20 83 (nI i) M) := by
  obtain ⟨r, σ', M1, M2, c1, c2, e1, e2, w, l2, g1, x1⟩ := (pr_forget hW hB).go hL
  obtain ⟨b1, b2, hG, -, -, -, -, -, hx⟩ := hL
  have t1 : (1 : Nat) < 20 := by omega
  refine ⟨σ', M2, ?_, l2, w⟩
  simp (disch := first | assumption | omega) only [f_L_law_1266, f_L_law_c1267, f_L_law_c1271, f_L_law_1519, gt_1, gl_1, gt_20, gt_83, t1, hx, x1, e1, e2, lg_same, l_of, n_ltT, n_ltF, n_leT, n_leF, n_eqT, n_eqF, n_neM, n_Mne, n_M0, n_Mlt, n_0leM, nI_clamp, x_in_nI, n_1, nI_add, x_at, x_bd_s, x_bv_s, ↓x_lt, decide_true, decide_false, Bool.and_self, Bool.true_and, Bool.and_true, if_true, if_false, ite_true, ite_false, ↓reduceIte, not_true_eq_false, not_false_eq_true, Nat.reduceAdd, Nat.reduceMul, Nat.reduceEqDiff, eq_self, true_and, and_true, false_and, and_false, Option.some.injEq, Prod.mk.injEq, l_0, l_1, l_2, l_3, l_4, l_5, l_6, l_7, l_8, l_9, l_10, l_100, l_160, ↓m_1, ↓m_2, ↓m_3, ↓m_4, ↓m_5, ↓m_6, ↓m_7]
theorem arm_1279 (hL : LwI L σ xs M) (hW : WFS B σ) (hB : B ≤ 800000) (hi : i + 6 ≤ L) (hLb : L < 1000000) : LwP κ L xs i B (f_L_law_1279 κ 1 20 83 (nI i) M) := by
  obtain ⟨r, σ', M1, M2, c1, c2, e1, e2, w, l2, g1, x1⟩ := (pr_knits hW hB (xs (i + 1)) (xs (i + 2))).go hL
  obtain ⟨b1, b2, hG, -, -, -, -, -, hx⟩ := hL
  have t1 : (1 : Nat) < 20 := by omega
  refine ⟨σ', M2, ?_, l2, w⟩
  simp (disch := first | assumption | omega) only [f_L_law_1279, f_L_law_c1290, f_L_law_c1304, f_L_law_1519, gt_1, gl_1, gt_20, gt_83, t1, hx, x1, e1, e2, lg_same, l_of, n_ltT, n_ltF, n_leT, n_leF, n_eqT, n_eqF, n_neM, n_Mne, n_M0, n_Mlt, n_0leM, nI_clamp, x_in_nI, n_1, nI_add, x_at, x_bd_s, x_bv_s, ↓x_lt, decide_true, decide_false, Bool.and_self, Bool.true_and, Bool.and_true, if_true, if_false, ite_true, ite_false, ↓reduceIte, not_true_eq_false, not_false_eq_true, Nat.reduceAdd, Nat.reduceMul, Nat.reduceEqDiff, eq_self, true_and, and_true, false_and, and_false, Option.some.injEq, Prod.mk.injEq, l_0, l_1, l_2, l_3, l_4, l_5, l_6, l_7, l_8, l_9, l_10, l_100, l_160, ↓m_1, ↓m_2, ↓m_3, ↓m_4, ↓m_5, ↓m_6, ↓m_7]
theorem arm_1312 (hL : LwI L σ xs M) (hW : WFS B σ) (hB : B ≤ 800000) (hi : i + 6 ≤ L) (hLb : L < 1000000) : LwP κ L xs i B (f_L_law_1312 κ 1 20 83 (nI i) M) := by
  obtain ⟨r, σ', M1, M2, c1, c2, e1, e2, w, l2, g1, x1⟩ := (pr_asks hW hB (xs (i + 1))).go hL
  obtain ⟨b1, b2, hG, -, -, -, -, -, hx⟩ := hL
  have t1 : (1 : Nat) < 20 := by omega
  refine ⟨σ', M2, ?_, l2, w⟩
  simp (disch := first | assumption | omega) only [f_L_law_1312, f_L_law_c1318, f_L_law_c1327, f_L_law_1519, gt_1, gl_1, gt_20, gt_83, t1, hx, x1, e1, e2, lg_same, l_of, n_ltT, n_ltF, n_leT, n_leF, n_eqT, n_eqF, n_neM, n_Mne, n_M0, n_Mlt, n_0leM, nI_clamp, x_in_nI, n_1, nI_add, x_at, x_bd_s, x_bv_s, ↓x_lt, decide_true, decide_false, Bool.and_self, Bool.true_and, Bool.and_true, if_true, if_false, ite_true, ite_false, ↓reduceIte, not_true_eq_false, not_false_eq_true, Nat.reduceAdd, Nat.reduceMul, Nat.reduceEqDiff, eq_self, true_and, and_true, false_and, and_false, Option.some.injEq, Prod.mk.injEq, l_0, l_1, l_2, l_3, l_4, l_5, l_6, l_7, l_8, l_9, l_10, l_100, l_160, ↓m_1, ↓m_2, ↓m_3, ↓m_4, ↓m_5, ↓m_6, ↓m_7]
theorem arm_1335 (hL : LwI L σ xs M) (hW : WFS B σ) (hB : B ≤ 800000) (hi : i + 6 ≤ L) (hLb : L < 1000000) : LwP κ L xs i B (f_L_law_1335 κ 1 20 83 (nI i) M) := by
  obtain ⟨r, σ', M1, M2, c1, c2, e1, e2, w, l2, g1, x1⟩ := (pr_again hW hB (xs (i + 1))).go hL
  obtain ⟨b1, b2, hG, -, -, -, -, -, hx⟩ := hL
  have t1 : (1 : Nat) < 20 := by omega
  refine ⟨σ', M2, ?_, l2, w⟩
  simp (disch := first | assumption | omega) only [f_L_law_1335, f_L_law_c1341, f_L_law_c1350, f_L_law_1519, gt_1, gl_1, gt_20, gt_83, t1, hx, x1, e1, e2, lg_same, l_of, n_ltT, n_ltF, n_leT, n_leF, n_eqT, n_eqF, n_neM, n_Mne, n_M0, n_Mlt, n_0leM, nI_clamp, x_in_nI, n_1, nI_add, x_at, x_bd_s, x_bv_s, ↓x_lt, decide_true, decide_false, Bool.and_self, Bool.true_and, Bool.and_true, if_true, if_false, ite_true, ite_false, ↓reduceIte, not_true_eq_false, not_false_eq_true, Nat.reduceAdd, Nat.reduceMul, Nat.reduceEqDiff, eq_self, true_and, and_true, false_and, and_false, Option.some.injEq, Prod.mk.injEq, l_0, l_1, l_2, l_3, l_4, l_5, l_6, l_7, l_8, l_9, l_10, l_100, l_160, ↓m_1, ↓m_2, ↓m_3, ↓m_4, ↓m_5, ↓m_6, ↓m_7]
theorem arm_1358 (hL : LwI L σ xs M) (hW : WFS B σ) (hB : B ≤ 800000) (hi : i + 6 ≤ L) (hLb : L < 1000000) : LwP κ L xs i B (f_L_law_1358 κ 1 20 83 (nI i) M) := by
  obtain ⟨r, σ', M1, M2, c1, c2, e1, e2, w, l2, g1, x1⟩ := (pr_evenings hW hB (xs (i + 1))).go hL
  obtain ⟨b1, b2, hG, -, -, -, -, -, hx⟩ := hL
  have t1 : (1 : Nat) < 20 := by omega
  refine ⟨σ', M2, ?_, l2, w⟩
  simp (disch := first | assumption | omega) only [f_L_law_1358, f_L_law_c1364, f_L_law_c1373, f_L_law_1519, gt_1, gl_1, gt_20, gt_83, t1, hx, x1, e1, e2, lg_same, l_of, n_ltT, n_ltF, n_leT, n_leF, n_eqT, n_eqF, n_neM, n_Mne, n_M0, n_Mlt, n_0leM, nI_clamp, x_in_nI, n_1, nI_add, x_at, x_bd_s, x_bv_s, ↓x_lt, decide_true, decide_false, Bool.and_self, Bool.true_and, Bool.and_true, if_true, if_false, ite_true, ite_false, ↓reduceIte, not_true_eq_false, not_false_eq_true, Nat.reduceAdd, Nat.reduceMul, Nat.reduceEqDiff, eq_self, true_and, and_true, false_and, and_false, Option.some.injEq, Prod.mk.injEq, l_0, l_1, l_2, l_3, l_4, l_5, l_6, l_7, l_8, l_9, l_10, l_100, l_160, ↓m_1, ↓m_2, ↓m_3, ↓m_4, ↓m_5, ↓m_6, ↓m_7]
theorem arm_1381 (hL : LwI L σ xs M) (hW : WFS B σ) (hB : B ≤ 800000) (hi : i + 6 ≤ L) (hLb : L < 1000000) : LwP κ L xs i B (f_L_law_1381 κ 1 20 83 (nI i) M) := by
  obtain ⟨r, σ', M1, M2, c1, c2, e1, e2, w, l2, g1, x1⟩ := (pr_seed hW hB (xs (i + 1))).go hL
  obtain ⟨b1, b2, hG, -, -, -, -, -, hx⟩ := hL
  have t1 : (1 : Nat) < 20 := by omega
  refine ⟨σ', M2, ?_, l2, w⟩
  simp (disch := first | assumption | omega) only [f_L_law_1381, f_L_law_c1387, f_L_law_c1396, f_L_law_1519, gt_1, gl_1, gt_20, gt_83, t1, hx, x1, e1, e2, lg_same, l_of, n_ltT, n_ltF, n_leT, n_leF, n_eqT, n_eqF, n_neM, n_Mne, n_M0, n_Mlt, n_0leM, nI_clamp, x_in_nI, n_1, nI_add, x_at, x_bd_s, x_bv_s, ↓x_lt, decide_true, decide_false, Bool.and_self, Bool.true_and, Bool.and_true, if_true, if_false, ite_true, ite_false, ↓reduceIte, not_true_eq_false, not_false_eq_true, Nat.reduceAdd, Nat.reduceMul, Nat.reduceEqDiff, eq_self, true_and, and_true, false_and, and_false, Option.some.injEq, Prod.mk.injEq, l_0, l_1, l_2, l_3, l_4, l_5, l_6, l_7, l_8, l_9, l_10, l_100, l_160, ↓m_1, ↓m_2, ↓m_3, ↓m_4, ↓m_5, ↓m_6, ↓m_7]
theorem arm_1404 (hL : LwI L σ xs M) (hW : WFS B σ) (hB : B ≤ 800000) (hi : i + 6 ≤ L) (hLb : L < 1000000) : LwP κ L xs i B (f_L_law_1404 κ 1 20 83 (nI i) M) := by
  obtain ⟨r, σ', M1, M2, c1, c2, e1, e2, w, l2, g1, x1⟩ := (pr_act hW hB (xs (i + 1)) (xs (i + 2)) (xs (i + 3))).go hL
  obtain ⟨b1, b2, hG, -, -, -, -, -, hx⟩ := hL
  have t1 : (1 : Nat) < 20 := by omega
  refine ⟨σ', M2, ?_, l2, w⟩
  simp (disch := first | assumption | omega) only [f_L_law_1404, f_L_law_c1420, f_L_law_c1439, f_L_law_1519, gt_1, gl_1, gt_20, gt_83, t1, hx, x1, e1, e2, lg_same, l_of, n_ltT, n_ltF, n_leT, n_leF, n_eqT, n_eqF, n_neM, n_Mne, n_M0, n_Mlt, n_0leM, nI_clamp, x_in_nI, n_1, nI_add, x_at, x_bd_s, x_bv_s, ↓x_lt, decide_true, decide_false, Bool.and_self, Bool.true_and, Bool.and_true, if_true, if_false, ite_true, ite_false, ↓reduceIte, not_true_eq_false, not_false_eq_true, Nat.reduceAdd, Nat.reduceMul, Nat.reduceEqDiff, eq_self, true_and, and_true, false_and, and_false, Option.some.injEq, Prod.mk.injEq, l_0, l_1, l_2, l_3, l_4, l_5, l_6, l_7, l_8, l_9, l_10, l_100, l_160, ↓m_1, ↓m_2, ↓m_3, ↓m_4, ↓m_5, ↓m_6, ↓m_7]
theorem arm_1447 (hL : LwI L σ xs M) (hW : WFS B σ) (hB : B ≤ 800000) (hi : i + 6 ≤ L) (hLb : L < 1000000) : LwP κ L xs i B (f_L_law_1447 κ 1 20 83 (nI i) M) := by
  obtain ⟨r, σ', M1, M2, c1, c2, e1, e2, w, l2, g1, x1⟩ := (pr_trace hW hB (xs (i + 1))).go hL
  obtain ⟨b1, b2, hG, -, -, -, -, -, hx⟩ := hL
  have t1 : (1 : Nat) < 20 := by omega
  refine ⟨σ', M2, ?_, l2, w⟩
  simp (disch := first | assumption | omega) only [f_L_law_1447, f_L_law_c1453, f_L_law_c1462, f_L_law_1519, gt_1, gl_1, gt_20, gt_83, t1, hx, x1, e1, e2, lg_same, l_of, n_ltT, n_ltF, n_leT, n_leF, n_eqT, n_eqF, n_neM, n_Mne, n_M0, n_Mlt, n_0leM, nI_clamp, x_in_nI, n_1, nI_add, x_at, x_bd_s, x_bv_s, ↓x_lt, decide_true, decide_false, Bool.and_self, Bool.true_and, Bool.and_true, if_true, if_false, ite_true, ite_false, ↓reduceIte, not_true_eq_false, not_false_eq_true, Nat.reduceAdd, Nat.reduceMul, Nat.reduceEqDiff, eq_self, true_and, and_true, false_and, and_false, Option.some.injEq, Prod.mk.injEq, l_0, l_1, l_2, l_3, l_4, l_5, l_6, l_7, l_8, l_9, l_10, l_100, l_160, ↓m_1, ↓m_2, ↓m_3, ↓m_4, ↓m_5, ↓m_6, ↓m_7]
theorem arm_1470 (hL : LwI L σ xs M) (hW : WFS B σ) (hB : B ≤ 800000) (hi : i + 6 ≤ L) (hLb : L < 1000000) : LwP κ L xs i B (f_L_law_1470 κ 1 20 83 (nI i) M) := by
  obtain ⟨r, σ', M1, M2, c1, c2, e1, e2, w, l2, g1, x1⟩ := (pr_image hW hB).go hL
  obtain ⟨b1, b2, hG, -, -, -, -, -, hx⟩ := hL
  have t1 : (1 : Nat) < 20 := by omega
  refine ⟨σ', M2, ?_, l2, w⟩
  simp (disch := first | assumption | omega) only [f_L_law_1470, f_L_law_c1471, f_L_law_c1475, f_L_law_1519, gt_1, gl_1, gt_20, gt_83, t1, hx, x1, e1, e2, lg_same, l_of, n_ltT, n_ltF, n_leT, n_leF, n_eqT, n_eqF, n_neM, n_Mne, n_M0, n_Mlt, n_0leM, nI_clamp, x_in_nI, n_1, nI_add, x_at, x_bd_s, x_bv_s, ↓x_lt, decide_true, decide_false, Bool.and_self, Bool.true_and, Bool.and_true, if_true, if_false, ite_true, ite_false, ↓reduceIte, not_true_eq_false, not_false_eq_true, Nat.reduceAdd, Nat.reduceMul, Nat.reduceEqDiff, eq_self, true_and, and_true, false_and, and_false, Option.some.injEq, Prod.mk.injEq, l_0, l_1, l_2, l_3, l_4, l_5, l_6, l_7, l_8, l_9, l_10, l_100, l_160, ↓m_1, ↓m_2, ↓m_3, ↓m_4, ↓m_5, ↓m_6, ↓m_7]
theorem arm_1483 (hL : LwI L σ xs M) (hW : WFS B σ) (hB : B ≤ 800000) (hi : i + 6 ≤ L) (hLb : L < 1000000) : LwP κ L xs i B (f_L_law_1483 κ 1 20 83 (nI i) M) := by
  obtain ⟨r, σ', M1, M2, c1, c2, e1, e2, w, l2, g1, x1⟩ := (pr_restore hW hB).go hL
  obtain ⟨b1, b2, hG, -, -, -, -, -, hx⟩ := hL
  have t1 : (1 : Nat) < 20 := by omega
  refine ⟨σ', M2, ?_, l2, w⟩
  simp (disch := first | assumption | omega) only [f_L_law_1483, f_L_law_c1484, f_L_law_c1488, f_L_law_1519, gt_1, gl_1, gt_20, gt_83, t1, hx, x1, e1, e2, lg_same, l_of, n_ltT, n_ltF, n_leT, n_leF, n_eqT, n_eqF, n_neM, n_Mne, n_M0, n_Mlt, n_0leM, nI_clamp, x_in_nI, n_1, nI_add, x_at, x_bd_s, x_bv_s, ↓x_lt, decide_true, decide_false, Bool.and_self, Bool.true_and, Bool.and_true, if_true, if_false, ite_true, ite_false, ↓reduceIte, not_true_eq_false, not_false_eq_true, Nat.reduceAdd, Nat.reduceMul, Nat.reduceEqDiff, eq_self, true_and, and_true, false_and, and_false, Option.some.injEq, Prod.mk.injEq, l_0, l_1, l_2, l_3, l_4, l_5, l_6, l_7, l_8, l_9, l_10, l_100, l_160, ↓m_1, ↓m_2, ↓m_3, ↓m_4, ↓m_5, ↓m_6, ↓m_7]
theorem arm_1496 (hL : LwI L σ xs M) (hW : WFS B σ) (hB : B ≤ 800000) (hi : i + 6 ≤ L) (hLb : L < 1000000) : LwP κ L xs i B (f_L_law_1496 κ 1 20 83 (nI i) M) := by
  obtain ⟨r, σ', M1, M2, c1, c2, e1, e2, w, l2, g1, x1⟩ := (pr_status hW hB (xs (i + 1))).go hL
  obtain ⟨b1, b2, hG, -, -, -, -, -, hx⟩ := hL
  have t1 : (1 : Nat) < 20 := by omega
  refine ⟨σ', M2, ?_, l2, w⟩
  simp (disch := first | assumption | omega) only [f_L_law_1496, f_L_law_c1502, f_L_law_c1511, f_L_law_1519, gt_1, gl_1, gt_20, gt_83, t1, hx, x1, e1, e2, lg_same, l_of, n_ltT, n_ltF, n_leT, n_leF, n_eqT, n_eqF, n_neM, n_Mne, n_M0, n_Mlt, n_0leM, nI_clamp, x_in_nI, n_1, nI_add, x_at, x_bd_s, x_bv_s, ↓x_lt, decide_true, decide_false, Bool.and_self, Bool.true_and, Bool.and_true, if_true, if_false, ite_true, ite_false, ↓reduceIte, not_true_eq_false, not_false_eq_true, Nat.reduceAdd, Nat.reduceMul, Nat.reduceEqDiff, eq_self, true_and, and_true, false_and, and_false, Option.some.injEq, Prod.mk.injEq, l_0, l_1, l_2, l_3, l_4, l_5, l_6, l_7, l_8, l_9, l_10, l_100, l_160, ↓m_1, ↓m_2, ↓m_3, ↓m_4, ↓m_5, ↓m_6, ↓m_7]
theorem arm_no (hL : LwI L σ xs M) (hW : WFS B σ) : LwP κ L xs i B (f_L_law_1519 κ 1 20 83 (nI i) M) :=
  ⟨σ, M, by simp (disch := first | assumption | omega) only [f_L_law_1519, l_of, n_ltT, n_ltF, n_leT, n_leF, n_eqT, n_eqF, n_neM, n_Mne, n_M0, n_Mlt, n_0leM, nI_clamp, x_in_nI, n_1, nI_add, x_at, x_bd_s, x_bv_s, ↓x_lt, decide_true, decide_false, Bool.and_self, Bool.true_and, Bool.and_true, if_true, if_false, ite_true, ite_false, ↓reduceIte, not_true_eq_false, not_false_eq_true, Nat.reduceAdd, Nat.reduceMul, Nat.reduceEqDiff, eq_self, true_and, and_true, false_and, and_false, Option.some.injEq, Prod.mk.injEq, l_0, l_1, l_2, l_3, l_4, l_5, l_6, l_7, l_8, l_9, l_10, l_100, l_160, ↓m_1, ↓m_2, ↓m_3, ↓m_4, ↓m_5, ↓m_6, ↓m_7], hL, hW.mono (by omega)⟩
theorem law_lp (hLb : L < 1000000) (d : Nat) : ∀ (F i B : Nat) (σ : XS) (M : XM), d < F → LwI L σ xs M → WFS B σ → B + 400 * d ≤ 800000 → L < 6 * (d + 1) + i → i < 2000000 → ∃ M', lp_L_law_18 F 1 20 83 (nI i) M = some (nI 1, M') := by
  have t1 : (1 : Nat) < 20 := by omega
  have fin : ∀ (F i : Nat) (σ : XS) (M : XM), LwI L σ xs M → L < 6 + i → i < 2000000 → lp_L_law_18 (F + 1) 1 20 83 (nI i) M = some (nI 1, M) := fun F i σ M hL h hi => by
    obtain ⟨b1, b2, hG, -, -, -, -, -, hx⟩ := hL
    have z : (nI L - nI 6 < nI i) = True := n_slT h (by omega) (by omega) (by omega)
    rw [s_lp_L_law_18]
    simp (disch := first | assumption | omega) only [bd_L_law_18, gt_1, gl_1, t1, z, l_of, n_ltT, n_ltF, n_leT, n_leF, n_eqT, n_eqF, n_neM, n_Mne, n_M0, n_Mlt, n_0leM, nI_clamp, x_in_nI, n_1, nI_add, x_at, x_bd_s, x_bv_s, ↓x_lt, decide_true, decide_false, Bool.and_self, Bool.true_and, Bool.and_true, if_true, if_false, ite_true, ite_false, ↓reduceIte, not_true_eq_false, not_false_eq_true, Nat.reduceAdd, Nat.reduceMul, Nat.reduceEqDiff, eq_self, true_and, and_true, false_and, and_false, Option.some.injEq, Prod.mk.injEq, l_0, l_1, l_2, l_3, l_4, l_5, l_6, l_7, l_8, l_9, l_10, l_100, l_160, ↓m_1, ↓m_2, ↓m_3, ↓m_4, ↓m_5, ↓m_6, ↓m_7]
  induction d with
  | zero =>
    intro F i B σ M hF hL hW hB h hi
    obtain ⟨F, rfl⟩ : ∃ j, F = j + 1 := ⟨F - 1, by omega⟩
    exact ⟨M, fin F i σ M hL (by omega) hi⟩
  | succ d ih =>
    intro F i B σ M hF hL hW hB h hi
    obtain ⟨F, rfl⟩ : ∃ j, F = j + 1 := ⟨F - 1, by omega⟩
    by_cases q : L < 6 + i
    · exact ⟨M, fin F i σ M hL q hi⟩
    have hB8 : B ≤ 800000 := by omega
    have hi6 : i + 6 ≤ L := by omega
    have z : (nI L - nI 6 < nI i) = False := n_slF (by omega) (by omega) (by omega) (by omega)
    have st : LwP (lp_L_law_18 F) L xs i B (lp_L_law_18 (F + 1) 1 20 83 (nI i) M) := by
      obtain ⟨b1, b2, hG, -, -, -, -, -, hx⟩ := id hL
      have ht := gt_1 hG
      have z' : ¬ (Int32.ofNat (x_len M 1) - 6 < nI i) := fun h => by rw [gl_1 hG] at h; rw [show Int32.ofNat L = nI L from l_of L] at h; exact (of_eq_false z) h
      have ha : x_at M 1 5 (nI i) = true := by simp (disch := first | assumption | omega) only [x_at, gt_1, gl_1, l_of, n_ltT, n_ltF, n_leT, n_leF, n_eqT, n_eqF, n_neM, n_Mne, n_M0, n_Mlt, n_0leM, nI_clamp, x_in_nI, n_1, nI_add, x_at, x_bd_s, x_bv_s, ↓x_lt, decide_true, decide_false, Bool.and_self, Bool.true_and, Bool.and_true, if_true, if_false, ite_true, ite_false, ↓reduceIte, not_true_eq_false, not_false_eq_true, Nat.reduceAdd, Nat.reduceMul, Nat.reduceEqDiff, eq_self, true_and, and_true, false_and, and_false, Option.some.injEq, Prod.mk.injEq, l_0, l_1, l_2, l_3, l_4, l_5, l_6, l_7, l_8, l_9, l_10, l_100, l_160, ↓m_1, ↓m_2, ↓m_3, ↓m_4, ↓m_5, ↓m_6, ↓m_7]
      rw [s_lp_L_law_18, bd_L_law_18, if_pos ht, if_pos t1, if_neg z', if_pos ha]
      refine LwP.ite (arm_208 hL hW hB8 hi6 hLb) ?_
      refine LwP.ite (arm_251 hL hW hB8 hi6 hLb) ?_
      refine LwP.ite (arm_324 hL hW hB8 hi6 hLb) ?_
      refine LwP.ite (arm_387 hL hW hB8 hi6 hLb) ?_
      refine LwP.ite (arm_421 hL hW hB8 hi6 hLb) ?_
      refine LwP.ite (arm_454 hL hW hB8 hi6 hLb) ?_
      refine LwP.ite (arm_477 hL hW hB8 hi6 hLb) ?_
      refine LwP.ite (arm_510 hL hW hB8 hi6 hLb) ?_
      refine LwP.ite (arm_543 hL hW hB8 hi6 hLb) ?_
      refine LwP.ite (arm_576 hL hW hB8 hi6 hLb) ?_
      refine LwP.ite (arm_609 hL hW hB8 hi6 hLb) ?_
      refine LwP.ite (arm_642 hL hW hB8 hi6 hLb) ?_
      refine LwP.ite (arm_665 hL hW hB8 hi6 hLb) ?_
      refine LwP.ite (arm_678 hL hW hB8 hi6 hLb) ?_
      refine LwP.ite (arm_701 hL hW hB8 hi6 hLb) ?_
      refine LwP.ite (arm_764 hL hW hB8 hi6 hLb) ?_
      refine LwP.ite (arm_807 hL hW hB8 hi6 hLb) ?_
      refine LwP.ite (arm_840 hL hW hB8 hi6 hLb) ?_
      refine LwP.ite (arm_873 hL hW hB8 hi6 hLb) ?_
      refine LwP.ite (arm_906 hL hW hB8 hi6 hLb) ?_
      refine LwP.ite (arm_949 hL hW hB8 hi6 hLb) ?_
      refine LwP.ite (arm_982 hL hW hB8 hi6 hLb) ?_
      refine LwP.ite (arm_1015 hL hW hB8 hi6 hLb) ?_
      refine LwP.ite (arm_1058 hL hW hB8 hi6 hLb) ?_
      refine LwP.ite (arm_1101 hL hW hB8 hi6 hLb) ?_
      refine LwP.ite (arm_1134 hL hW hB8 hi6 hLb) ?_
      refine LwP.ite (arm_1157 hL hW hB8 hi6 hLb) ?_
      refine LwP.ite (arm_1220 hL hW hB8 hi6 hLb) ?_
      refine LwP.ite (arm_1243 hL hW hB8 hi6 hLb) ?_
      refine LwP.ite (arm_1266 hL hW hB8 hi6 hLb) ?_
      refine LwP.ite (arm_1279 hL hW hB8 hi6 hLb) ?_
      refine LwP.ite (arm_1312 hL hW hB8 hi6 hLb) ?_
      refine LwP.ite (arm_1335 hL hW hB8 hi6 hLb) ?_
      refine LwP.ite (arm_1358 hL hW hB8 hi6 hLb) ?_
      refine LwP.ite (arm_1381 hL hW hB8 hi6 hLb) ?_
      refine LwP.ite (arm_1404 hL hW hB8 hi6 hLb) ?_
      refine LwP.ite (arm_1447 hL hW hB8 hi6 hLb) ?_
      refine LwP.ite (arm_1470 hL hW hB8 hi6 hLb) ?_
      refine LwP.ite (arm_1483 hL hW hB8 hi6 hLb) ?_
      refine LwP.ite (arm_1496 hL hW hB8 hi6 hLb) ?_
      exact arm_no hL hW
    obtain ⟨σ', M', e, l2, w⟩ := st
    rw [e]
    exact ih F (i + 6) (B + 400) σ' M' (by omega) l2 w (by omega) (by omega) (by omega)
end
