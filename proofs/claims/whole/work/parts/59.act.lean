/-! ACTS: bodies that run, as a list -/
def TC (l : List Nat) (M : XM) : Prop := x_i M 65 0 = nI l.length ∧ ∀ i, i < l.length → x_i M 66 i = nI (l.getD i 0)
def TM (l : List Nat) (M : XM) : Prop := x_i M 83 40 = nI l.length ∧ ∀ i, i < l.length → x_i M 104 i = nI (l.getD i 0)
def cnB (kd : Nat) : List Nat := if kd = 1 ∨ kd = 5 then [20, 10] else if kd = 4 then [51, 10] else if kd = 6 then [70, 51, 10] else [10]
def cnV (kd m a : Nat) (x : Int32) : Int32 := if kd = 1 ∨ kd = 5 then x + nI m + nI a else if kd = 4 then x + nI m - nI m else if kd = 6 then (x + nI m - nI m) * nI 2 else x + nI m
def asB (kd : Nat) : List Nat := (if kd = 2 then [30, 11] else if kd = 3 then [40, 30, 11] else if kd = 6 then [71, 11] else [11]) ++ cnB kd
def asV (kd m a : Nat) (x : Int32) : Int32 := if kd = 2 then cnV kd m a x * nI 2 * nI 3 else if kd = 3 then cnV kd m a (x + nI 1) * nI 2 * nI 3 else if kd = 6 then cnV kd m a (x - nI a) * nI 2 else cnV kd m a x * nI 2
def enB (kd : Nat) : List Nat := (if kd = 4 ∨ kd = 6 then [50, 12] else if kd = 5 then [60, 12] else [12]) ++ asB kd ++ cnB kd
def enV (kd m a : Nat) (x : Int32) : Int32 := if kd = 4 ∨ kd = 6 then -(asV kd m a x ^^^ cnV kd m a (x - nI a)) else if kd = 5 then asV kd m a x ^^^ cnV kd m a (x - nI a) ^^^ nI 5 else asV kd m a x ^^^ cnV kd m a (x - nI a)
def AC (L : Nat) (b1 b2 : Bool) (kd m a : Nat) (l : List Nat) (M : XM) : Prop := Geo L b1 b2 M ∧ CT M ∧ x_i M 65 2 = nI kd ∧ x_i M 65 3 = nI m ∧ x_i M 65 4 = nI a ∧ TC l M
def AM (L : Nat) (b1 b2 : Bool) (kd m a : Nat) (l : List Nat) (M : XM) : Prop := Geo L b1 b2 M ∧ x_i M 85 m = nI kd ∧ x_i M 86 m = nI a ∧ TM l M
abbrev QC : Nat → Nat → Prop := fun a k => a = 66 ∨ a = 65 ∧ k = 0
abbrev QM : Nat → Nat → Prop := fun a k => a = 104 ∨ a = 83 ∧ k = 40
theorem l_12 : (12 : Int32) = nI 12 := rfl
theorem l_30 : (30 : Int32) = nI 30 := rfl
theorem l_40 : (40 : Int32) = nI 40 := rfl
theorem l_50 : (50 : Int32) = nI 50 := rfl
theorem l_51 : (51 : Int32) = nI 51 := rfl
theorem l_60 : (60 : Int32) = nI 60 := rfl
theorem l_70 : (70 : Int32) = nI 70 := rfl
theorem l_71 : (71 : Int32) = nI 71 := rfl
theorem gd_l {l : List Nat} {b i : Nat} (h : i < l.length) : (l ++ [b]).getD i 0 = l.getD i 0 := by
  rw [List.getD_eq_getElem?_getD, List.getD_eq_getElem?_getD, List.getElem?_append_left h]
theorem gd_r {l : List Nat} {b : Nat} : (l ++ [b]).getD l.length 0 = b := by
  rw [List.getD_eq_getElem?_getD, List.getElem?_append_right (Nat.le_refl _), Nat.sub_self]
  rfl
section
variable {L : Nat} {b1 b2 : Bool} {kd m a : Nat} {l : List Nat} {M : XM} {x : Int32}
theorem c_begin (hA : AC L b1 b2 kd m a l M) (hl : l.length < 20) (b : Nat) : ∃ M', f_X0_begin 65 (nI b) M = some M' ∧ AC L b1 b2 kd m a (l ++ [b]) M' ∧ Fr QC M M' := by
  obtain ⟨hG, hT, a1, a2, a3, t1, t2⟩ := hA
  refine ⟨x_wi (x_wi M 66 l.length (nI b)) 65 0 (nI (l.length + 1)), ?_, ⟨hG, hT.ag ((Agr.rf.wi (by omega)).wi (by omega)), ?_, ?_, ?_, ?_, fun i hi => ?_⟩, (Fr.rf.wi (by omega)).wi (by omega)⟩
  · simp (disch := first | assumption | omega) only [f_X0_begin_22, f_X0_begin, gt_65, gr_65_1, gt_66, gl_66, t1, l_of, n_ltT, n_ltF, n_leT, n_leF, n_eqT, n_eqF, n_neM, n_Mne, n_M0, n_Mlt, n_0leM, nI_clamp, x_in_nI, n_1, nI_add, x_at, x_bd_s, x_bv_s, ↓x_lt, decide_true, decide_false, Bool.and_self, Bool.true_and, Bool.and_true, if_true, if_false, ite_true, ite_false, ↓reduceIte, not_true_eq_false, not_false_eq_true, Nat.reduceAdd, Nat.reduceMul, Nat.reduceEqDiff, eq_self, true_and, and_true, false_and, and_false, Option.some.injEq, Prod.mk.injEq, l_0, l_1, l_2, l_3, l_4, l_5, l_6, l_7, l_8, l_9, l_10, l_100, l_160, ↓m_1, ↓m_2, ↓m_3, ↓m_4, ↓m_5, ↓m_6, ↓m_7, ii_wi, ji_wi, ri_wi, ti_wi, li_wi, ii_wj, ji_wj, ri_wj, ti_wj, li_wj]
  · simp (disch := first | assumption | omega) only [ii_wi, ji_wi, ri_wi, ti_wi, li_wi, ii_wj, ji_wj, ri_wj, ti_wj, li_wj, l_of, n_ltT, n_ltF, n_leT, n_leF, n_eqT, n_eqF, n_neM, n_Mne, n_M0, n_Mlt, n_0leM, nI_clamp, x_in_nI, n_1, nI_add, x_at, x_bd_s, x_bv_s, ↓x_lt, decide_true, decide_false, Bool.and_self, Bool.true_and, Bool.and_true, if_true, if_false, ite_true, ite_false, ↓reduceIte, not_true_eq_false, not_false_eq_true, Nat.reduceAdd, Nat.reduceMul, Nat.reduceEqDiff, eq_self, true_and, and_true, false_and, and_false, Option.some.injEq, Prod.mk.injEq, l_0, l_1, l_2, l_3, l_4, l_5, l_6, l_7, l_8, l_9, l_10, l_100, l_160, ↓m_1, ↓m_2, ↓m_3, ↓m_4, ↓m_5, ↓m_6, ↓m_7]; exact a1
  · simp (disch := first | assumption | omega) only [ii_wi, ji_wi, ri_wi, ti_wi, li_wi, ii_wj, ji_wj, ri_wj, ti_wj, li_wj, l_of, n_ltT, n_ltF, n_leT, n_leF, n_eqT, n_eqF, n_neM, n_Mne, n_M0, n_Mlt, n_0leM, nI_clamp, x_in_nI, n_1, nI_add, x_at, x_bd_s, x_bv_s, ↓x_lt, decide_true, decide_false, Bool.and_self, Bool.true_and, Bool.and_true, if_true, if_false, ite_true, ite_false, ↓reduceIte, not_true_eq_false, not_false_eq_true, Nat.reduceAdd, Nat.reduceMul, Nat.reduceEqDiff, eq_self, true_and, and_true, false_and, and_false, Option.some.injEq, Prod.mk.injEq, l_0, l_1, l_2, l_3, l_4, l_5, l_6, l_7, l_8, l_9, l_10, l_100, l_160, ↓m_1, ↓m_2, ↓m_3, ↓m_4, ↓m_5, ↓m_6, ↓m_7]; exact a2
  · simp (disch := first | assumption | omega) only [ii_wi, ji_wi, ri_wi, ti_wi, li_wi, ii_wj, ji_wj, ri_wj, ti_wj, li_wj, l_of, n_ltT, n_ltF, n_leT, n_leF, n_eqT, n_eqF, n_neM, n_Mne, n_M0, n_Mlt, n_0leM, nI_clamp, x_in_nI, n_1, nI_add, x_at, x_bd_s, x_bv_s, ↓x_lt, decide_true, decide_false, Bool.and_self, Bool.true_and, Bool.and_true, if_true, if_false, ite_true, ite_false, ↓reduceIte, not_true_eq_false, not_false_eq_true, Nat.reduceAdd, Nat.reduceMul, Nat.reduceEqDiff, eq_self, true_and, and_true, false_and, and_false, Option.some.injEq, Prod.mk.injEq, l_0, l_1, l_2, l_3, l_4, l_5, l_6, l_7, l_8, l_9, l_10, l_100, l_160, ↓m_1, ↓m_2, ↓m_3, ↓m_4, ↓m_5, ↓m_6, ↓m_7]; exact a3
  · simp (disch := first | assumption | omega) only [ii_wi, ji_wi, ri_wi, ti_wi, li_wi, ii_wj, ji_wj, ri_wj, ti_wj, li_wj, l_of, n_ltT, n_ltF, n_leT, n_leF, n_eqT, n_eqF, n_neM, n_Mne, n_M0, n_Mlt, n_0leM, nI_clamp, x_in_nI, n_1, nI_add, x_at, x_bd_s, x_bv_s, ↓x_lt, decide_true, decide_false, Bool.and_self, Bool.true_and, Bool.and_true, if_true, if_false, ite_true, ite_false, ↓reduceIte, not_true_eq_false, not_false_eq_true, Nat.reduceAdd, Nat.reduceMul, Nat.reduceEqDiff, eq_self, true_and, and_true, false_and, and_false, Option.some.injEq, Prod.mk.injEq, l_0, l_1, l_2, l_3, l_4, l_5, l_6, l_7, l_8, l_9, l_10, l_100, l_160, ↓m_1, ↓m_2, ↓m_3, ↓m_4, ↓m_5, ↓m_6, ↓m_7, List.length_append, List.length_singleton]
  · rw [List.length_append, List.length_singleton] at hi
    rw [ii_wi, if_neg (by omega), ii_wi]
    by_cases q : i = l.length
    · rw [if_pos ⟨rfl, q⟩, q, gd_r]
    · rw [if_neg (fun z => q z.2), gd_l (by omega)]; exact t2 i (by omega)
theorem m_body (hA : AM L b1 b2 kd m a l M) (hl : l.length < 20) (b : Nat) : ∃ M', f_X9_body 83 (nI b) M = some M' ∧ AM L b1 b2 kd m a (l ++ [b]) M' ∧ Fr QM M M' := by
  obtain ⟨hG, a1, a2, t1, t2⟩ := hA
  refine ⟨x_wi (x_wi M 104 l.length (nI b)) 83 40 (nI (l.length + 1)), ?_, ⟨hG, ?_, ?_, ?_, fun i hi => ?_⟩, (Fr.rf.wi (by omega)).wi (by omega)⟩
  · simp (disch := first | assumption | omega) only [f_X9_body_19, f_X9_body, gt_83, gr_83_39, gt_104, gl_104, t1, l_of, n_ltT, n_ltF, n_leT, n_leF, n_eqT, n_eqF, n_neM, n_Mne, n_M0, n_Mlt, n_0leM, nI_clamp, x_in_nI, n_1, nI_add, x_at, x_bd_s, x_bv_s, ↓x_lt, decide_true, decide_false, Bool.and_self, Bool.true_and, Bool.and_true, if_true, if_false, ite_true, ite_false, ↓reduceIte, not_true_eq_false, not_false_eq_true, Nat.reduceAdd, Nat.reduceMul, Nat.reduceEqDiff, eq_self, true_and, and_true, false_and, and_false, Option.some.injEq, Prod.mk.injEq, l_0, l_1, l_2, l_3, l_4, l_5, l_6, l_7, l_8, l_9, l_10, l_100, l_160, ↓m_1, ↓m_2, ↓m_3, ↓m_4, ↓m_5, ↓m_6, ↓m_7, ii_wi, ji_wi, ri_wi, ti_wi, li_wi, ii_wj, ji_wj, ri_wj, ti_wj, li_wj, l_20]
  · simp (disch := first | assumption | omega) only [ii_wi, ji_wi, ri_wi, ti_wi, li_wi, ii_wj, ji_wj, ri_wj, ti_wj, li_wj, l_of, n_ltT, n_ltF, n_leT, n_leF, n_eqT, n_eqF, n_neM, n_Mne, n_M0, n_Mlt, n_0leM, nI_clamp, x_in_nI, n_1, nI_add, x_at, x_bd_s, x_bv_s, ↓x_lt, decide_true, decide_false, Bool.and_self, Bool.true_and, Bool.and_true, if_true, if_false, ite_true, ite_false, ↓reduceIte, not_true_eq_false, not_false_eq_true, Nat.reduceAdd, Nat.reduceMul, Nat.reduceEqDiff, eq_self, true_and, and_true, false_and, and_false, Option.some.injEq, Prod.mk.injEq, l_0, l_1, l_2, l_3, l_4, l_5, l_6, l_7, l_8, l_9, l_10, l_100, l_160, ↓m_1, ↓m_2, ↓m_3, ↓m_4, ↓m_5, ↓m_6, ↓m_7]; exact a1
  · simp (disch := first | assumption | omega) only [ii_wi, ji_wi, ri_wi, ti_wi, li_wi, ii_wj, ji_wj, ri_wj, ti_wj, li_wj, l_of, n_ltT, n_ltF, n_leT, n_leF, n_eqT, n_eqF, n_neM, n_Mne, n_M0, n_Mlt, n_0leM, nI_clamp, x_in_nI, n_1, nI_add, x_at, x_bd_s, x_bv_s, ↓x_lt, decide_true, decide_false, Bool.and_self, Bool.true_and, Bool.and_true, if_true, if_false, ite_true, ite_false, ↓reduceIte, not_true_eq_false, not_false_eq_true, Nat.reduceAdd, Nat.reduceMul, Nat.reduceEqDiff, eq_self, true_and, and_true, false_and, and_false, Option.some.injEq, Prod.mk.injEq, l_0, l_1, l_2, l_3, l_4, l_5, l_6, l_7, l_8, l_9, l_10, l_100, l_160, ↓m_1, ↓m_2, ↓m_3, ↓m_4, ↓m_5, ↓m_6, ↓m_7]; exact a2
  · simp (disch := first | assumption | omega) only [ii_wi, ji_wi, ri_wi, ti_wi, li_wi, ii_wj, ji_wj, ri_wj, ti_wj, li_wj, l_of, n_ltT, n_ltF, n_leT, n_leF, n_eqT, n_eqF, n_neM, n_Mne, n_M0, n_Mlt, n_0leM, nI_clamp, x_in_nI, n_1, nI_add, x_at, x_bd_s, x_bv_s, ↓x_lt, decide_true, decide_false, Bool.and_self, Bool.true_and, Bool.and_true, if_true, if_false, ite_true, ite_false, ↓reduceIte, not_true_eq_false, not_false_eq_true, Nat.reduceAdd, Nat.reduceMul, Nat.reduceEqDiff, eq_self, true_and, and_true, false_and, and_false, Option.some.injEq, Prod.mk.injEq, l_0, l_1, l_2, l_3, l_4, l_5, l_6, l_7, l_8, l_9, l_10, l_100, l_160, ↓m_1, ↓m_2, ↓m_3, ↓m_4, ↓m_5, ↓m_6, ↓m_7, List.length_append, List.length_singleton]
  · rw [List.length_append, List.length_singleton] at hi
    rw [ii_wi, if_neg (by omega), ii_wi]
    by_cases q : i = l.length
    · rw [if_pos ⟨rfl, q⟩, q, gd_r]
    · rw [if_neg (fun z => q z.2), gd_l (by omega)]; exact t2 i (by omega)
theorem c_above (hG : Geo L b1 b2 M) (hT : CT M) (k : Nat) (hk : k ≤ 6) (h0 : 0 < k) : f_X8_above (nI k) M = some (nI (if k = 3 then 2 else if k = 5 then 1 else if k = 6 then 4 else 0), M) := by
  obtain ⟨⟨h0, h1, h2, h3, h4, h5, h6⟩, -⟩ := hT
  rcases (by omega : k = 1 ∨ k = 2 ∨ k = 3 ∨ k = 4 ∨ k = 5 ∨ k = 6) with rfl | rfl | rfl | rfl | rfl | rfl <;>
  simp (disch := first | assumption | omega) only [f_X8_above_c1, f_X8_above, f_X8_isKind, gt_2, gl_2, l_of, n_ltT, n_ltF, n_leT, n_leF, n_eqT, n_eqF, n_neM, n_Mne, n_M0, n_Mlt, n_0leM, nI_clamp, x_in_nI, n_1, nI_add, x_at, x_bd_s, x_bv_s, ↓x_lt, decide_true, decide_false, Bool.and_self, Bool.true_and, Bool.and_true, if_true, if_false, ite_true, ite_false, ↓reduceIte, not_true_eq_false, not_false_eq_true, Nat.reduceAdd, Nat.reduceMul, Nat.reduceEqDiff, eq_self, true_and, and_true, false_and, and_false, Option.some.injEq, Prod.mk.injEq, l_0, l_1, l_2, l_3, l_4, l_5, l_6, l_7, l_8, l_9, l_10, l_100, l_160, ↓m_1, ↓m_2, ↓m_3, ↓m_4, ↓m_5, ↓m_6, ↓m_7, h1, h2, h3, h4, h5, h6]
theorem c_isk (hG : Geo L b1 b2 M) (k : Nat) (hk : k ≤ 6) : f_X8_isKind (nI k) M = some (nI 1, M) := by
  simp (disch := first | assumption | omega) only [f_X8_isKind, gt_2, gl_2, l_of, n_ltT, n_ltF, n_leT, n_leF, n_eqT, n_eqF, n_neM, n_Mne, n_M0, n_Mlt, n_0leM, nI_clamp, x_in_nI, n_1, nI_add, x_at, x_bd_s, x_bv_s, ↓x_lt, decide_true, decide_false, Bool.and_self, Bool.true_and, Bool.and_true, if_true, if_false, ite_true, ite_false, ↓reduceIte, not_true_eq_false, not_false_eq_true, Nat.reduceAdd, Nat.reduceMul, Nat.reduceEqDiff, eq_self, true_and, and_true, false_and, and_false, Option.some.injEq, Prod.mk.injEq, l_0, l_1, l_2, l_3, l_4, l_5, l_6, l_7, l_8, l_9, l_10, l_100, l_160, ↓m_1, ↓m_2, ↓m_3, ↓m_4, ↓m_5, ↓m_6, ↓m_7]
theorem s_cn (r : Nat) : f_X0_doCounts (r + 1) = bd_X0_doCounts (f_X0_doCounts r) := rfl
theorem s_as (r : Nat) : f_X0_doAsks (r + 1) = bd_X0_doAsks (f_X0_doAsks r) := rfl
theorem s_en (r : Nat) : f_X0_doEnds (r + 1) = bd_X0_doEnds (f_X0_doEnds r) := rfl
theorem c_cn0 (r : Nat) (hA : AC L b1 b2 kd m a l M) (hk : kd ≤ 6) (hl : l.length + 1 ≤ 20) : ∃ M', f_X0_doCounts (r + 1) 65 (nI 0) x M = some (x + nI m, M') ∧ AC L b1 b2 kd m a (l ++ [10]) M' ∧ Fr QC M M' := by
  have hG := hA.1
  obtain ⟨M1, p1, p2, p3⟩ := c_begin hA (by omega) 10
  have hG1 := p2.1
  have hT1 := p2.2.1
  obtain ⟨-, -, a1, a2, a3, -⟩ := id p2
  refine ⟨M1, ?_, p2, p3⟩
  rw [show r + 1 = r + 0 + 1 from rfl, s_cn]
  simp (disch := first | assumption | omega) only [bd_X0_doCounts, f_X0_doCounts_c47, f_X0_doCounts_c69, f_X0_doCounts_c65, f_X0_doCounts_c60, f_X0_doCounts_c90, f_X0_doCounts_c86, f_X0_doCounts_c81, f_X0_doCounts_c111, f_X0_doCounts_c107, f_X0_doCounts_c102, f_X0_doCounts_c126, f_X0_doCounts_c118, f_X0_doCounts_117, gt_65, l_of, n_ltT, n_ltF, n_leT, n_leF, n_eqT, n_eqF, n_neM, n_Mne, n_M0, n_Mlt, n_0leM, nI_clamp, x_in_nI, n_1, nI_add, x_at, x_bd_s, x_bv_s, ↓x_lt, decide_true, decide_false, Bool.and_self, Bool.true_and, Bool.and_true, if_true, if_false, ite_true, ite_false, ↓reduceIte, not_true_eq_false, not_false_eq_true, Nat.reduceAdd, Nat.reduceMul, Nat.reduceEqDiff, eq_self, true_and, and_true, false_and, and_false, Option.some.injEq, Prod.mk.injEq, l_0, l_1, l_2, l_3, l_4, l_5, l_6, l_7, l_8, l_9, l_10, l_100, l_160, ↓m_1, ↓m_2, ↓m_3, ↓m_4, ↓m_5, ↓m_6, ↓m_7, p1, a1, a2, a3, l_12, l_20, l_30, l_40, l_50, l_51, l_60, l_70, l_71, l_11]
theorem c_cn1 (r : Nat) (hA : AC L b1 b2 kd m a l M) (hk : kd ≤ 6) (hl : l.length + 2 ≤ 20) : ∃ M', f_X0_doCounts (r + 2) 65 (nI 1) x M = some (x + nI m + nI a, M') ∧ AC L b1 b2 kd m a (l ++ [20, 10]) M' ∧ Fr QC M M' := by
  have hG := hA.1
  obtain ⟨M1, p1, p2, p3⟩ := c_begin hA (by omega) 20
  have hG1 := p2.1
  have hT1 := p2.2.1
  obtain ⟨-, -, a1, a2, a3, -⟩ := id p2
  have ab := c_above hG1 hT1 1 (by omega) (by omega)
  have ik := c_isk hG1 1 (by omega)
  obtain ⟨M2, q1, q2, q3⟩ := c_cn0 (x := x) r p2 hk (by first | omega | (simp only [List.length_append, List.length_cons, List.length_nil]; omega))
  obtain ⟨hG2, -, b1, b2, b3, -⟩ := id q2
  refine ⟨M2, ?_, by simpa only [List.append_assoc, List.cons_append, List.nil_append] using q2, (p3.tr q3)⟩
  rw [show r + 2 = r + 1 + 1 from rfl, s_cn]
  simp (disch := first | assumption | omega) only [bd_X0_doCounts, f_X0_doCounts_c47, f_X0_doCounts_c69, f_X0_doCounts_c65, f_X0_doCounts_c60, f_X0_doCounts_c90, f_X0_doCounts_c86, f_X0_doCounts_c81, f_X0_doCounts_c111, f_X0_doCounts_c107, f_X0_doCounts_c102, f_X0_doCounts_c126, f_X0_doCounts_c118, f_X0_doCounts_117, gt_65, l_of, n_ltT, n_ltF, n_leT, n_leF, n_eqT, n_eqF, n_neM, n_Mne, n_M0, n_Mlt, n_0leM, nI_clamp, x_in_nI, n_1, nI_add, x_at, x_bd_s, x_bv_s, ↓x_lt, decide_true, decide_false, Bool.and_self, Bool.true_and, Bool.and_true, if_true, if_false, ite_true, ite_false, ↓reduceIte, not_true_eq_false, not_false_eq_true, Nat.reduceAdd, Nat.reduceMul, Nat.reduceEqDiff, eq_self, true_and, and_true, false_and, and_false, Option.some.injEq, Prod.mk.injEq, l_0, l_1, l_2, l_3, l_4, l_5, l_6, l_7, l_8, l_9, l_10, l_100, l_160, ↓m_1, ↓m_2, ↓m_3, ↓m_4, ↓m_5, ↓m_6, ↓m_7, p1, ab, ik, q1, a1, a2, a3, b1, b2, b3, l_12, l_20, l_30, l_40, l_50, l_51, l_60, l_70, l_71, l_11]
theorem c_cn2 (r : Nat) (hA : AC L b1 b2 kd m a l M) (hk : kd ≤ 6) (hl : l.length + 1 ≤ 20) : ∃ M', f_X0_doCounts (r + 2) 65 (nI 2) x M = some (x + nI m, M') ∧ AC L b1 b2 kd m a (l ++ [10]) M' ∧ Fr QC M M' := by
  have hG := hA.1
  have hG1 := hA.1
  have hT1 := hA.2.1
  obtain ⟨-, -, a1, a2, a3, -⟩ := id hA
  have ab := c_above hG1 hT1 2 (by omega) (by omega)
  have ik := c_isk hG1 2 (by omega)
  obtain ⟨M2, q1, q2, q3⟩ := c_cn0 (x := x) r hA hk (by first | omega | (simp only [List.length_append, List.length_cons, List.length_nil]; omega))
  obtain ⟨hG2, -, b1, b2, b3, -⟩ := id q2
  refine ⟨M2, ?_, q2, q3⟩
  rw [show r + 2 = r + 1 + 1 from rfl, s_cn]
  simp (disch := first | assumption | omega) only [bd_X0_doCounts, f_X0_doCounts_c47, f_X0_doCounts_c69, f_X0_doCounts_c65, f_X0_doCounts_c60, f_X0_doCounts_c90, f_X0_doCounts_c86, f_X0_doCounts_c81, f_X0_doCounts_c111, f_X0_doCounts_c107, f_X0_doCounts_c102, f_X0_doCounts_c126, f_X0_doCounts_c118, f_X0_doCounts_117, gt_65, l_of, n_ltT, n_ltF, n_leT, n_leF, n_eqT, n_eqF, n_neM, n_Mne, n_M0, n_Mlt, n_0leM, nI_clamp, x_in_nI, n_1, nI_add, x_at, x_bd_s, x_bv_s, ↓x_lt, decide_true, decide_false, Bool.and_self, Bool.true_and, Bool.and_true, if_true, if_false, ite_true, ite_false, ↓reduceIte, not_true_eq_false, not_false_eq_true, Nat.reduceAdd, Nat.reduceMul, Nat.reduceEqDiff, eq_self, true_and, and_true, false_and, and_false, Option.some.injEq, Prod.mk.injEq, l_0, l_1, l_2, l_3, l_4, l_5, l_6, l_7, l_8, l_9, l_10, l_100, l_160, ↓m_1, ↓m_2, ↓m_3, ↓m_4, ↓m_5, ↓m_6, ↓m_7, ab, ik, q1, a1, a2, a3, b1, b2, b3, l_12, l_20, l_30, l_40, l_50, l_51, l_60, l_70, l_71, l_11]
theorem c_cn3 (r : Nat) (hA : AC L b1 b2 kd m a l M) (hk : kd ≤ 6) (hl : l.length + 1 ≤ 20) : ∃ M', f_X0_doCounts (r + 3) 65 (nI 3) x M = some (x + nI m, M') ∧ AC L b1 b2 kd m a (l ++ [10]) M' ∧ Fr QC M M' := by
  have hG := hA.1
  have hG1 := hA.1
  have hT1 := hA.2.1
  obtain ⟨-, -, a1, a2, a3, -⟩ := id hA
  have ab := c_above hG1 hT1 3 (by omega) (by omega)
  have ik := c_isk hG1 3 (by omega)
  obtain ⟨M2, q1, q2, q3⟩ := c_cn2 (x := x) r hA hk (by first | omega | (simp only [List.length_append, List.length_cons, List.length_nil]; omega))
  obtain ⟨hG2, -, b1, b2, b3, -⟩ := id q2
  refine ⟨M2, ?_, q2, q3⟩
  rw [show r + 3 = r + 2 + 1 from rfl, s_cn]
  simp (disch := first | assumption | omega) only [bd_X0_doCounts, f_X0_doCounts_c47, f_X0_doCounts_c69, f_X0_doCounts_c65, f_X0_doCounts_c60, f_X0_doCounts_c90, f_X0_doCounts_c86, f_X0_doCounts_c81, f_X0_doCounts_c111, f_X0_doCounts_c107, f_X0_doCounts_c102, f_X0_doCounts_c126, f_X0_doCounts_c118, f_X0_doCounts_117, gt_65, l_of, n_ltT, n_ltF, n_leT, n_leF, n_eqT, n_eqF, n_neM, n_Mne, n_M0, n_Mlt, n_0leM, nI_clamp, x_in_nI, n_1, nI_add, x_at, x_bd_s, x_bv_s, ↓x_lt, decide_true, decide_false, Bool.and_self, Bool.true_and, Bool.and_true, if_true, if_false, ite_true, ite_false, ↓reduceIte, not_true_eq_false, not_false_eq_true, Nat.reduceAdd, Nat.reduceMul, Nat.reduceEqDiff, eq_self, true_and, and_true, false_and, and_false, Option.some.injEq, Prod.mk.injEq, l_0, l_1, l_2, l_3, l_4, l_5, l_6, l_7, l_8, l_9, l_10, l_100, l_160, ↓m_1, ↓m_2, ↓m_3, ↓m_4, ↓m_5, ↓m_6, ↓m_7, ab, ik, q1, a1, a2, a3, b1, b2, b3, l_12, l_20, l_30, l_40, l_50, l_51, l_60, l_70, l_71, l_11]
theorem c_cn4 (r : Nat) (hA : AC L b1 b2 kd m a l M) (hk : kd ≤ 6) (hl : l.length + 2 ≤ 20) : ∃ M', f_X0_doCounts (r + 2) 65 (nI 4) x M = some (x + nI m - nI m, M') ∧ AC L b1 b2 kd m a (l ++ [51, 10]) M' ∧ Fr QC M M' := by
  have hG := hA.1
  obtain ⟨M1, p1, p2, p3⟩ := c_begin hA (by omega) 51
  have hG1 := p2.1
  have hT1 := p2.2.1
  obtain ⟨-, -, a1, a2, a3, -⟩ := id p2
  have ab := c_above hG1 hT1 4 (by omega) (by omega)
  have ik := c_isk hG1 4 (by omega)
  obtain ⟨M2, q1, q2, q3⟩ := c_cn0 (x := x) r p2 hk (by first | omega | (simp only [List.length_append, List.length_cons, List.length_nil]; omega))
  obtain ⟨hG2, -, b1, b2, b3, -⟩ := id q2
  refine ⟨M2, ?_, by simpa only [List.append_assoc, List.cons_append, List.nil_append] using q2, (p3.tr q3)⟩
  rw [show r + 2 = r + 1 + 1 from rfl, s_cn]
  simp (disch := first | assumption | omega) only [bd_X0_doCounts, f_X0_doCounts_c47, f_X0_doCounts_c69, f_X0_doCounts_c65, f_X0_doCounts_c60, f_X0_doCounts_c90, f_X0_doCounts_c86, f_X0_doCounts_c81, f_X0_doCounts_c111, f_X0_doCounts_c107, f_X0_doCounts_c102, f_X0_doCounts_c126, f_X0_doCounts_c118, f_X0_doCounts_117, gt_65, l_of, n_ltT, n_ltF, n_leT, n_leF, n_eqT, n_eqF, n_neM, n_Mne, n_M0, n_Mlt, n_0leM, nI_clamp, x_in_nI, n_1, nI_add, x_at, x_bd_s, x_bv_s, ↓x_lt, decide_true, decide_false, Bool.and_self, Bool.true_and, Bool.and_true, if_true, if_false, ite_true, ite_false, ↓reduceIte, not_true_eq_false, not_false_eq_true, Nat.reduceAdd, Nat.reduceMul, Nat.reduceEqDiff, eq_self, true_and, and_true, false_and, and_false, Option.some.injEq, Prod.mk.injEq, l_0, l_1, l_2, l_3, l_4, l_5, l_6, l_7, l_8, l_9, l_10, l_100, l_160, ↓m_1, ↓m_2, ↓m_3, ↓m_4, ↓m_5, ↓m_6, ↓m_7, p1, ab, ik, q1, a1, a2, a3, b1, b2, b3, l_12, l_20, l_30, l_40, l_50, l_51, l_60, l_70, l_71, l_11]
theorem c_cn5 (r : Nat) (hA : AC L b1 b2 kd m a l M) (hk : kd ≤ 6) (hl : l.length + 2 ≤ 20) : ∃ M', f_X0_doCounts (r + 3) 65 (nI 5) x M = some (x + nI m + nI a, M') ∧ AC L b1 b2 kd m a (l ++ [20, 10]) M' ∧ Fr QC M M' := by
  have hG := hA.1
  have hG1 := hA.1
  have hT1 := hA.2.1
  obtain ⟨-, -, a1, a2, a3, -⟩ := id hA
  have ab := c_above hG1 hT1 5 (by omega) (by omega)
  have ik := c_isk hG1 5 (by omega)
  obtain ⟨M2, q1, q2, q3⟩ := c_cn1 (x := x) r hA hk (by first | omega | (simp only [List.length_append, List.length_cons, List.length_nil]; omega))
  obtain ⟨hG2, -, b1, b2, b3, -⟩ := id q2
  refine ⟨M2, ?_, q2, q3⟩
  rw [show r + 3 = r + 2 + 1 from rfl, s_cn]
  simp (disch := first | assumption | omega) only [bd_X0_doCounts, f_X0_doCounts_c47, f_X0_doCounts_c69, f_X0_doCounts_c65, f_X0_doCounts_c60, f_X0_doCounts_c90, f_X0_doCounts_c86, f_X0_doCounts_c81, f_X0_doCounts_c111, f_X0_doCounts_c107, f_X0_doCounts_c102, f_X0_doCounts_c126, f_X0_doCounts_c118, f_X0_doCounts_117, gt_65, l_of, n_ltT, n_ltF, n_leT, n_leF, n_eqT, n_eqF, n_neM, n_Mne, n_M0, n_Mlt, n_0leM, nI_clamp, x_in_nI, n_1, nI_add, x_at, x_bd_s, x_bv_s, ↓x_lt, decide_true, decide_false, Bool.and_self, Bool.true_and, Bool.and_true, if_true, if_false, ite_true, ite_false, ↓reduceIte, not_true_eq_false, not_false_eq_true, Nat.reduceAdd, Nat.reduceMul, Nat.reduceEqDiff, eq_self, true_and, and_true, false_and, and_false, Option.some.injEq, Prod.mk.injEq, l_0, l_1, l_2, l_3, l_4, l_5, l_6, l_7, l_8, l_9, l_10, l_100, l_160, ↓m_1, ↓m_2, ↓m_3, ↓m_4, ↓m_5, ↓m_6, ↓m_7, ab, ik, q1, a1, a2, a3, b1, b2, b3, l_12, l_20, l_30, l_40, l_50, l_51, l_60, l_70, l_71, l_11]
theorem c_cn6 (r : Nat) (hA : AC L b1 b2 kd m a l M) (hk : kd ≤ 6) (hl : l.length + 3 ≤ 20) : ∃ M', f_X0_doCounts (r + 3) 65 (nI 6) x M = some ((x + nI m - nI m) * nI 2, M') ∧ AC L b1 b2 kd m a (l ++ [70, 51, 10]) M' ∧ Fr QC M M' := by
  have hG := hA.1
  obtain ⟨M1, p1, p2, p3⟩ := c_begin hA (by omega) 70
  have hG1 := p2.1
  have hT1 := p2.2.1
  obtain ⟨-, -, a1, a2, a3, -⟩ := id p2
  have ab := c_above hG1 hT1 6 (by omega) (by omega)
  have ik := c_isk hG1 6 (by omega)
  obtain ⟨M2, q1, q2, q3⟩ := c_cn4 (x := x) r p2 hk (by first | omega | (simp only [List.length_append, List.length_cons, List.length_nil]; omega))
  obtain ⟨hG2, -, b1, b2, b3, -⟩ := id q2
  refine ⟨M2, ?_, by simpa only [List.append_assoc, List.cons_append, List.nil_append] using q2, (p3.tr q3)⟩
  rw [show r + 3 = r + 2 + 1 from rfl, s_cn]
  simp (disch := first | assumption | omega) only [bd_X0_doCounts, f_X0_doCounts_c47, f_X0_doCounts_c69, f_X0_doCounts_c65, f_X0_doCounts_c60, f_X0_doCounts_c90, f_X0_doCounts_c86, f_X0_doCounts_c81, f_X0_doCounts_c111, f_X0_doCounts_c107, f_X0_doCounts_c102, f_X0_doCounts_c126, f_X0_doCounts_c118, f_X0_doCounts_117, gt_65, l_of, n_ltT, n_ltF, n_leT, n_leF, n_eqT, n_eqF, n_neM, n_Mne, n_M0, n_Mlt, n_0leM, nI_clamp, x_in_nI, n_1, nI_add, x_at, x_bd_s, x_bv_s, ↓x_lt, decide_true, decide_false, Bool.and_self, Bool.true_and, Bool.and_true, if_true, if_false, ite_true, ite_false, ↓reduceIte, not_true_eq_false, not_false_eq_true, Nat.reduceAdd, Nat.reduceMul, Nat.reduceEqDiff, eq_self, true_and, and_true, false_and, and_false, Option.some.injEq, Prod.mk.injEq, l_0, l_1, l_2, l_3, l_4, l_5, l_6, l_7, l_8, l_9, l_10, l_100, l_160, ↓m_1, ↓m_2, ↓m_3, ↓m_4, ↓m_5, ↓m_6, ↓m_7, p1, ab, ik, q1, a1, a2, a3, b1, b2, b3, l_12, l_20, l_30, l_40, l_50, l_51, l_60, l_70, l_71, l_11]
theorem c_cnt8 (hA : AC L b1 b2 kd m a l M) (hk : kd ≤ 6) (hl : l.length + 3 ≤ 20) : ∃ M', f_X0_doCounts 8 65 (nI kd) x M = some (cnV kd m a x, M') ∧ AC L b1 b2 kd m a (l ++ cnB kd) M' ∧ Fr QC M M' := by
  rcases (by omega : kd = 0 ∨ kd = 1 ∨ kd = 2 ∨ kd = 3 ∨ kd = 4 ∨ kd = 5 ∨ kd = 6) with rfl | rfl | rfl | rfl | rfl | rfl | rfl
  · exact c_cn0 7 hA hk (by omega)
  · exact c_cn1 6 hA hk (by omega)
  · exact c_cn2 6 hA hk (by omega)
  · exact c_cn3 5 hA hk (by omega)
  · exact c_cn4 6 hA hk (by omega)
  · exact c_cn5 5 hA hk (by omega)
  · exact c_cn6 5 hA hk (by omega)
theorem c_as0 (r : Nat) (hA : AC L b1 b2 kd m a l M) (hk : kd ≤ 6) (hl : l.length + 4 ≤ 20) : ∃ M', f_X0_doAsks (r + 1) 65 (nI 0) x M = some (cnV kd m a x * nI 2, M') ∧ AC L b1 b2 kd m a (l ++ (11 :: cnB kd)) M' ∧ Fr QC M M' := by
  have hG := hA.1
  obtain ⟨M1, p1, p2, p3⟩ := c_begin hA (by omega) 11
  obtain ⟨-, -, a1, a2, a3, -⟩ := id p2
  have hG1 := p2.1
  obtain ⟨M2, q1, q2, q3⟩ := c_cnt8 (x := x) p2 hk (by first | omega | (simp only [List.length_append, List.length_cons, List.length_nil]; omega))
  refine ⟨M2, ?_, by simpa only [List.append_assoc, List.cons_append, List.nil_append] using q2, p3.tr q3⟩
  rw [s_as]
  simp (disch := first | assumption | omega) only [bd_X0_doAsks, f_X0_doAsks_c56, f_X0_doAsks_c47, f_X0_doAsks_c74, f_X0_doAsks_c70, f_X0_doAsks_c65, f_X0_doAsks_c88, f_X0_doAsks_c83, f_X0_doAsks_c106, f_X0_doAsks_c101, f_X0_doAsks_c128, f_X0_doAsks_c120, f_X0_doAsks_119, gt_65, l_of, n_ltT, n_ltF, n_leT, n_leF, n_eqT, n_eqF, n_neM, n_Mne, n_M0, n_Mlt, n_0leM, nI_clamp, x_in_nI, n_1, nI_add, x_at, x_bd_s, x_bv_s, ↓x_lt, decide_true, decide_false, Bool.and_self, Bool.true_and, Bool.and_true, if_true, if_false, ite_true, ite_false, ↓reduceIte, not_true_eq_false, not_false_eq_true, Nat.reduceAdd, Nat.reduceMul, Nat.reduceEqDiff, eq_self, true_and, and_true, false_and, and_false, Option.some.injEq, Prod.mk.injEq, l_0, l_1, l_2, l_3, l_4, l_5, l_6, l_7, l_8, l_9, l_10, l_100, l_160, ↓m_1, ↓m_2, ↓m_3, ↓m_4, ↓m_5, ↓m_6, ↓m_7, p1, q1, a1, a2, a3, l_12, l_20, l_30, l_40, l_50, l_51, l_60, l_70, l_71, l_11]
theorem c_as1 (r : Nat) (hA : AC L b1 b2 kd m a l M) (hk : kd ≤ 6) (hl : l.length + 4 ≤ 20) : ∃ M', f_X0_doAsks (r + 2) 65 (nI 1) x M = some (cnV kd m a x * nI 2, M') ∧ AC L b1 b2 kd m a (l ++ (11 :: cnB kd)) M' ∧ Fr QC M M' := by
  have hG := hA.1
  have hG1 := hA.1
  have hT1 := hA.2.1
  obtain ⟨-, -, a1, a2, a3, -⟩ := id hA
  have ab := c_above hG1 hT1 1 (by omega) (by omega)
  have ik := c_isk hG1 1 (by omega)
  obtain ⟨M2, q1, q2, q3⟩ := c_as0 (x := x) r hA hk (by first | omega | (simp only [List.length_append, List.length_cons, List.length_nil]; omega))
  obtain ⟨hG2, -, b1, b2, b3, -⟩ := id q2
  refine ⟨M2, ?_, q2, q3⟩
  rw [show r + 2 = r + 1 + 1 from rfl, s_as]
  simp (disch := first | assumption | omega) only [bd_X0_doAsks, f_X0_doAsks_c56, f_X0_doAsks_c47, f_X0_doAsks_c74, f_X0_doAsks_c70, f_X0_doAsks_c65, f_X0_doAsks_c88, f_X0_doAsks_c83, f_X0_doAsks_c106, f_X0_doAsks_c101, f_X0_doAsks_c128, f_X0_doAsks_c120, f_X0_doAsks_119, gt_65, l_of, n_ltT, n_ltF, n_leT, n_leF, n_eqT, n_eqF, n_neM, n_Mne, n_M0, n_Mlt, n_0leM, nI_clamp, x_in_nI, n_1, nI_add, x_at, x_bd_s, x_bv_s, ↓x_lt, decide_true, decide_false, Bool.and_self, Bool.true_and, Bool.and_true, if_true, if_false, ite_true, ite_false, ↓reduceIte, not_true_eq_false, not_false_eq_true, Nat.reduceAdd, Nat.reduceMul, Nat.reduceEqDiff, eq_self, true_and, and_true, false_and, and_false, Option.some.injEq, Prod.mk.injEq, l_0, l_1, l_2, l_3, l_4, l_5, l_6, l_7, l_8, l_9, l_10, l_100, l_160, ↓m_1, ↓m_2, ↓m_3, ↓m_4, ↓m_5, ↓m_6, ↓m_7, ab, ik, q1, a1, a2, a3, b1, b2, b3, l_12, l_20, l_30, l_40, l_50, l_51, l_60, l_70, l_71, l_11]
theorem c_as4 (r : Nat) (hA : AC L b1 b2 kd m a l M) (hk : kd ≤ 6) (hl : l.length + 4 ≤ 20) : ∃ M', f_X0_doAsks (r + 2) 65 (nI 4) x M = some (cnV kd m a x * nI 2, M') ∧ AC L b1 b2 kd m a (l ++ (11 :: cnB kd)) M' ∧ Fr QC M M' := by
  have hG := hA.1
  have hG1 := hA.1
  have hT1 := hA.2.1
  obtain ⟨-, -, a1, a2, a3, -⟩ := id hA
  have ab := c_above hG1 hT1 4 (by omega) (by omega)
  have ik := c_isk hG1 4 (by omega)
  obtain ⟨M2, q1, q2, q3⟩ := c_as0 (x := x) r hA hk (by first | omega | (simp only [List.length_append, List.length_cons, List.length_nil]; omega))
  obtain ⟨hG2, -, b1, b2, b3, -⟩ := id q2
  refine ⟨M2, ?_, q2, q3⟩
  rw [show r + 2 = r + 1 + 1 from rfl, s_as]
  simp (disch := first | assumption | omega) only [bd_X0_doAsks, f_X0_doAsks_c56, f_X0_doAsks_c47, f_X0_doAsks_c74, f_X0_doAsks_c70, f_X0_doAsks_c65, f_X0_doAsks_c88, f_X0_doAsks_c83, f_X0_doAsks_c106, f_X0_doAsks_c101, f_X0_doAsks_c128, f_X0_doAsks_c120, f_X0_doAsks_119, gt_65, l_of, n_ltT, n_ltF, n_leT, n_leF, n_eqT, n_eqF, n_neM, n_Mne, n_M0, n_Mlt, n_0leM, nI_clamp, x_in_nI, n_1, nI_add, x_at, x_bd_s, x_bv_s, ↓x_lt, decide_true, decide_false, Bool.and_self, Bool.true_and, Bool.and_true, if_true, if_false, ite_true, ite_false, ↓reduceIte, not_true_eq_false, not_false_eq_true, Nat.reduceAdd, Nat.reduceMul, Nat.reduceEqDiff, eq_self, true_and, and_true, false_and, and_false, Option.some.injEq, Prod.mk.injEq, l_0, l_1, l_2, l_3, l_4, l_5, l_6, l_7, l_8, l_9, l_10, l_100, l_160, ↓m_1, ↓m_2, ↓m_3, ↓m_4, ↓m_5, ↓m_6, ↓m_7, ab, ik, q1, a1, a2, a3, b1, b2, b3, l_12, l_20, l_30, l_40, l_50, l_51, l_60, l_70, l_71, l_11]
theorem c_as5 (r : Nat) (hA : AC L b1 b2 kd m a l M) (hk : kd ≤ 6) (hl : l.length + 4 ≤ 20) : ∃ M', f_X0_doAsks (r + 3) 65 (nI 5) x M = some (cnV kd m a x * nI 2, M') ∧ AC L b1 b2 kd m a (l ++ (11 :: cnB kd)) M' ∧ Fr QC M M' := by
  have hG := hA.1
  have hG1 := hA.1
  have hT1 := hA.2.1
  obtain ⟨-, -, a1, a2, a3, -⟩ := id hA
  have ab := c_above hG1 hT1 5 (by omega) (by omega)
  have ik := c_isk hG1 5 (by omega)
  obtain ⟨M2, q1, q2, q3⟩ := c_as1 (x := x) r hA hk (by first | omega | (simp only [List.length_append, List.length_cons, List.length_nil]; omega))
  obtain ⟨hG2, -, b1, b2, b3, -⟩ := id q2
  refine ⟨M2, ?_, q2, q3⟩
  rw [show r + 3 = r + 2 + 1 from rfl, s_as]
  simp (disch := first | assumption | omega) only [bd_X0_doAsks, f_X0_doAsks_c56, f_X0_doAsks_c47, f_X0_doAsks_c74, f_X0_doAsks_c70, f_X0_doAsks_c65, f_X0_doAsks_c88, f_X0_doAsks_c83, f_X0_doAsks_c106, f_X0_doAsks_c101, f_X0_doAsks_c128, f_X0_doAsks_c120, f_X0_doAsks_119, gt_65, l_of, n_ltT, n_ltF, n_leT, n_leF, n_eqT, n_eqF, n_neM, n_Mne, n_M0, n_Mlt, n_0leM, nI_clamp, x_in_nI, n_1, nI_add, x_at, x_bd_s, x_bv_s, ↓x_lt, decide_true, decide_false, Bool.and_self, Bool.true_and, Bool.and_true, if_true, if_false, ite_true, ite_false, ↓reduceIte, not_true_eq_false, not_false_eq_true, Nat.reduceAdd, Nat.reduceMul, Nat.reduceEqDiff, eq_self, true_and, and_true, false_and, and_false, Option.some.injEq, Prod.mk.injEq, l_0, l_1, l_2, l_3, l_4, l_5, l_6, l_7, l_8, l_9, l_10, l_100, l_160, ↓m_1, ↓m_2, ↓m_3, ↓m_4, ↓m_5, ↓m_6, ↓m_7, ab, ik, q1, a1, a2, a3, b1, b2, b3, l_12, l_20, l_30, l_40, l_50, l_51, l_60, l_70, l_71, l_11]
theorem c_as2 (r : Nat) (hA : AC L b1 b2 kd m a l M) (hk : kd ≤ 6) (hl : l.length + 5 ≤ 20) : ∃ M', f_X0_doAsks (r + 2) 65 (nI 2) x M = some (cnV kd m a x * nI 2 * nI 3, M') ∧ AC L b1 b2 kd m a (l ++ (30 :: 11 :: cnB kd)) M' ∧ Fr QC M M' := by
  have hG := hA.1
  obtain ⟨M1, p1, p2, p3⟩ := c_begin hA (by omega) 30
  have hG1 := p2.1
  have hT1 := p2.2.1
  obtain ⟨-, -, a1, a2, a3, -⟩ := id p2
  have ab := c_above hG1 hT1 2 (by omega) (by omega)
  have ik := c_isk hG1 2 (by omega)
  obtain ⟨M2, q1, q2, q3⟩ := c_as0 (x := x) r p2 hk (by first | omega | (simp only [List.length_append, List.length_cons, List.length_nil]; omega))
  obtain ⟨hG2, -, b1, b2, b3, -⟩ := id q2
  refine ⟨M2, ?_, by simpa only [List.append_assoc, List.cons_append, List.nil_append] using q2, (p3.tr q3)⟩
  rw [show r + 2 = r + 1 + 1 from rfl, s_as]
  simp (disch := first | assumption | omega) only [bd_X0_doAsks, f_X0_doAsks_c56, f_X0_doAsks_c47, f_X0_doAsks_c74, f_X0_doAsks_c70, f_X0_doAsks_c65, f_X0_doAsks_c88, f_X0_doAsks_c83, f_X0_doAsks_c106, f_X0_doAsks_c101, f_X0_doAsks_c128, f_X0_doAsks_c120, f_X0_doAsks_119, gt_65, l_of, n_ltT, n_ltF, n_leT, n_leF, n_eqT, n_eqF, n_neM, n_Mne, n_M0, n_Mlt, n_0leM, nI_clamp, x_in_nI, n_1, nI_add, x_at, x_bd_s, x_bv_s, ↓x_lt, decide_true, decide_false, Bool.and_self, Bool.true_and, Bool.and_true, if_true, if_false, ite_true, ite_false, ↓reduceIte, not_true_eq_false, not_false_eq_true, Nat.reduceAdd, Nat.reduceMul, Nat.reduceEqDiff, eq_self, true_and, and_true, false_and, and_false, Option.some.injEq, Prod.mk.injEq, l_0, l_1, l_2, l_3, l_4, l_5, l_6, l_7, l_8, l_9, l_10, l_100, l_160, ↓m_1, ↓m_2, ↓m_3, ↓m_4, ↓m_5, ↓m_6, ↓m_7, p1, ab, ik, q1, a1, a2, a3, b1, b2, b3, l_12, l_20, l_30, l_40, l_50, l_51, l_60, l_70, l_71, l_11]
theorem c_as3 (r : Nat) (hA : AC L b1 b2 kd m a l M) (hk : kd ≤ 6) (hl : l.length + 6 ≤ 20) : ∃ M', f_X0_doAsks (r + 3) 65 (nI 3) x M = some (cnV kd m a (x + nI 1) * nI 2 * nI 3, M') ∧ AC L b1 b2 kd m a (l ++ (40 :: 30 :: 11 :: cnB kd)) M' ∧ Fr QC M M' := by
  have hG := hA.1
  obtain ⟨M1, p1, p2, p3⟩ := c_begin hA (by omega) 40
  have hG1 := p2.1
  have hT1 := p2.2.1
  obtain ⟨-, -, a1, a2, a3, -⟩ := id p2
  have ab := c_above hG1 hT1 3 (by omega) (by omega)
  have ik := c_isk hG1 3 (by omega)
  obtain ⟨M2, q1, q2, q3⟩ := c_as2 (x := x + nI 1) r p2 hk (by first | omega | (simp only [List.length_append, List.length_cons, List.length_nil]; omega))
  obtain ⟨hG2, -, b1, b2, b3, -⟩ := id q2
  refine ⟨M2, ?_, by simpa only [List.append_assoc, List.cons_append, List.nil_append] using q2, (p3.tr q3)⟩
  rw [show r + 3 = r + 2 + 1 from rfl, s_as]
  simp (disch := first | assumption | omega) only [bd_X0_doAsks, f_X0_doAsks_c56, f_X0_doAsks_c47, f_X0_doAsks_c74, f_X0_doAsks_c70, f_X0_doAsks_c65, f_X0_doAsks_c88, f_X0_doAsks_c83, f_X0_doAsks_c106, f_X0_doAsks_c101, f_X0_doAsks_c128, f_X0_doAsks_c120, f_X0_doAsks_119, gt_65, l_of, n_ltT, n_ltF, n_leT, n_leF, n_eqT, n_eqF, n_neM, n_Mne, n_M0, n_Mlt, n_0leM, nI_clamp, x_in_nI, n_1, nI_add, x_at, x_bd_s, x_bv_s, ↓x_lt, decide_true, decide_false, Bool.and_self, Bool.true_and, Bool.and_true, if_true, if_false, ite_true, ite_false, ↓reduceIte, not_true_eq_false, not_false_eq_true, Nat.reduceAdd, Nat.reduceMul, Nat.reduceEqDiff, eq_self, true_and, and_true, false_and, and_false, Option.some.injEq, Prod.mk.injEq, l_0, l_1, l_2, l_3, l_4, l_5, l_6, l_7, l_8, l_9, l_10, l_100, l_160, ↓m_1, ↓m_2, ↓m_3, ↓m_4, ↓m_5, ↓m_6, ↓m_7, p1, ab, ik, q1, a1, a2, a3, b1, b2, b3, l_12, l_20, l_30, l_40, l_50, l_51, l_60, l_70, l_71, l_11]
theorem c_as6 (r : Nat) (hA : AC L b1 b2 kd m a l M) (hk : kd ≤ 6) (hl : l.length + 5 ≤ 20) : ∃ M', f_X0_doAsks (r + 3) 65 (nI 6) x M = some (cnV kd m a (x - nI a) * nI 2, M') ∧ AC L b1 b2 kd m a (l ++ (71 :: 11 :: cnB kd)) M' ∧ Fr QC M M' := by
  have hG := hA.1
  obtain ⟨M1, p1, p2, p3⟩ := c_begin hA (by omega) 71
  have hG1 := p2.1
  have hT1 := p2.2.1
  obtain ⟨-, -, a1, a2, a3, -⟩ := id p2
  have ab := c_above hG1 hT1 6 (by omega) (by omega)
  have ik := c_isk hG1 6 (by omega)
  obtain ⟨M2, q1, q2, q3⟩ := c_as4 (x := x - nI a) r p2 hk (by first | omega | (simp only [List.length_append, List.length_cons, List.length_nil]; omega))
  obtain ⟨hG2, -, b1, b2, b3, -⟩ := id q2
  refine ⟨M2, ?_, by simpa only [List.append_assoc, List.cons_append, List.nil_append] using q2, (p3.tr q3)⟩
  rw [show r + 3 = r + 2 + 1 from rfl, s_as]
  simp (disch := first | assumption | omega) only [bd_X0_doAsks, f_X0_doAsks_c56, f_X0_doAsks_c47, f_X0_doAsks_c74, f_X0_doAsks_c70, f_X0_doAsks_c65, f_X0_doAsks_c88, f_X0_doAsks_c83, f_X0_doAsks_c106, f_X0_doAsks_c101, f_X0_doAsks_c128, f_X0_doAsks_c120, f_X0_doAsks_119, gt_65, l_of, n_ltT, n_ltF, n_leT, n_leF, n_eqT, n_eqF, n_neM, n_Mne, n_M0, n_Mlt, n_0leM, nI_clamp, x_in_nI, n_1, nI_add, x_at, x_bd_s, x_bv_s, ↓x_lt, decide_true, decide_false, Bool.and_self, Bool.true_and, Bool.and_true, if_true, if_false, ite_true, ite_false, ↓reduceIte, not_true_eq_false, not_false_eq_true, Nat.reduceAdd, Nat.reduceMul, Nat.reduceEqDiff, eq_self, true_and, and_true, false_and, and_false, Option.some.injEq, Prod.mk.injEq, l_0, l_1, l_2, l_3, l_4, l_5, l_6, l_7, l_8, l_9, l_10, l_100, l_160, ↓m_1, ↓m_2, ↓m_3, ↓m_4, ↓m_5, ↓m_6, ↓m_7, p1, ab, ik, q1, a1, a2, a3, b1, b2, b3, l_12, l_20, l_30, l_40, l_50, l_51, l_60, l_70, l_71, l_11]
theorem c_ask8 (hA : AC L b1 b2 kd m a l M) (hk : kd ≤ 6) (hl : l.length + 7 ≤ 20) : ∃ M', f_X0_doAsks 8 65 (nI kd) x M = some (asV kd m a x, M') ∧ AC L b1 b2 kd m a (l ++ asB kd) M' ∧ Fr QC M M' := by
  rcases (by omega : kd = 0 ∨ kd = 1 ∨ kd = 2 ∨ kd = 3 ∨ kd = 4 ∨ kd = 5 ∨ kd = 6) with rfl | rfl | rfl | rfl | rfl | rfl | rfl
  · exact c_as0 7 hA hk (by omega)
  · exact c_as1 6 hA hk (by omega)
  · exact c_as2 6 hA hk (by omega)
  · exact c_as3 5 hA hk (by omega)
  · exact c_as4 6 hA hk (by omega)
  · exact c_as5 5 hA hk (by omega)
  · exact c_as6 5 hA hk (by omega)
theorem cnB_len (kd : Nat) : (cnB kd).length ≤ 3 := by
  unfold cnB; repeat' split
  all_goals decide
theorem asB_len (kd : Nat) : (asB kd).length ≤ 6 := by
  have := cnB_len kd
  unfold asB
  rw [List.length_append]
  repeat' split
  all_goals simp only [List.length_cons, List.length_nil]; omega
theorem c_en0 (r : Nat) (hA : AC L b1 b2 kd m a l M) (hk : kd ≤ 6) (hl : l.length + 10 ≤ 20) : ∃ M', f_X0_doEnds (r + 1) 65 (nI 0) x M = some (asV kd m a x ^^^ cnV kd m a (x - nI a), M') ∧ AC L b1 b2 kd m a (l ++ (12 :: (asB kd ++ cnB kd))) M' ∧ Fr QC M M' := by
  have hG := hA.1
  obtain ⟨M1, p1, p2, p3⟩ := c_begin hA (by omega) 12
  obtain ⟨-, -, a1, a2, a3, -⟩ := id p2
  have hG1 := p2.1
  obtain ⟨M2, q1, q2, q3⟩ := c_ask8 (x := x) p2 hk (by first | omega | (simp only [List.length_append, List.length_cons, List.length_nil]; omega))
  obtain ⟨-, -, b1, b2, b3, -⟩ := id q2
  have hG2 := q2.1
  obtain ⟨M3, r1, r2, r3⟩ := c_cnt8 (x := x - nI a) q2 hk (by have := asB_len kd; simp only [List.length_append, List.length_cons, List.length_nil]; omega)
  refine ⟨M3, ?_, by simpa only [List.append_assoc, List.cons_append, List.nil_append] using r2, (p3.tr q3).tr r3⟩
  rw [s_en]
  simp (disch := first | assumption | omega) only [bd_X0_doEnds, f_X0_doEnds_c39, f_X0_doEnds_c56, f_X0_doEnds_c51, f_X0_doEnds_c77, f_X0_doEnds_c73, f_X0_doEnds_c68, f_X0_doEnds_c92, f_X0_doEnds_c84, f_X0_endCounter_c22, f_X0_endCounter_c6, f_X0_endCounter, gt_65, l_of, n_ltT, n_ltF, n_leT, n_leF, n_eqT, n_eqF, n_neM, n_Mne, n_M0, n_Mlt, n_0leM, nI_clamp, x_in_nI, n_1, nI_add, x_at, x_bd_s, x_bv_s, ↓x_lt, decide_true, decide_false, Bool.and_self, Bool.true_and, Bool.and_true, if_true, if_false, ite_true, ite_false, ↓reduceIte, not_true_eq_false, not_false_eq_true, Nat.reduceAdd, Nat.reduceMul, Nat.reduceEqDiff, eq_self, true_and, and_true, false_and, and_false, Option.some.injEq, Prod.mk.injEq, l_0, l_1, l_2, l_3, l_4, l_5, l_6, l_7, l_8, l_9, l_10, l_100, l_160, ↓m_1, ↓m_2, ↓m_3, ↓m_4, ↓m_5, ↓m_6, ↓m_7, p1, q1, r1, a1, a2, a3, b1, b2, b3, l_12, l_20, l_30, l_40, l_50, l_51, l_60, l_70, l_71, l_11]
theorem c_en1 (r : Nat) (hA : AC L b1 b2 kd m a l M) (hk : kd ≤ 6) (hl : l.length + 10 ≤ 20) : ∃ M', f_X0_doEnds (r + 2) 65 (nI 1) x M = some (asV kd m a x ^^^ cnV kd m a (x - nI a), M') ∧ AC L b1 b2 kd m a (l ++ (12 :: (asB kd ++ cnB kd))) M' ∧ Fr QC M M' := by
  have hG := hA.1
  have hG1 := hA.1
  have hT1 := hA.2.1
  obtain ⟨-, -, a1, a2, a3, -⟩ := id hA
  have ab := c_above hG1 hT1 1 (by omega) (by omega)
  have ik := c_isk hG1 1 (by omega)
  obtain ⟨M2, q1, q2, q3⟩ := c_en0 (x := x) r hA hk (by first | omega | (simp only [List.length_append, List.length_cons, List.length_nil]; omega))
  obtain ⟨hG2, -, b1, b2, b3, -⟩ := id q2
  refine ⟨M2, ?_, q2, q3⟩
  rw [show r + 2 = r + 1 + 1 from rfl, s_en]
  simp (disch := first | assumption | omega) only [bd_X0_doEnds, f_X0_doEnds_c39, f_X0_doEnds_c56, f_X0_doEnds_c51, f_X0_doEnds_c77, f_X0_doEnds_c73, f_X0_doEnds_c68, f_X0_doEnds_c92, f_X0_doEnds_c84, gt_65, l_of, n_ltT, n_ltF, n_leT, n_leF, n_eqT, n_eqF, n_neM, n_Mne, n_M0, n_Mlt, n_0leM, nI_clamp, x_in_nI, n_1, nI_add, x_at, x_bd_s, x_bv_s, ↓x_lt, decide_true, decide_false, Bool.and_self, Bool.true_and, Bool.and_true, if_true, if_false, ite_true, ite_false, ↓reduceIte, not_true_eq_false, not_false_eq_true, Nat.reduceAdd, Nat.reduceMul, Nat.reduceEqDiff, eq_self, true_and, and_true, false_and, and_false, Option.some.injEq, Prod.mk.injEq, l_0, l_1, l_2, l_3, l_4, l_5, l_6, l_7, l_8, l_9, l_10, l_100, l_160, ↓m_1, ↓m_2, ↓m_3, ↓m_4, ↓m_5, ↓m_6, ↓m_7, ab, ik, q1, a1, a2, a3, b1, b2, b3, l_12, l_20, l_30, l_40, l_50, l_51, l_60, l_70, l_71, l_11]
theorem c_en2 (r : Nat) (hA : AC L b1 b2 kd m a l M) (hk : kd ≤ 6) (hl : l.length + 10 ≤ 20) : ∃ M', f_X0_doEnds (r + 2) 65 (nI 2) x M = some (asV kd m a x ^^^ cnV kd m a (x - nI a), M') ∧ AC L b1 b2 kd m a (l ++ (12 :: (asB kd ++ cnB kd))) M' ∧ Fr QC M M' := by
  have hG := hA.1
  have hG1 := hA.1
  have hT1 := hA.2.1
  obtain ⟨-, -, a1, a2, a3, -⟩ := id hA
  have ab := c_above hG1 hT1 2 (by omega) (by omega)
  have ik := c_isk hG1 2 (by omega)
  obtain ⟨M2, q1, q2, q3⟩ := c_en0 (x := x) r hA hk (by first | omega | (simp only [List.length_append, List.length_cons, List.length_nil]; omega))
  obtain ⟨hG2, -, b1, b2, b3, -⟩ := id q2
  refine ⟨M2, ?_, q2, q3⟩
  rw [show r + 2 = r + 1 + 1 from rfl, s_en]
  simp (disch := first | assumption | omega) only [bd_X0_doEnds, f_X0_doEnds_c39, f_X0_doEnds_c56, f_X0_doEnds_c51, f_X0_doEnds_c77, f_X0_doEnds_c73, f_X0_doEnds_c68, f_X0_doEnds_c92, f_X0_doEnds_c84, gt_65, l_of, n_ltT, n_ltF, n_leT, n_leF, n_eqT, n_eqF, n_neM, n_Mne, n_M0, n_Mlt, n_0leM, nI_clamp, x_in_nI, n_1, nI_add, x_at, x_bd_s, x_bv_s, ↓x_lt, decide_true, decide_false, Bool.and_self, Bool.true_and, Bool.and_true, if_true, if_false, ite_true, ite_false, ↓reduceIte, not_true_eq_false, not_false_eq_true, Nat.reduceAdd, Nat.reduceMul, Nat.reduceEqDiff, eq_self, true_and, and_true, false_and, and_false, Option.some.injEq, Prod.mk.injEq, l_0, l_1, l_2, l_3, l_4, l_5, l_6, l_7, l_8, l_9, l_10, l_100, l_160, ↓m_1, ↓m_2, ↓m_3, ↓m_4, ↓m_5, ↓m_6, ↓m_7, ab, ik, q1, a1, a2, a3, b1, b2, b3, l_12, l_20, l_30, l_40, l_50, l_51, l_60, l_70, l_71, l_11]
theorem c_en3 (r : Nat) (hA : AC L b1 b2 kd m a l M) (hk : kd ≤ 6) (hl : l.length + 10 ≤ 20) : ∃ M', f_X0_doEnds (r + 3) 65 (nI 3) x M = some (asV kd m a x ^^^ cnV kd m a (x - nI a), M') ∧ AC L b1 b2 kd m a (l ++ (12 :: (asB kd ++ cnB kd))) M' ∧ Fr QC M M' := by
  have hG := hA.1
  have hG1 := hA.1
  have hT1 := hA.2.1
  obtain ⟨-, -, a1, a2, a3, -⟩ := id hA
  have ab := c_above hG1 hT1 3 (by omega) (by omega)
  have ik := c_isk hG1 3 (by omega)
  obtain ⟨M2, q1, q2, q3⟩ := c_en2 (x := x) r hA hk (by first | omega | (simp only [List.length_append, List.length_cons, List.length_nil]; omega))
  obtain ⟨hG2, -, b1, b2, b3, -⟩ := id q2
  refine ⟨M2, ?_, q2, q3⟩
  rw [show r + 3 = r + 2 + 1 from rfl, s_en]
  simp (disch := first | assumption | omega) only [bd_X0_doEnds, f_X0_doEnds_c39, f_X0_doEnds_c56, f_X0_doEnds_c51, f_X0_doEnds_c77, f_X0_doEnds_c73, f_X0_doEnds_c68, f_X0_doEnds_c92, f_X0_doEnds_c84, gt_65, l_of, n_ltT, n_ltF, n_leT, n_leF, n_eqT, n_eqF, n_neM, n_Mne, n_M0, n_Mlt, n_0leM, nI_clamp, x_in_nI, n_1, nI_add, x_at, x_bd_s, x_bv_s, ↓x_lt, decide_true, decide_false, Bool.and_self, Bool.true_and, Bool.and_true, if_true, if_false, ite_true, ite_false, ↓reduceIte, not_true_eq_false, not_false_eq_true, Nat.reduceAdd, Nat.reduceMul, Nat.reduceEqDiff, eq_self, true_and, and_true, false_and, and_false, Option.some.injEq, Prod.mk.injEq, l_0, l_1, l_2, l_3, l_4, l_5, l_6, l_7, l_8, l_9, l_10, l_100, l_160, ↓m_1, ↓m_2, ↓m_3, ↓m_4, ↓m_5, ↓m_6, ↓m_7, ab, ik, q1, a1, a2, a3, b1, b2, b3, l_12, l_20, l_30, l_40, l_50, l_51, l_60, l_70, l_71, l_11]
theorem c_en4 (r : Nat) (hA : AC L b1 b2 kd m a l M) (hk : kd ≤ 6) (hl : l.length + 11 ≤ 20) : ∃ M', f_X0_doEnds (r + 2) 65 (nI 4) x M = some (-(asV kd m a x ^^^ cnV kd m a (x - nI a)), M') ∧ AC L b1 b2 kd m a (l ++ (50 :: 12 :: (asB kd ++ cnB kd))) M' ∧ Fr QC M M' := by
  have hG := hA.1
  obtain ⟨M1, p1, p2, p3⟩ := c_begin hA (by omega) 50
  have hG1 := p2.1
  have hT1 := p2.2.1
  obtain ⟨-, -, a1, a2, a3, -⟩ := id p2
  have ab := c_above hG1 hT1 4 (by omega) (by omega)
  have ik := c_isk hG1 4 (by omega)
  obtain ⟨M2, q1, q2, q3⟩ := c_en0 (x := x) r p2 hk (by first | omega | (simp only [List.length_append, List.length_cons, List.length_nil]; omega))
  obtain ⟨hG2, -, b1, b2, b3, -⟩ := id q2
  refine ⟨M2, ?_, by simpa only [List.append_assoc, List.cons_append, List.nil_append] using q2, (p3.tr q3)⟩
  rw [show r + 2 = r + 1 + 1 from rfl, s_en]
  simp (disch := first | assumption | omega) only [bd_X0_doEnds, f_X0_doEnds_c39, f_X0_doEnds_c56, f_X0_doEnds_c51, f_X0_doEnds_c77, f_X0_doEnds_c73, f_X0_doEnds_c68, f_X0_doEnds_c92, f_X0_doEnds_c84, gt_65, l_of, n_ltT, n_ltF, n_leT, n_leF, n_eqT, n_eqF, n_neM, n_Mne, n_M0, n_Mlt, n_0leM, nI_clamp, x_in_nI, n_1, nI_add, x_at, x_bd_s, x_bv_s, ↓x_lt, decide_true, decide_false, Bool.and_self, Bool.true_and, Bool.and_true, if_true, if_false, ite_true, ite_false, ↓reduceIte, not_true_eq_false, not_false_eq_true, Nat.reduceAdd, Nat.reduceMul, Nat.reduceEqDiff, eq_self, true_and, and_true, false_and, and_false, Option.some.injEq, Prod.mk.injEq, l_0, l_1, l_2, l_3, l_4, l_5, l_6, l_7, l_8, l_9, l_10, l_100, l_160, ↓m_1, ↓m_2, ↓m_3, ↓m_4, ↓m_5, ↓m_6, ↓m_7, p1, ab, ik, q1, a1, a2, a3, b1, b2, b3, l_12, l_20, l_30, l_40, l_50, l_51, l_60, l_70, l_71, l_11]
theorem c_en5 (r : Nat) (hA : AC L b1 b2 kd m a l M) (hk : kd ≤ 6) (hl : l.length + 11 ≤ 20) : ∃ M', f_X0_doEnds (r + 3) 65 (nI 5) x M = some (asV kd m a x ^^^ cnV kd m a (x - nI a) ^^^ nI 5, M') ∧ AC L b1 b2 kd m a (l ++ (60 :: 12 :: (asB kd ++ cnB kd))) M' ∧ Fr QC M M' := by
  have hG := hA.1
  obtain ⟨M1, p1, p2, p3⟩ := c_begin hA (by omega) 60
  have hG1 := p2.1
  have hT1 := p2.2.1
  obtain ⟨-, -, a1, a2, a3, -⟩ := id p2
  have ab := c_above hG1 hT1 5 (by omega) (by omega)
  have ik := c_isk hG1 5 (by omega)
  obtain ⟨M2, q1, q2, q3⟩ := c_en1 (x := x) r p2 hk (by first | omega | (simp only [List.length_append, List.length_cons, List.length_nil]; omega))
  obtain ⟨hG2, -, b1, b2, b3, -⟩ := id q2
  refine ⟨M2, ?_, by simpa only [List.append_assoc, List.cons_append, List.nil_append] using q2, (p3.tr q3)⟩
  rw [show r + 3 = r + 2 + 1 from rfl, s_en]
  simp (disch := first | assumption | omega) only [bd_X0_doEnds, f_X0_doEnds_c39, f_X0_doEnds_c56, f_X0_doEnds_c51, f_X0_doEnds_c77, f_X0_doEnds_c73, f_X0_doEnds_c68, f_X0_doEnds_c92, f_X0_doEnds_c84, gt_65, l_of, n_ltT, n_ltF, n_leT, n_leF, n_eqT, n_eqF, n_neM, n_Mne, n_M0, n_Mlt, n_0leM, nI_clamp, x_in_nI, n_1, nI_add, x_at, x_bd_s, x_bv_s, ↓x_lt, decide_true, decide_false, Bool.and_self, Bool.true_and, Bool.and_true, if_true, if_false, ite_true, ite_false, ↓reduceIte, not_true_eq_false, not_false_eq_true, Nat.reduceAdd, Nat.reduceMul, Nat.reduceEqDiff, eq_self, true_and, and_true, false_and, and_false, Option.some.injEq, Prod.mk.injEq, l_0, l_1, l_2, l_3, l_4, l_5, l_6, l_7, l_8, l_9, l_10, l_100, l_160, ↓m_1, ↓m_2, ↓m_3, ↓m_4, ↓m_5, ↓m_6, ↓m_7, p1, ab, ik, q1, a1, a2, a3, b1, b2, b3, l_12, l_20, l_30, l_40, l_50, l_51, l_60, l_70, l_71, l_11]
theorem c_en6 (r : Nat) (hA : AC L b1 b2 kd m a l M) (hk : kd ≤ 6) (hl : l.length + 11 ≤ 20) : ∃ M', f_X0_doEnds (r + 3) 65 (nI 6) x M = some (-(asV kd m a x ^^^ cnV kd m a (x - nI a)), M') ∧ AC L b1 b2 kd m a (l ++ (50 :: 12 :: (asB kd ++ cnB kd))) M' ∧ Fr QC M M' := by
  have hG := hA.1
  have hG1 := hA.1
  have hT1 := hA.2.1
  obtain ⟨-, -, a1, a2, a3, -⟩ := id hA
  have ab := c_above hG1 hT1 6 (by omega) (by omega)
  have ik := c_isk hG1 6 (by omega)
  obtain ⟨M2, q1, q2, q3⟩ := c_en4 (x := x) r hA hk (by first | omega | (simp only [List.length_append, List.length_cons, List.length_nil]; omega))
  obtain ⟨hG2, -, b1, b2, b3, -⟩ := id q2
  refine ⟨M2, ?_, q2, q3⟩
  rw [show r + 3 = r + 2 + 1 from rfl, s_en]
  simp (disch := first | assumption | omega) only [bd_X0_doEnds, f_X0_doEnds_c39, f_X0_doEnds_c56, f_X0_doEnds_c51, f_X0_doEnds_c77, f_X0_doEnds_c73, f_X0_doEnds_c68, f_X0_doEnds_c92, f_X0_doEnds_c84, gt_65, l_of, n_ltT, n_ltF, n_leT, n_leF, n_eqT, n_eqF, n_neM, n_Mne, n_M0, n_Mlt, n_0leM, nI_clamp, x_in_nI, n_1, nI_add, x_at, x_bd_s, x_bv_s, ↓x_lt, decide_true, decide_false, Bool.and_self, Bool.true_and, Bool.and_true, if_true, if_false, ite_true, ite_false, ↓reduceIte, not_true_eq_false, not_false_eq_true, Nat.reduceAdd, Nat.reduceMul, Nat.reduceEqDiff, eq_self, true_and, and_true, false_and, and_false, Option.some.injEq, Prod.mk.injEq, l_0, l_1, l_2, l_3, l_4, l_5, l_6, l_7, l_8, l_9, l_10, l_100, l_160, ↓m_1, ↓m_2, ↓m_3, ↓m_4, ↓m_5, ↓m_6, ↓m_7, ab, ik, q1, a1, a2, a3, b1, b2, b3, l_12, l_20, l_30, l_40, l_50, l_51, l_60, l_70, l_71, l_11]
theorem c_end8 (hA : AC L b1 b2 kd m a l M) (hk : kd ≤ 6) (hl : l.length + 14 ≤ 20) : ∃ M', f_X0_doEnds 8 65 (nI kd) x M = some (enV kd m a x, M') ∧ AC L b1 b2 kd m a (l ++ enB kd) M' ∧ Fr QC M M' := by
  have e : ∀ k, enB k = (if k = 4 ∨ k = 6 then [50, 12] else if k = 5 then [60, 12] else [12]) ++ (asB k ++ cnB k) := fun k => by unfold enB; rw [List.append_assoc]
  rw [e]
  rcases (by omega : kd = 0 ∨ kd = 1 ∨ kd = 2 ∨ kd = 3 ∨ kd = 4 ∨ kd = 5 ∨ kd = 6) with rfl | rfl | rfl | rfl | rfl | rfl | rfl
  · exact c_en0 7 hA hk (by omega)
  · exact c_en1 6 hA hk (by omega)
  · exact c_en2 6 hA hk (by omega)
  · exact c_en3 5 hA hk (by omega)
  · exact c_en4 6 hA hk (by omega)
  · exact c_en5 5 hA hk (by omega)
  · exact c_en6 5 hA hk (by omega)
theorem m_cnt (hA : AM L b1 b2 kd m a l M) (hk : kd ≤ 6) (hm : m < 6) (ha : a ≤ 9) (hl : l.length + 3 ≤ 20) : ∃ M', f_X9_counting 83 (nI m) x M = some (cnV kd m a x, M') ∧ AM L b1 b2 kd m a (l ++ cnB kd) M' ∧ Fr QM M M' := by
  have hG := hA.1
  have e1 := hA.2.1
  have e2 := hA.2.2.1
  rcases (by omega : kd = 0 ∨ kd = 1 ∨ kd = 2 ∨ kd = 3 ∨ kd = 4 ∨ kd = 5 ∨ kd = 6) with rfl | rfl | rfl | rfl | rfl | rfl | rfl
  · obtain ⟨N0, s0, d0, y0⟩ := m_body hA (by first | omega | (simp only [List.length_append, List.length_cons, List.length_nil]; omega)) 10
    have hG0 := d0.1
    have f0 := d0.2.2.1
    refine ⟨N0, ?_, show AM L b1 b2 0 m a (l ++ [10]) N0 by simpa only [List.append_assoc, List.cons_append, List.nil_append] using d0, y0⟩
    simp (disch := first | assumption | omega) only [f_X9_counting_101, f_X9_counting_95, f_X9_counting_84, f_X9_counting_73, f_X9_counting_c55, f_X9_counting_52, f_X9_counting_c49, f_X9_counting_46, f_X9_counting_36, f_X9_counting_c33, f_X9_counting_30, f_X9_counting_19, f_X9_counting_c16, f_X9_counting, gt_83, gr_83_10, gr_83_11, gt_85, gl_85, gt_86, gl_86, l_of, n_ltT, n_ltF, n_leT, n_leF, n_eqT, n_eqF, n_neM, n_Mne, n_M0, n_Mlt, n_0leM, nI_clamp, x_in_nI, n_1, nI_add, x_at, x_bd_s, x_bv_s, ↓x_lt, decide_true, decide_false, Bool.and_self, Bool.true_and, Bool.and_true, if_true, if_false, ite_true, ite_false, ↓reduceIte, not_true_eq_false, not_false_eq_true, Nat.reduceAdd, Nat.reduceMul, Nat.reduceEqDiff, eq_self, true_and, and_true, false_and, and_false, Option.some.injEq, Prod.mk.injEq, l_0, l_1, l_2, l_3, l_4, l_5, l_6, l_7, l_8, l_9, l_10, l_100, l_160, ↓m_1, ↓m_2, ↓m_3, ↓m_4, ↓m_5, ↓m_6, ↓m_7, e1, e2, s0, f0, l_12, l_20, l_30, l_40, l_50, l_51, l_60, l_70, l_71, l_11, cnV, true_or, or_true, or_self]
  · obtain ⟨N0, s0, d0, y0⟩ := m_body hA (by first | omega | (simp only [List.length_append, List.length_cons, List.length_nil]; omega)) 20
    obtain ⟨N1, s1, d1, y1⟩ := m_body d0 (by first | omega | (simp only [List.length_append, List.length_cons, List.length_nil]; omega)) 10
    have hG0 := d0.1
    have f0 := d0.2.2.1
    have hG1 := d1.1
    have f1 := d1.2.2.1
    refine ⟨N1, ?_, show AM L b1 b2 1 m a (l ++ [20, 10]) N1 by simpa only [List.append_assoc, List.cons_append, List.nil_append] using d1, (y0.tr y1)⟩
    simp (disch := first | assumption | omega) only [f_X9_counting_101, f_X9_counting_95, f_X9_counting_84, f_X9_counting_73, f_X9_counting_c55, f_X9_counting_52, f_X9_counting_c49, f_X9_counting_46, f_X9_counting_36, f_X9_counting_c33, f_X9_counting_30, f_X9_counting_19, f_X9_counting_c16, f_X9_counting, gt_83, gr_83_10, gr_83_11, gt_85, gl_85, gt_86, gl_86, l_of, n_ltT, n_ltF, n_leT, n_leF, n_eqT, n_eqF, n_neM, n_Mne, n_M0, n_Mlt, n_0leM, nI_clamp, x_in_nI, n_1, nI_add, x_at, x_bd_s, x_bv_s, ↓x_lt, decide_true, decide_false, Bool.and_self, Bool.true_and, Bool.and_true, if_true, if_false, ite_true, ite_false, ↓reduceIte, not_true_eq_false, not_false_eq_true, Nat.reduceAdd, Nat.reduceMul, Nat.reduceEqDiff, eq_self, true_and, and_true, false_and, and_false, Option.some.injEq, Prod.mk.injEq, l_0, l_1, l_2, l_3, l_4, l_5, l_6, l_7, l_8, l_9, l_10, l_100, l_160, ↓m_1, ↓m_2, ↓m_3, ↓m_4, ↓m_5, ↓m_6, ↓m_7, e1, e2, s0, f0, s1, f1, l_12, l_20, l_30, l_40, l_50, l_51, l_60, l_70, l_71, l_11, cnV, true_or, or_true, or_self]
  · obtain ⟨N0, s0, d0, y0⟩ := m_body hA (by first | omega | (simp only [List.length_append, List.length_cons, List.length_nil]; omega)) 10
    have hG0 := d0.1
    have f0 := d0.2.2.1
    refine ⟨N0, ?_, show AM L b1 b2 2 m a (l ++ [10]) N0 by simpa only [List.append_assoc, List.cons_append, List.nil_append] using d0, y0⟩
    simp (disch := first | assumption | omega) only [f_X9_counting_101, f_X9_counting_95, f_X9_counting_84, f_X9_counting_73, f_X9_counting_c55, f_X9_counting_52, f_X9_counting_c49, f_X9_counting_46, f_X9_counting_36, f_X9_counting_c33, f_X9_counting_30, f_X9_counting_19, f_X9_counting_c16, f_X9_counting, gt_83, gr_83_10, gr_83_11, gt_85, gl_85, gt_86, gl_86, l_of, n_ltT, n_ltF, n_leT, n_leF, n_eqT, n_eqF, n_neM, n_Mne, n_M0, n_Mlt, n_0leM, nI_clamp, x_in_nI, n_1, nI_add, x_at, x_bd_s, x_bv_s, ↓x_lt, decide_true, decide_false, Bool.and_self, Bool.true_and, Bool.and_true, if_true, if_false, ite_true, ite_false, ↓reduceIte, not_true_eq_false, not_false_eq_true, Nat.reduceAdd, Nat.reduceMul, Nat.reduceEqDiff, eq_self, true_and, and_true, false_and, and_false, Option.some.injEq, Prod.mk.injEq, l_0, l_1, l_2, l_3, l_4, l_5, l_6, l_7, l_8, l_9, l_10, l_100, l_160, ↓m_1, ↓m_2, ↓m_3, ↓m_4, ↓m_5, ↓m_6, ↓m_7, e1, e2, s0, f0, l_12, l_20, l_30, l_40, l_50, l_51, l_60, l_70, l_71, l_11, cnV, true_or, or_true, or_self]
  · obtain ⟨N0, s0, d0, y0⟩ := m_body hA (by first | omega | (simp only [List.length_append, List.length_cons, List.length_nil]; omega)) 10
    have hG0 := d0.1
    have f0 := d0.2.2.1
    refine ⟨N0, ?_, show AM L b1 b2 3 m a (l ++ [10]) N0 by simpa only [List.append_assoc, List.cons_append, List.nil_append] using d0, y0⟩
    simp (disch := first | assumption | omega) only [f_X9_counting_101, f_X9_counting_95, f_X9_counting_84, f_X9_counting_73, f_X9_counting_c55, f_X9_counting_52, f_X9_counting_c49, f_X9_counting_46, f_X9_counting_36, f_X9_counting_c33, f_X9_counting_30, f_X9_counting_19, f_X9_counting_c16, f_X9_counting, gt_83, gr_83_10, gr_83_11, gt_85, gl_85, gt_86, gl_86, l_of, n_ltT, n_ltF, n_leT, n_leF, n_eqT, n_eqF, n_neM, n_Mne, n_M0, n_Mlt, n_0leM, nI_clamp, x_in_nI, n_1, nI_add, x_at, x_bd_s, x_bv_s, ↓x_lt, decide_true, decide_false, Bool.and_self, Bool.true_and, Bool.and_true, if_true, if_false, ite_true, ite_false, ↓reduceIte, not_true_eq_false, not_false_eq_true, Nat.reduceAdd, Nat.reduceMul, Nat.reduceEqDiff, eq_self, true_and, and_true, false_and, and_false, Option.some.injEq, Prod.mk.injEq, l_0, l_1, l_2, l_3, l_4, l_5, l_6, l_7, l_8, l_9, l_10, l_100, l_160, ↓m_1, ↓m_2, ↓m_3, ↓m_4, ↓m_5, ↓m_6, ↓m_7, e1, e2, s0, f0, l_12, l_20, l_30, l_40, l_50, l_51, l_60, l_70, l_71, l_11, cnV, true_or, or_true, or_self]
  · obtain ⟨N0, s0, d0, y0⟩ := m_body hA (by first | omega | (simp only [List.length_append, List.length_cons, List.length_nil]; omega)) 51
    obtain ⟨N1, s1, d1, y1⟩ := m_body d0 (by first | omega | (simp only [List.length_append, List.length_cons, List.length_nil]; omega)) 10
    have hG0 := d0.1
    have f0 := d0.2.2.1
    have hG1 := d1.1
    have f1 := d1.2.2.1
    refine ⟨N1, ?_, show AM L b1 b2 4 m a (l ++ [51, 10]) N1 by simpa only [List.append_assoc, List.cons_append, List.nil_append] using d1, (y0.tr y1)⟩
    simp (disch := first | assumption | omega) only [f_X9_counting_101, f_X9_counting_95, f_X9_counting_84, f_X9_counting_73, f_X9_counting_c55, f_X9_counting_52, f_X9_counting_c49, f_X9_counting_46, f_X9_counting_36, f_X9_counting_c33, f_X9_counting_30, f_X9_counting_19, f_X9_counting_c16, f_X9_counting, gt_83, gr_83_10, gr_83_11, gt_85, gl_85, gt_86, gl_86, l_of, n_ltT, n_ltF, n_leT, n_leF, n_eqT, n_eqF, n_neM, n_Mne, n_M0, n_Mlt, n_0leM, nI_clamp, x_in_nI, n_1, nI_add, x_at, x_bd_s, x_bv_s, ↓x_lt, decide_true, decide_false, Bool.and_self, Bool.true_and, Bool.and_true, if_true, if_false, ite_true, ite_false, ↓reduceIte, not_true_eq_false, not_false_eq_true, Nat.reduceAdd, Nat.reduceMul, Nat.reduceEqDiff, eq_self, true_and, and_true, false_and, and_false, Option.some.injEq, Prod.mk.injEq, l_0, l_1, l_2, l_3, l_4, l_5, l_6, l_7, l_8, l_9, l_10, l_100, l_160, ↓m_1, ↓m_2, ↓m_3, ↓m_4, ↓m_5, ↓m_6, ↓m_7, e1, e2, s0, f0, s1, f1, l_12, l_20, l_30, l_40, l_50, l_51, l_60, l_70, l_71, l_11, cnV, true_or, or_true, or_self]
  · obtain ⟨N0, s0, d0, y0⟩ := m_body hA (by first | omega | (simp only [List.length_append, List.length_cons, List.length_nil]; omega)) 20
    obtain ⟨N1, s1, d1, y1⟩ := m_body d0 (by first | omega | (simp only [List.length_append, List.length_cons, List.length_nil]; omega)) 10
    have hG0 := d0.1
    have f0 := d0.2.2.1
    have hG1 := d1.1
    have f1 := d1.2.2.1
    refine ⟨N1, ?_, show AM L b1 b2 5 m a (l ++ [20, 10]) N1 by simpa only [List.append_assoc, List.cons_append, List.nil_append] using d1, (y0.tr y1)⟩
    simp (disch := first | assumption | omega) only [f_X9_counting_101, f_X9_counting_95, f_X9_counting_84, f_X9_counting_73, f_X9_counting_c55, f_X9_counting_52, f_X9_counting_c49, f_X9_counting_46, f_X9_counting_36, f_X9_counting_c33, f_X9_counting_30, f_X9_counting_19, f_X9_counting_c16, f_X9_counting, gt_83, gr_83_10, gr_83_11, gt_85, gl_85, gt_86, gl_86, l_of, n_ltT, n_ltF, n_leT, n_leF, n_eqT, n_eqF, n_neM, n_Mne, n_M0, n_Mlt, n_0leM, nI_clamp, x_in_nI, n_1, nI_add, x_at, x_bd_s, x_bv_s, ↓x_lt, decide_true, decide_false, Bool.and_self, Bool.true_and, Bool.and_true, if_true, if_false, ite_true, ite_false, ↓reduceIte, not_true_eq_false, not_false_eq_true, Nat.reduceAdd, Nat.reduceMul, Nat.reduceEqDiff, eq_self, true_and, and_true, false_and, and_false, Option.some.injEq, Prod.mk.injEq, l_0, l_1, l_2, l_3, l_4, l_5, l_6, l_7, l_8, l_9, l_10, l_100, l_160, ↓m_1, ↓m_2, ↓m_3, ↓m_4, ↓m_5, ↓m_6, ↓m_7, e1, e2, s0, f0, s1, f1, l_12, l_20, l_30, l_40, l_50, l_51, l_60, l_70, l_71, l_11, cnV, true_or, or_true, or_self]
  · obtain ⟨N0, s0, d0, y0⟩ := m_body hA (by first | omega | (simp only [List.length_append, List.length_cons, List.length_nil]; omega)) 70
    obtain ⟨N1, s1, d1, y1⟩ := m_body d0 (by first | omega | (simp only [List.length_append, List.length_cons, List.length_nil]; omega)) 51
    obtain ⟨N2, s2, d2, y2⟩ := m_body d1 (by first | omega | (simp only [List.length_append, List.length_cons, List.length_nil]; omega)) 10
    have hG0 := d0.1
    have f0 := d0.2.2.1
    have hG1 := d1.1
    have f1 := d1.2.2.1
    have hG2 := d2.1
    have f2 := d2.2.2.1
    refine ⟨N2, ?_, show AM L b1 b2 6 m a (l ++ [70, 51, 10]) N2 by simpa only [List.append_assoc, List.cons_append, List.nil_append] using d2, ((y0.tr y1).tr y2)⟩
    simp (disch := first | assumption | omega) only [f_X9_counting_101, f_X9_counting_95, f_X9_counting_84, f_X9_counting_73, f_X9_counting_c55, f_X9_counting_52, f_X9_counting_c49, f_X9_counting_46, f_X9_counting_36, f_X9_counting_c33, f_X9_counting_30, f_X9_counting_19, f_X9_counting_c16, f_X9_counting, gt_83, gr_83_10, gr_83_11, gt_85, gl_85, gt_86, gl_86, l_of, n_ltT, n_ltF, n_leT, n_leF, n_eqT, n_eqF, n_neM, n_Mne, n_M0, n_Mlt, n_0leM, nI_clamp, x_in_nI, n_1, nI_add, x_at, x_bd_s, x_bv_s, ↓x_lt, decide_true, decide_false, Bool.and_self, Bool.true_and, Bool.and_true, if_true, if_false, ite_true, ite_false, ↓reduceIte, not_true_eq_false, not_false_eq_true, Nat.reduceAdd, Nat.reduceMul, Nat.reduceEqDiff, eq_self, true_and, and_true, false_and, and_false, Option.some.injEq, Prod.mk.injEq, l_0, l_1, l_2, l_3, l_4, l_5, l_6, l_7, l_8, l_9, l_10, l_100, l_160, ↓m_1, ↓m_2, ↓m_3, ↓m_4, ↓m_5, ↓m_6, ↓m_7, e1, e2, s0, f0, s1, f1, s2, f2, l_12, l_20, l_30, l_40, l_50, l_51, l_60, l_70, l_71, l_11, cnV, true_or, or_true, or_self]
theorem m_ask (hA : AM L b1 b2 kd m a l M) (hk : kd ≤ 6) (hm : m < 6) (ha : a ≤ 9) (hl : l.length + 7 ≤ 20) : ∃ M', f_X9_asking 83 (nI m) x M = some (asV kd m a x, M') ∧ AM L b1 b2 kd m a (l ++ asB kd) M' ∧ Fr QM M M' := by
  have hG := hA.1
  have e1 := hA.2.1
  have e2 := hA.2.2.1
  rcases (by omega : kd = 0 ∨ kd = 1 ∨ kd = 2 ∨ kd = 3 ∨ kd = 4 ∨ kd = 5 ∨ kd = 6) with rfl | rfl | rfl | rfl | rfl | rfl | rfl
  · obtain ⟨N0, s0, d0, y0⟩ := m_body hA (by first | omega | (simp only [List.length_append, List.length_cons, List.length_nil]; omega)) 11
    have hG0 := d0.1
    have f0 := d0.2.2.1
    obtain ⟨N9, g1, g2, g3⟩ := m_cnt (x := x) d0 hk hm ha (by first | omega | (simp only [List.length_append, List.length_cons, List.length_nil]; omega))
    refine ⟨N9, ?_, ?_, y0.tr g3⟩
    · simp (disch := first | assumption | omega) only [f_X9_asking_c86, f_X9_asking_c79, f_X9_asking_76, f_X9_asking_c73, f_X9_asking_63, f_X9_asking_58, f_X9_asking_48, f_X9_asking_c40, f_X9_asking_32, f_X9_asking_c19, f_X9_asking, gt_83, gr_83_10, gr_83_11, gt_85, gl_85, gt_86, gl_86, l_of, n_ltT, n_ltF, n_leT, n_leF, n_eqT, n_eqF, n_neM, n_Mne, n_M0, n_Mlt, n_0leM, nI_clamp, x_in_nI, n_1, nI_add, x_at, x_bd_s, x_bv_s, ↓x_lt, decide_true, decide_false, Bool.and_self, Bool.true_and, Bool.and_true, if_true, if_false, ite_true, ite_false, ↓reduceIte, not_true_eq_false, not_false_eq_true, Nat.reduceAdd, Nat.reduceMul, Nat.reduceEqDiff, eq_self, true_and, and_true, false_and, and_false, Option.some.injEq, Prod.mk.injEq, l_0, l_1, l_2, l_3, l_4, l_5, l_6, l_7, l_8, l_9, l_10, l_100, l_160, ↓m_1, ↓m_2, ↓m_3, ↓m_4, ↓m_5, ↓m_6, ↓m_7, e1, e2, g1, s0, f0, l_12, l_20, l_30, l_40, l_50, l_51, l_60, l_70, l_71, l_11, asV]
    · show AM L b1 b2 0 m a (l ++ (11 :: cnB 0)) N9
      simpa only [List.append_assoc, List.cons_append, List.nil_append] using g2
  · obtain ⟨N0, s0, d0, y0⟩ := m_body hA (by first | omega | (simp only [List.length_append, List.length_cons, List.length_nil]; omega)) 11
    have hG0 := d0.1
    have f0 := d0.2.2.1
    obtain ⟨N9, g1, g2, g3⟩ := m_cnt (x := x) d0 hk hm ha (by first | omega | (simp only [List.length_append, List.length_cons, List.length_nil]; omega))
    refine ⟨N9, ?_, ?_, y0.tr g3⟩
    · simp (disch := first | assumption | omega) only [f_X9_asking_c86, f_X9_asking_c79, f_X9_asking_76, f_X9_asking_c73, f_X9_asking_63, f_X9_asking_58, f_X9_asking_48, f_X9_asking_c40, f_X9_asking_32, f_X9_asking_c19, f_X9_asking, gt_83, gr_83_10, gr_83_11, gt_85, gl_85, gt_86, gl_86, l_of, n_ltT, n_ltF, n_leT, n_leF, n_eqT, n_eqF, n_neM, n_Mne, n_M0, n_Mlt, n_0leM, nI_clamp, x_in_nI, n_1, nI_add, x_at, x_bd_s, x_bv_s, ↓x_lt, decide_true, decide_false, Bool.and_self, Bool.true_and, Bool.and_true, if_true, if_false, ite_true, ite_false, ↓reduceIte, not_true_eq_false, not_false_eq_true, Nat.reduceAdd, Nat.reduceMul, Nat.reduceEqDiff, eq_self, true_and, and_true, false_and, and_false, Option.some.injEq, Prod.mk.injEq, l_0, l_1, l_2, l_3, l_4, l_5, l_6, l_7, l_8, l_9, l_10, l_100, l_160, ↓m_1, ↓m_2, ↓m_3, ↓m_4, ↓m_5, ↓m_6, ↓m_7, e1, e2, g1, s0, f0, l_12, l_20, l_30, l_40, l_50, l_51, l_60, l_70, l_71, l_11, asV]
    · show AM L b1 b2 1 m a (l ++ (11 :: cnB 1)) N9
      simpa only [List.append_assoc, List.cons_append, List.nil_append] using g2
  · obtain ⟨N0, s0, d0, y0⟩ := m_body hA (by first | omega | (simp only [List.length_append, List.length_cons, List.length_nil]; omega)) 30
    obtain ⟨N1, s1, d1, y1⟩ := m_body d0 (by first | omega | (simp only [List.length_append, List.length_cons, List.length_nil]; omega)) 11
    have hG0 := d0.1
    have f0 := d0.2.2.1
    have hG1 := d1.1
    have f1 := d1.2.2.1
    obtain ⟨N9, g1, g2, g3⟩ := m_cnt (x := x) d1 hk hm ha (by first | omega | (simp only [List.length_append, List.length_cons, List.length_nil]; omega))
    refine ⟨N9, ?_, ?_, (y0.tr y1).tr g3⟩
    · simp (disch := first | assumption | omega) only [f_X9_asking_c86, f_X9_asking_c79, f_X9_asking_76, f_X9_asking_c73, f_X9_asking_63, f_X9_asking_58, f_X9_asking_48, f_X9_asking_c40, f_X9_asking_32, f_X9_asking_c19, f_X9_asking, gt_83, gr_83_10, gr_83_11, gt_85, gl_85, gt_86, gl_86, l_of, n_ltT, n_ltF, n_leT, n_leF, n_eqT, n_eqF, n_neM, n_Mne, n_M0, n_Mlt, n_0leM, nI_clamp, x_in_nI, n_1, nI_add, x_at, x_bd_s, x_bv_s, ↓x_lt, decide_true, decide_false, Bool.and_self, Bool.true_and, Bool.and_true, if_true, if_false, ite_true, ite_false, ↓reduceIte, not_true_eq_false, not_false_eq_true, Nat.reduceAdd, Nat.reduceMul, Nat.reduceEqDiff, eq_self, true_and, and_true, false_and, and_false, Option.some.injEq, Prod.mk.injEq, l_0, l_1, l_2, l_3, l_4, l_5, l_6, l_7, l_8, l_9, l_10, l_100, l_160, ↓m_1, ↓m_2, ↓m_3, ↓m_4, ↓m_5, ↓m_6, ↓m_7, e1, e2, g1, s0, f0, s1, f1, l_12, l_20, l_30, l_40, l_50, l_51, l_60, l_70, l_71, l_11, asV]
    · show AM L b1 b2 2 m a (l ++ (30 :: 11 :: cnB 2)) N9
      simpa only [List.append_assoc, List.cons_append, List.nil_append] using g2
  · obtain ⟨N0, s0, d0, y0⟩ := m_body hA (by first | omega | (simp only [List.length_append, List.length_cons, List.length_nil]; omega)) 40
    obtain ⟨N1, s1, d1, y1⟩ := m_body d0 (by first | omega | (simp only [List.length_append, List.length_cons, List.length_nil]; omega)) 30
    obtain ⟨N2, s2, d2, y2⟩ := m_body d1 (by first | omega | (simp only [List.length_append, List.length_cons, List.length_nil]; omega)) 11
    have hG0 := d0.1
    have f0 := d0.2.2.1
    have hG1 := d1.1
    have f1 := d1.2.2.1
    have hG2 := d2.1
    have f2 := d2.2.2.1
    obtain ⟨N9, g1, g2, g3⟩ := m_cnt (x := x + nI 1) d2 hk hm ha (by first | omega | (simp only [List.length_append, List.length_cons, List.length_nil]; omega))
    refine ⟨N9, ?_, ?_, ((y0.tr y1).tr y2).tr g3⟩
    · simp (disch := first | assumption | omega) only [f_X9_asking_c86, f_X9_asking_c79, f_X9_asking_76, f_X9_asking_c73, f_X9_asking_63, f_X9_asking_58, f_X9_asking_48, f_X9_asking_c40, f_X9_asking_32, f_X9_asking_c19, f_X9_asking, gt_83, gr_83_10, gr_83_11, gt_85, gl_85, gt_86, gl_86, l_of, n_ltT, n_ltF, n_leT, n_leF, n_eqT, n_eqF, n_neM, n_Mne, n_M0, n_Mlt, n_0leM, nI_clamp, x_in_nI, n_1, nI_add, x_at, x_bd_s, x_bv_s, ↓x_lt, decide_true, decide_false, Bool.and_self, Bool.true_and, Bool.and_true, if_true, if_false, ite_true, ite_false, ↓reduceIte, not_true_eq_false, not_false_eq_true, Nat.reduceAdd, Nat.reduceMul, Nat.reduceEqDiff, eq_self, true_and, and_true, false_and, and_false, Option.some.injEq, Prod.mk.injEq, l_0, l_1, l_2, l_3, l_4, l_5, l_6, l_7, l_8, l_9, l_10, l_100, l_160, ↓m_1, ↓m_2, ↓m_3, ↓m_4, ↓m_5, ↓m_6, ↓m_7, e1, e2, g1, s0, f0, s1, f1, s2, f2, l_12, l_20, l_30, l_40, l_50, l_51, l_60, l_70, l_71, l_11, asV]
    · show AM L b1 b2 3 m a (l ++ (40 :: 30 :: 11 :: cnB 3)) N9
      simpa only [List.append_assoc, List.cons_append, List.nil_append] using g2
  · obtain ⟨N0, s0, d0, y0⟩ := m_body hA (by first | omega | (simp only [List.length_append, List.length_cons, List.length_nil]; omega)) 11
    have hG0 := d0.1
    have f0 := d0.2.2.1
    obtain ⟨N9, g1, g2, g3⟩ := m_cnt (x := x) d0 hk hm ha (by first | omega | (simp only [List.length_append, List.length_cons, List.length_nil]; omega))
    refine ⟨N9, ?_, ?_, y0.tr g3⟩
    · simp (disch := first | assumption | omega) only [f_X9_asking_c86, f_X9_asking_c79, f_X9_asking_76, f_X9_asking_c73, f_X9_asking_63, f_X9_asking_58, f_X9_asking_48, f_X9_asking_c40, f_X9_asking_32, f_X9_asking_c19, f_X9_asking, gt_83, gr_83_10, gr_83_11, gt_85, gl_85, gt_86, gl_86, l_of, n_ltT, n_ltF, n_leT, n_leF, n_eqT, n_eqF, n_neM, n_Mne, n_M0, n_Mlt, n_0leM, nI_clamp, x_in_nI, n_1, nI_add, x_at, x_bd_s, x_bv_s, ↓x_lt, decide_true, decide_false, Bool.and_self, Bool.true_and, Bool.and_true, if_true, if_false, ite_true, ite_false, ↓reduceIte, not_true_eq_false, not_false_eq_true, Nat.reduceAdd, Nat.reduceMul, Nat.reduceEqDiff, eq_self, true_and, and_true, false_and, and_false, Option.some.injEq, Prod.mk.injEq, l_0, l_1, l_2, l_3, l_4, l_5, l_6, l_7, l_8, l_9, l_10, l_100, l_160, ↓m_1, ↓m_2, ↓m_3, ↓m_4, ↓m_5, ↓m_6, ↓m_7, e1, e2, g1, s0, f0, l_12, l_20, l_30, l_40, l_50, l_51, l_60, l_70, l_71, l_11, asV]
    · show AM L b1 b2 4 m a (l ++ (11 :: cnB 4)) N9
      simpa only [List.append_assoc, List.cons_append, List.nil_append] using g2
  · obtain ⟨N0, s0, d0, y0⟩ := m_body hA (by first | omega | (simp only [List.length_append, List.length_cons, List.length_nil]; omega)) 11
    have hG0 := d0.1
    have f0 := d0.2.2.1
    obtain ⟨N9, g1, g2, g3⟩ := m_cnt (x := x) d0 hk hm ha (by first | omega | (simp only [List.length_append, List.length_cons, List.length_nil]; omega))
    refine ⟨N9, ?_, ?_, y0.tr g3⟩
    · simp (disch := first | assumption | omega) only [f_X9_asking_c86, f_X9_asking_c79, f_X9_asking_76, f_X9_asking_c73, f_X9_asking_63, f_X9_asking_58, f_X9_asking_48, f_X9_asking_c40, f_X9_asking_32, f_X9_asking_c19, f_X9_asking, gt_83, gr_83_10, gr_83_11, gt_85, gl_85, gt_86, gl_86, l_of, n_ltT, n_ltF, n_leT, n_leF, n_eqT, n_eqF, n_neM, n_Mne, n_M0, n_Mlt, n_0leM, nI_clamp, x_in_nI, n_1, nI_add, x_at, x_bd_s, x_bv_s, ↓x_lt, decide_true, decide_false, Bool.and_self, Bool.true_and, Bool.and_true, if_true, if_false, ite_true, ite_false, ↓reduceIte, not_true_eq_false, not_false_eq_true, Nat.reduceAdd, Nat.reduceMul, Nat.reduceEqDiff, eq_self, true_and, and_true, false_and, and_false, Option.some.injEq, Prod.mk.injEq, l_0, l_1, l_2, l_3, l_4, l_5, l_6, l_7, l_8, l_9, l_10, l_100, l_160, ↓m_1, ↓m_2, ↓m_3, ↓m_4, ↓m_5, ↓m_6, ↓m_7, e1, e2, g1, s0, f0, l_12, l_20, l_30, l_40, l_50, l_51, l_60, l_70, l_71, l_11, asV]
    · show AM L b1 b2 5 m a (l ++ (11 :: cnB 5)) N9
      simpa only [List.append_assoc, List.cons_append, List.nil_append] using g2
  · obtain ⟨N0, s0, d0, y0⟩ := m_body hA (by first | omega | (simp only [List.length_append, List.length_cons, List.length_nil]; omega)) 71
    obtain ⟨N1, s1, d1, y1⟩ := m_body d0 (by first | omega | (simp only [List.length_append, List.length_cons, List.length_nil]; omega)) 11
    have hG0 := d0.1
    have f0 := d0.2.2.1
    have hG1 := d1.1
    have f1 := d1.2.2.1
    obtain ⟨N9, g1, g2, g3⟩ := m_cnt (x := x - nI a) d1 hk hm ha (by first | omega | (simp only [List.length_append, List.length_cons, List.length_nil]; omega))
    refine ⟨N9, ?_, ?_, (y0.tr y1).tr g3⟩
    · simp (disch := first | assumption | omega) only [f_X9_asking_c86, f_X9_asking_c79, f_X9_asking_76, f_X9_asking_c73, f_X9_asking_63, f_X9_asking_58, f_X9_asking_48, f_X9_asking_c40, f_X9_asking_32, f_X9_asking_c19, f_X9_asking, gt_83, gr_83_10, gr_83_11, gt_85, gl_85, gt_86, gl_86, l_of, n_ltT, n_ltF, n_leT, n_leF, n_eqT, n_eqF, n_neM, n_Mne, n_M0, n_Mlt, n_0leM, nI_clamp, x_in_nI, n_1, nI_add, x_at, x_bd_s, x_bv_s, ↓x_lt, decide_true, decide_false, Bool.and_self, Bool.true_and, Bool.and_true, if_true, if_false, ite_true, ite_false, ↓reduceIte, not_true_eq_false, not_false_eq_true, Nat.reduceAdd, Nat.reduceMul, Nat.reduceEqDiff, eq_self, true_and, and_true, false_and, and_false, Option.some.injEq, Prod.mk.injEq, l_0, l_1, l_2, l_3, l_4, l_5, l_6, l_7, l_8, l_9, l_10, l_100, l_160, ↓m_1, ↓m_2, ↓m_3, ↓m_4, ↓m_5, ↓m_6, ↓m_7, e1, e2, g1, s0, f0, s1, f1, l_12, l_20, l_30, l_40, l_50, l_51, l_60, l_70, l_71, l_11, asV]
    · show AM L b1 b2 6 m a (l ++ (71 :: 11 :: cnB 6)) N9
      simpa only [List.append_assoc, List.cons_append, List.nil_append] using g2
theorem m_end (hA : AM L b1 b2 kd m a l M) (hk : kd ≤ 6) (hm : m < 6) (ha : a ≤ 9) (hl : l.length + 14 ≤ 20) : ∃ M', f_X9_ending 83 (nI m) x M = some (enV kd m a x, M') ∧ AM L b1 b2 kd m a (l ++ enB kd) M' ∧ Fr QM M M' := by
  have hG := hA.1
  have e1 := hA.2.1
  have e2 := hA.2.2.1
  have e : ∀ k, enB k = (if k = 4 ∨ k = 6 then [50, 12] else if k = 5 then [60, 12] else [12]) ++ (asB k ++ cnB k) := fun k => by unfold enB; rw [List.append_assoc]
  rw [e]
  rcases (by omega : kd = 0 ∨ kd = 1 ∨ kd = 2 ∨ kd = 3 ∨ kd = 4 ∨ kd = 5 ∨ kd = 6) with rfl | rfl | rfl | rfl | rfl | rfl | rfl
  · obtain ⟨N0, s0, d0, y0⟩ := m_body hA (by first | omega | (simp only [List.length_append, List.length_cons, List.length_nil]; omega)) 12
    have hG0 := d0.1
    have f0 := d0.2.2.1
    obtain ⟨N8, g1, g2, g3⟩ := m_ask (x := x) d0 hk hm ha (by first | omega | (simp only [List.length_append, List.length_cons, List.length_nil]; omega))
    have hG8 := g2.1
    have f8 := g2.2.2.1
    obtain ⟨N9, k1, k2, k3⟩ := m_cnt (x := x - nI a) g2 hk hm ha (by have := asB_len 0; simp only [List.length_append, List.length_cons, List.length_nil]; omega)
    refine ⟨N9, ?_, ?_, (y0.tr g3).tr k3⟩
    · simp (disch := first | assumption | omega) only [f_X9_ending_c61, f_X9_ending_c44, f_X9_ending_c38, f_X9_ending_35, f_X9_ending_c32, f_X9_ending_24, f_X9_ending_c21, f_X9_ending_18, f_X9_ending, gt_83, gr_83_10, gr_83_11, gt_85, gl_85, gt_86, gl_86, l_of, n_ltT, n_ltF, n_leT, n_leF, n_eqT, n_eqF, n_neM, n_Mne, n_M0, n_Mlt, n_0leM, nI_clamp, x_in_nI, n_1, nI_add, x_at, x_bd_s, x_bv_s, ↓x_lt, decide_true, decide_false, Bool.and_self, Bool.true_and, Bool.and_true, if_true, if_false, ite_true, ite_false, ↓reduceIte, not_true_eq_false, not_false_eq_true, Nat.reduceAdd, Nat.reduceMul, Nat.reduceEqDiff, eq_self, true_and, and_true, false_and, and_false, Option.some.injEq, Prod.mk.injEq, l_0, l_1, l_2, l_3, l_4, l_5, l_6, l_7, l_8, l_9, l_10, l_100, l_160, ↓m_1, ↓m_2, ↓m_3, ↓m_4, ↓m_5, ↓m_6, ↓m_7, e1, e2, g1, k1, f8, s0, f0, l_12, l_20, l_30, l_40, l_50, l_51, l_60, l_70, l_71, l_11, enV, true_or, or_true, or_self]
    · show AM L b1 b2 0 m a (l ++ (12 :: (asB 0 ++ cnB 0))) N9
      simpa only [List.append_assoc, List.cons_append, List.nil_append] using k2
  · obtain ⟨N0, s0, d0, y0⟩ := m_body hA (by first | omega | (simp only [List.length_append, List.length_cons, List.length_nil]; omega)) 12
    have hG0 := d0.1
    have f0 := d0.2.2.1
    obtain ⟨N8, g1, g2, g3⟩ := m_ask (x := x) d0 hk hm ha (by first | omega | (simp only [List.length_append, List.length_cons, List.length_nil]; omega))
    have hG8 := g2.1
    have f8 := g2.2.2.1
    obtain ⟨N9, k1, k2, k3⟩ := m_cnt (x := x - nI a) g2 hk hm ha (by have := asB_len 1; simp only [List.length_append, List.length_cons, List.length_nil]; omega)
    refine ⟨N9, ?_, ?_, (y0.tr g3).tr k3⟩
    · simp (disch := first | assumption | omega) only [f_X9_ending_c61, f_X9_ending_c44, f_X9_ending_c38, f_X9_ending_35, f_X9_ending_c32, f_X9_ending_24, f_X9_ending_c21, f_X9_ending_18, f_X9_ending, gt_83, gr_83_10, gr_83_11, gt_85, gl_85, gt_86, gl_86, l_of, n_ltT, n_ltF, n_leT, n_leF, n_eqT, n_eqF, n_neM, n_Mne, n_M0, n_Mlt, n_0leM, nI_clamp, x_in_nI, n_1, nI_add, x_at, x_bd_s, x_bv_s, ↓x_lt, decide_true, decide_false, Bool.and_self, Bool.true_and, Bool.and_true, if_true, if_false, ite_true, ite_false, ↓reduceIte, not_true_eq_false, not_false_eq_true, Nat.reduceAdd, Nat.reduceMul, Nat.reduceEqDiff, eq_self, true_and, and_true, false_and, and_false, Option.some.injEq, Prod.mk.injEq, l_0, l_1, l_2, l_3, l_4, l_5, l_6, l_7, l_8, l_9, l_10, l_100, l_160, ↓m_1, ↓m_2, ↓m_3, ↓m_4, ↓m_5, ↓m_6, ↓m_7, e1, e2, g1, k1, f8, s0, f0, l_12, l_20, l_30, l_40, l_50, l_51, l_60, l_70, l_71, l_11, enV, true_or, or_true, or_self]
    · show AM L b1 b2 1 m a (l ++ (12 :: (asB 1 ++ cnB 1))) N9
      simpa only [List.append_assoc, List.cons_append, List.nil_append] using k2
  · obtain ⟨N0, s0, d0, y0⟩ := m_body hA (by first | omega | (simp only [List.length_append, List.length_cons, List.length_nil]; omega)) 12
    have hG0 := d0.1
    have f0 := d0.2.2.1
    obtain ⟨N8, g1, g2, g3⟩ := m_ask (x := x) d0 hk hm ha (by first | omega | (simp only [List.length_append, List.length_cons, List.length_nil]; omega))
    have hG8 := g2.1
    have f8 := g2.2.2.1
    obtain ⟨N9, k1, k2, k3⟩ := m_cnt (x := x - nI a) g2 hk hm ha (by have := asB_len 2; simp only [List.length_append, List.length_cons, List.length_nil]; omega)
    refine ⟨N9, ?_, ?_, (y0.tr g3).tr k3⟩
    · simp (disch := first | assumption | omega) only [f_X9_ending_c61, f_X9_ending_c44, f_X9_ending_c38, f_X9_ending_35, f_X9_ending_c32, f_X9_ending_24, f_X9_ending_c21, f_X9_ending_18, f_X9_ending, gt_83, gr_83_10, gr_83_11, gt_85, gl_85, gt_86, gl_86, l_of, n_ltT, n_ltF, n_leT, n_leF, n_eqT, n_eqF, n_neM, n_Mne, n_M0, n_Mlt, n_0leM, nI_clamp, x_in_nI, n_1, nI_add, x_at, x_bd_s, x_bv_s, ↓x_lt, decide_true, decide_false, Bool.and_self, Bool.true_and, Bool.and_true, if_true, if_false, ite_true, ite_false, ↓reduceIte, not_true_eq_false, not_false_eq_true, Nat.reduceAdd, Nat.reduceMul, Nat.reduceEqDiff, eq_self, true_and, and_true, false_and, and_false, Option.some.injEq, Prod.mk.injEq, l_0, l_1, l_2, l_3, l_4, l_5, l_6, l_7, l_8, l_9, l_10, l_100, l_160, ↓m_1, ↓m_2, ↓m_3, ↓m_4, ↓m_5, ↓m_6, ↓m_7, e1, e2, g1, k1, f8, s0, f0, l_12, l_20, l_30, l_40, l_50, l_51, l_60, l_70, l_71, l_11, enV, true_or, or_true, or_self]
    · show AM L b1 b2 2 m a (l ++ (12 :: (asB 2 ++ cnB 2))) N9
      simpa only [List.append_assoc, List.cons_append, List.nil_append] using k2
  · obtain ⟨N0, s0, d0, y0⟩ := m_body hA (by first | omega | (simp only [List.length_append, List.length_cons, List.length_nil]; omega)) 12
    have hG0 := d0.1
    have f0 := d0.2.2.1
    obtain ⟨N8, g1, g2, g3⟩ := m_ask (x := x) d0 hk hm ha (by first | omega | (simp only [List.length_append, List.length_cons, List.length_nil]; omega))
    have hG8 := g2.1
    have f8 := g2.2.2.1
    obtain ⟨N9, k1, k2, k3⟩ := m_cnt (x := x - nI a) g2 hk hm ha (by have := asB_len 3; simp only [List.length_append, List.length_cons, List.length_nil]; omega)
    refine ⟨N9, ?_, ?_, (y0.tr g3).tr k3⟩
    · simp (disch := first | assumption | omega) only [f_X9_ending_c61, f_X9_ending_c44, f_X9_ending_c38, f_X9_ending_35, f_X9_ending_c32, f_X9_ending_24, f_X9_ending_c21, f_X9_ending_18, f_X9_ending, gt_83, gr_83_10, gr_83_11, gt_85, gl_85, gt_86, gl_86, l_of, n_ltT, n_ltF, n_leT, n_leF, n_eqT, n_eqF, n_neM, n_Mne, n_M0, n_Mlt, n_0leM, nI_clamp, x_in_nI, n_1, nI_add, x_at, x_bd_s, x_bv_s, ↓x_lt, decide_true, decide_false, Bool.and_self, Bool.true_and, Bool.and_true, if_true, if_false, ite_true, ite_false, ↓reduceIte, not_true_eq_false, not_false_eq_true, Nat.reduceAdd, Nat.reduceMul, Nat.reduceEqDiff, eq_self, true_and, and_true, false_and, and_false, Option.some.injEq, Prod.mk.injEq, l_0, l_1, l_2, l_3, l_4, l_5, l_6, l_7, l_8, l_9, l_10, l_100, l_160, ↓m_1, ↓m_2, ↓m_3, ↓m_4, ↓m_5, ↓m_6, ↓m_7, e1, e2, g1, k1, f8, s0, f0, l_12, l_20, l_30, l_40, l_50, l_51, l_60, l_70, l_71, l_11, enV, true_or, or_true, or_self]
    · show AM L b1 b2 3 m a (l ++ (12 :: (asB 3 ++ cnB 3))) N9
      simpa only [List.append_assoc, List.cons_append, List.nil_append] using k2
  · obtain ⟨N0, s0, d0, y0⟩ := m_body hA (by first | omega | (simp only [List.length_append, List.length_cons, List.length_nil]; omega)) 50
    obtain ⟨N1, s1, d1, y1⟩ := m_body d0 (by first | omega | (simp only [List.length_append, List.length_cons, List.length_nil]; omega)) 12
    have hG0 := d0.1
    have f0 := d0.2.2.1
    have hG1 := d1.1
    have f1 := d1.2.2.1
    obtain ⟨N8, g1, g2, g3⟩ := m_ask (x := x) d1 hk hm ha (by first | omega | (simp only [List.length_append, List.length_cons, List.length_nil]; omega))
    have hG8 := g2.1
    have f8 := g2.2.2.1
    obtain ⟨N9, k1, k2, k3⟩ := m_cnt (x := x - nI a) g2 hk hm ha (by have := asB_len 4; simp only [List.length_append, List.length_cons, List.length_nil]; omega)
    refine ⟨N9, ?_, ?_, ((y0.tr y1).tr g3).tr k3⟩
    · simp (disch := first | assumption | omega) only [f_X9_ending_c61, f_X9_ending_c44, f_X9_ending_c38, f_X9_ending_35, f_X9_ending_c32, f_X9_ending_24, f_X9_ending_c21, f_X9_ending_18, f_X9_ending, gt_83, gr_83_10, gr_83_11, gt_85, gl_85, gt_86, gl_86, l_of, n_ltT, n_ltF, n_leT, n_leF, n_eqT, n_eqF, n_neM, n_Mne, n_M0, n_Mlt, n_0leM, nI_clamp, x_in_nI, n_1, nI_add, x_at, x_bd_s, x_bv_s, ↓x_lt, decide_true, decide_false, Bool.and_self, Bool.true_and, Bool.and_true, if_true, if_false, ite_true, ite_false, ↓reduceIte, not_true_eq_false, not_false_eq_true, Nat.reduceAdd, Nat.reduceMul, Nat.reduceEqDiff, eq_self, true_and, and_true, false_and, and_false, Option.some.injEq, Prod.mk.injEq, l_0, l_1, l_2, l_3, l_4, l_5, l_6, l_7, l_8, l_9, l_10, l_100, l_160, ↓m_1, ↓m_2, ↓m_3, ↓m_4, ↓m_5, ↓m_6, ↓m_7, e1, e2, g1, k1, f8, s0, f0, s1, f1, l_12, l_20, l_30, l_40, l_50, l_51, l_60, l_70, l_71, l_11, enV, true_or, or_true, or_self]
    · show AM L b1 b2 4 m a (l ++ (50 :: 12 :: (asB 4 ++ cnB 4))) N9
      simpa only [List.append_assoc, List.cons_append, List.nil_append] using k2
  · obtain ⟨N0, s0, d0, y0⟩ := m_body hA (by first | omega | (simp only [List.length_append, List.length_cons, List.length_nil]; omega)) 60
    obtain ⟨N1, s1, d1, y1⟩ := m_body d0 (by first | omega | (simp only [List.length_append, List.length_cons, List.length_nil]; omega)) 12
    have hG0 := d0.1
    have f0 := d0.2.2.1
    have hG1 := d1.1
    have f1 := d1.2.2.1
    obtain ⟨N8, g1, g2, g3⟩ := m_ask (x := x) d1 hk hm ha (by first | omega | (simp only [List.length_append, List.length_cons, List.length_nil]; omega))
    have hG8 := g2.1
    have f8 := g2.2.2.1
    obtain ⟨N9, k1, k2, k3⟩ := m_cnt (x := x - nI a) g2 hk hm ha (by have := asB_len 5; simp only [List.length_append, List.length_cons, List.length_nil]; omega)
    refine ⟨N9, ?_, ?_, ((y0.tr y1).tr g3).tr k3⟩
    · simp (disch := first | assumption | omega) only [f_X9_ending_c61, f_X9_ending_c44, f_X9_ending_c38, f_X9_ending_35, f_X9_ending_c32, f_X9_ending_24, f_X9_ending_c21, f_X9_ending_18, f_X9_ending, gt_83, gr_83_10, gr_83_11, gt_85, gl_85, gt_86, gl_86, l_of, n_ltT, n_ltF, n_leT, n_leF, n_eqT, n_eqF, n_neM, n_Mne, n_M0, n_Mlt, n_0leM, nI_clamp, x_in_nI, n_1, nI_add, x_at, x_bd_s, x_bv_s, ↓x_lt, decide_true, decide_false, Bool.and_self, Bool.true_and, Bool.and_true, if_true, if_false, ite_true, ite_false, ↓reduceIte, not_true_eq_false, not_false_eq_true, Nat.reduceAdd, Nat.reduceMul, Nat.reduceEqDiff, eq_self, true_and, and_true, false_and, and_false, Option.some.injEq, Prod.mk.injEq, l_0, l_1, l_2, l_3, l_4, l_5, l_6, l_7, l_8, l_9, l_10, l_100, l_160, ↓m_1, ↓m_2, ↓m_3, ↓m_4, ↓m_5, ↓m_6, ↓m_7, e1, e2, g1, k1, f8, s0, f0, s1, f1, l_12, l_20, l_30, l_40, l_50, l_51, l_60, l_70, l_71, l_11, enV, true_or, or_true, or_self]
    · show AM L b1 b2 5 m a (l ++ (60 :: 12 :: (asB 5 ++ cnB 5))) N9
      simpa only [List.append_assoc, List.cons_append, List.nil_append] using k2
  · obtain ⟨N0, s0, d0, y0⟩ := m_body hA (by first | omega | (simp only [List.length_append, List.length_cons, List.length_nil]; omega)) 50
    obtain ⟨N1, s1, d1, y1⟩ := m_body d0 (by first | omega | (simp only [List.length_append, List.length_cons, List.length_nil]; omega)) 12
    have hG0 := d0.1
    have f0 := d0.2.2.1
    have hG1 := d1.1
    have f1 := d1.2.2.1
    obtain ⟨N8, g1, g2, g3⟩ := m_ask (x := x) d1 hk hm ha (by first | omega | (simp only [List.length_append, List.length_cons, List.length_nil]; omega))
    have hG8 := g2.1
    have f8 := g2.2.2.1
    obtain ⟨N9, k1, k2, k3⟩ := m_cnt (x := x - nI a) g2 hk hm ha (by have := asB_len 6; simp only [List.length_append, List.length_cons, List.length_nil]; omega)
    refine ⟨N9, ?_, ?_, ((y0.tr y1).tr g3).tr k3⟩
    · simp (disch := first | assumption | omega) only [f_X9_ending_c61, f_X9_ending_c44, f_X9_ending_c38, f_X9_ending_35, f_X9_ending_c32, f_X9_ending_24, f_X9_ending_c21, f_X9_ending_18, f_X9_ending, gt_83, gr_83_10, gr_83_11, gt_85, gl_85, gt_86, gl_86, l_of, n_ltT, n_ltF, n_leT, n_leF, n_eqT, n_eqF, n_neM, n_Mne, n_M0, n_Mlt, n_0leM, nI_clamp, x_in_nI, n_1, nI_add, x_at, x_bd_s, x_bv_s, ↓x_lt, decide_true, decide_false, Bool.and_self, Bool.true_and, Bool.and_true, if_true, if_false, ite_true, ite_false, ↓reduceIte, not_true_eq_false, not_false_eq_true, Nat.reduceAdd, Nat.reduceMul, Nat.reduceEqDiff, eq_self, true_and, and_true, false_and, and_false, Option.some.injEq, Prod.mk.injEq, l_0, l_1, l_2, l_3, l_4, l_5, l_6, l_7, l_8, l_9, l_10, l_100, l_160, ↓m_1, ↓m_2, ↓m_3, ↓m_4, ↓m_5, ↓m_6, ↓m_7, e1, e2, g1, k1, f8, s0, f0, s1, f1, l_12, l_20, l_30, l_40, l_50, l_51, l_60, l_70, l_71, l_11, enV, true_or, or_true, or_self]
    · show AM L b1 b2 6 m a (l ++ (50 :: 12 :: (asB 6 ++ cnB 6))) N9
      simpa only [List.append_assoc, List.cons_append, List.nil_append] using k2
end
