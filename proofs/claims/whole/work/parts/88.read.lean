/-! numbers -/
def dg (T : Nat → Int32) (p : Nat) : Nat := (T p).toNatClampNeg
abbrev isd (T : Nat → Int32) (n p : Nat) : Prop := p < n ∧ 48 ≤ dg T p ∧ dg T p ≤ 57
def nu (T : Nat → Int32) (n : Nat) : Nat → Nat → Nat → Nat × Nat
  | 0, p, v => (p, v)
  | d + 1, p, v => if isd T n p then nu T n d (p + 1) (v * 10 + dg T p - 48) else (p, v)
abbrev nbad (T : Nat → Int32) (n lo hi p : Nat) : Prop := (nu T n 4 p 0).1 = p ∨ (nu T n 4 p 0).2 < lo ∨ hi ≤ (nu T n 4 p 0).2
section
variable {L : Nat} {b1 b2 : Bool} {M : XM} {T : Nat → Int32} {n : Nat}
theorem RS.w0 {p : Nat} {ft ft' : Int32} (h : RS T n p ft M) : RS T n p ft' (x_wi M 39 0 ft') := by
  obtain ⟨r0, r3, r4, r5⟩ := h
  refine ⟨?_, ?_, ?_, fun i hi => ?_⟩
  · rw [ii_wi, if_pos ⟨rfl, rfl⟩]
  · rw [ii_wi, if_neg (by omega)]; exact r3
  · rw [ii_wi, if_neg (by omega)]; exact r4
  · rw [ii_wi, if_neg (by omega)]; exact r5 i hi
theorem RS.w4 {p p' : Nat} {ft : Int32} (h : RS T n p ft M) : RS T n p' ft (x_wi M 39 4 (nI p')) := by
  obtain ⟨r0, r3, r4, r5⟩ := h
  refine ⟨?_, ?_, ?_, fun i hi => ?_⟩
  · rw [ii_wi, if_neg (by omega)]; exact r0
  · rw [ii_wi, if_neg (by omega)]; exact r3
  · rw [ii_wi, if_pos ⟨rfl, rfl⟩]
  · rw [ii_wi, if_neg (by omega)]; exact r5 i hi
theorem RS.fr {p : Nat} {ft : Int32} {P : Nat → Nat → Prop} {M' : XM} (h : RS T n p ft M) (f : Fr P M M') (hP : ∀ a k, a = 39 ∨ a = 49 → ¬ P a k) : RS T n p ft M' := by
  obtain ⟨r0, r3, r4, r5⟩ := h
  exact ⟨(f.1 _ _ (hP _ _ (by omega))).trans r0, (f.1 _ _ (hP _ _ (by omega))).trans r3, (f.1 _ _ (hP _ _ (by omega))).trans r4, fun i hi => (f.1 _ _ (hP _ _ (by omega))).trans (r5 i hi)⟩
theorem nu_b (d : Nat) : ∀ (p v m : Nat), v < m → p ≤ (nu T n d p v).1 ∧ (p ≤ n → (nu T n d p v).1 ≤ n) ∧ (nu T n d p v).2 < m * 10 ^ d := by
  induction d with
  | zero => intro p v m h; exact ⟨Nat.le_refl _, fun q => q, by rw [Nat.pow_zero, Nat.mul_one]; exact h⟩
  | succ d ih =>
    intro p v m h
    unfold nu
    split
    · next q =>
      have g := ih (p + 1) (v * 10 + dg T p - 48) (m * 10) (by omega)
      rw [Nat.pow_succ, Nat.mul_comm (10 ^ d) 10, ← Nat.mul_assoc]
      exact ⟨by omega, fun z => g.2.1 (by omega), g.2.2⟩
    · refine ⟨Nat.le_refl _, fun q => q, ?_⟩
      have : 1 ≤ 10 ^ (d + 1) := Nat.one_le_pow _ _ (by omega)
      exact Nat.lt_of_lt_of_le h (by have := Nat.mul_le_mul_left m this; omega)
theorem nu_4 {p : Nat} : p ≤ (nu T n 4 p 0).1 ∧ (p ≤ n → (nu T n 4 p 0).1 ≤ n) ∧ (nu T n 4 p 0).2 < 10000 := by
  have := nu_b (T := T) (n := n) 4 p 0 1 (by omega)
  omega
theorem dg_n {p : Nat} (h : 1 ≤ dg T p) : T p = nI (dg T p) ∧ dg T p < 2147483648 := by
  unfold dg at h ⊢
  rcases i_cs (T p) with q | ⟨j, jb, q⟩
  · exfalso
    have : (T p).toNatClampNeg = 0 := by
      rw [Int32.lt_iff_toInt_lt, nI_toInt (by omega)] at q
      show (T p).toInt.toNat = 0
      omega
    omega
  · rw [q, nI_clamp (by omega)]
    exact ⟨rfl, jb⟩
theorem dg_0 {p : Nat} (h : T p < nI 48) : dg T p < 48 := by
  unfold dg
  rcases i_cs (T p) with q | ⟨j, jb, q⟩
  · have : (T p).toNatClampNeg = 0 := by
      rw [Int32.lt_iff_toInt_lt, nI_toInt (by omega)] at q
      show (T p).toInt.toNat = 0
      omega
    omega
  · rw [q] at h ⊢
    rw [nI_clamp (by omega)]
    rw [Int32.lt_iff_toInt_lt, nI_toInt (by omega), nI_toInt (by omega)] at h
    omega
theorem dg_1 {p : Nat} (h : nI 57 < T p) : 57 < dg T p := by
  unfold dg
  rcases i_cs (T p) with q | ⟨j, jb, q⟩
  · rw [Int32.lt_iff_toInt_lt, nI_toInt (by omega)] at h q
    omega
  · rw [q] at h ⊢
    rw [nI_clamp (by omega)]
    rw [Int32.lt_iff_toInt_lt, nI_toInt (by omega), nI_toInt (by omega)] at h
    omega
abbrev P8 : Nat → Nat → Prop := fun a _ => a = 39
theorem c_num_end {p s v lo hi : Nat} {h : Int32} (hG : Geo L b1 b2 M) (hR : RS T n p (nM 1) M) (hn : n ≤ 160) (hp : p ≤ n) (hs : s ≤ p) (hv : v < 10000) (hlo : lo < 10000) (hh : ∀ u, u < 10000 → (nI u ≤ h ↔ u < hi)) :
    ∃ M', f_X5_readNumber_100 39 (nI lo) h (nI s) (nI v) M = some (nI v, M') ∧ Geo L b1 b2 M' ∧ Fr P8 M M' ∧ RS T n p (if p = s ∨ v < lo ∨ hi ≤ v then nI s else nM 1) M' := by
  obtain ⟨r0, r3, r4, r5⟩ := id hR
  have hq := hh v hv
  by_cases q1 : p = s
  · subst q1
    refine ⟨x_wi M 39 0 (nI p), ?_, hG, Fr.rf.wi rfl, ?_⟩
    · simp (disch := first | assumption | omega) only [f_X5_readNumber_100, f_X5_readNumber_120, gt_39, r4, l_of, n_ltT, n_ltF, n_leT, n_leF, n_eqT, n_eqF, n_neM, n_Mne, n_M0, n_Mlt, n_0leM, nI_clamp, x_in_nI, n_1, nI_add, x_at, x_bd_s, x_bv_s, ↓x_lt, decide_true, decide_false, Bool.and_self, Bool.true_and, Bool.and_true, if_true, if_false, ite_true, ite_false, ↓reduceIte, not_true_eq_false, not_false_eq_true, Nat.reduceAdd, Nat.reduceMul, Nat.reduceEqDiff, eq_self, true_and, and_true, false_and, and_false, Option.some.injEq, Prod.mk.injEq, l_0, l_1, l_2, l_3, l_4, l_5, l_6, l_7, l_8, l_9, l_10, l_100, l_160, ↓m_1, ↓m_2, ↓m_3, ↓m_4, ↓m_5, ↓m_6, ↓m_7]
    · rw [if_pos (Or.inl rfl)]; exact hR.w0
  by_cases q2 : v < lo
  · refine ⟨x_wi M 39 0 (nI s), ?_, hG, Fr.rf.wi rfl, ?_⟩
    · simp (disch := first | assumption | omega) only [f_X5_readNumber_100, f_X5_readNumber_120, gt_39, r4, q1, q2, l_of, n_ltT, n_ltF, n_leT, n_leF, n_eqT, n_eqF, n_neM, n_Mne, n_M0, n_Mlt, n_0leM, nI_clamp, x_in_nI, n_1, nI_add, x_at, x_bd_s, x_bv_s, ↓x_lt, decide_true, decide_false, Bool.and_self, Bool.true_and, Bool.and_true, if_true, if_false, ite_true, ite_false, ↓reduceIte, not_true_eq_false, not_false_eq_true, Nat.reduceAdd, Nat.reduceMul, Nat.reduceEqDiff, eq_self, true_and, and_true, false_and, and_false, Option.some.injEq, Prod.mk.injEq, l_0, l_1, l_2, l_3, l_4, l_5, l_6, l_7, l_8, l_9, l_10, l_100, l_160, ↓m_1, ↓m_2, ↓m_3, ↓m_4, ↓m_5, ↓m_6, ↓m_7]
    · rw [if_pos (Or.inr (Or.inl q2))]; exact hR.w0
  by_cases q3 : hi ≤ v
  · have e : (nI v ≤ h) = False := eq_false (fun z => by have := hq.mp z; omega)
    refine ⟨x_wi M 39 0 (nI s), ?_, hG, Fr.rf.wi rfl, ?_⟩
    · simp (disch := first | assumption | omega) only [f_X5_readNumber_100, f_X5_readNumber_120, gt_39, r4, q1, q2, e, l_of, n_ltT, n_ltF, n_leT, n_leF, n_eqT, n_eqF, n_neM, n_Mne, n_M0, n_Mlt, n_0leM, nI_clamp, x_in_nI, n_1, nI_add, x_at, x_bd_s, x_bv_s, ↓x_lt, decide_true, decide_false, Bool.and_self, Bool.true_and, Bool.and_true, if_true, if_false, ite_true, ite_false, ↓reduceIte, not_true_eq_false, not_false_eq_true, Nat.reduceAdd, Nat.reduceMul, Nat.reduceEqDiff, eq_self, true_and, and_true, false_and, and_false, Option.some.injEq, Prod.mk.injEq, l_0, l_1, l_2, l_3, l_4, l_5, l_6, l_7, l_8, l_9, l_10, l_100, l_160, ↓m_1, ↓m_2, ↓m_3, ↓m_4, ↓m_5, ↓m_6, ↓m_7]
    · rw [if_pos (Or.inr (Or.inr q3))]; exact hR.w0
  · have e : (nI v ≤ h) = True := eq_true (hq.mpr (by omega))
    refine ⟨M, ?_, hG, Fr.rf, ?_⟩
    · simp (disch := first | assumption | omega) only [f_X5_readNumber_100, f_X5_readNumber_120, gt_39, r4, q1, q2, e, l_of, n_ltT, n_ltF, n_leT, n_leF, n_eqT, n_eqF, n_neM, n_Mne, n_M0, n_Mlt, n_0leM, nI_clamp, x_in_nI, n_1, nI_add, x_at, x_bd_s, x_bv_s, ↓x_lt, decide_true, decide_false, Bool.and_self, Bool.true_and, Bool.and_true, if_true, if_false, ite_true, ite_false, ↓reduceIte, not_true_eq_false, not_false_eq_true, Nat.reduceAdd, Nat.reduceMul, Nat.reduceEqDiff, eq_self, true_and, and_true, false_and, and_false, Option.some.injEq, Prod.mk.injEq, l_0, l_1, l_2, l_3, l_4, l_5, l_6, l_7, l_8, l_9, l_10, l_100, l_160, ↓m_1, ↓m_2, ↓m_3, ↓m_4, ↓m_5, ↓m_6, ↓m_7]
    · rw [if_neg (by omega)]; exact hR
theorem l_48 : (48 : Int32) = nI 48 := rfl
theorem l_57 : (57 : Int32) = nI 57 := rfl
theorem c_num_lp {s lo hi : Nat} {h : Int32} (hn : n ≤ 160) (hlo : lo < 10000) (hh : ∀ u, u < 10000 → (nI u ≤ h ↔ u < hi)) (d : Nat) : ∀ (F p v : Nat) (M : XM), d < F → Geo L b1 b2 M → RS T n p (nM 1) M → p ≤ n → p + d = s + 4 → s ≤ p → v < 10 ^ (p - s) →
    ∃ M', lp_X5_readNumber_18 F 39 (nI lo) h (nI s) (nI v) M = some (nI (nu T n d p v).2, M') ∧ Geo L b1 b2 M' ∧ Fr P8 M M' ∧ RS T n (nu T n d p v).1 (if (nu T n d p v).1 = s ∨ (nu T n d p v).2 < lo ∨ hi ≤ (nu T n d p v).2 then nI s else nM 1) M' := by
  induction d with
  | zero =>
    intro F p v M hF hG hR hp hd hs hv
    obtain ⟨F, rfl⟩ : ∃ i, F = i + 1 := ⟨F - 1, by omega⟩
    have e : p - s = 4 := by omega
    rw [e] at hv
    obtain ⟨M', g1, g2, g3, g4⟩ := c_num_end (s := s) (v := v) (lo := lo) hG hR hn hp hs (by omega) hlo hh
    refine ⟨M', ?_, g2, g3, g4⟩
    obtain ⟨r0, r3, r4, r5⟩ := id hR
    have z : nI p - nI s = nI (p - s) := pk_sub hs
    rw [s_lp_X5_readNumber_18]
    by_cases q : n ≤ p
    · simp (disch := first | assumption | omega) only [bd_X5_readNumber_18, gt_39, r3, r4, z, e, l_of, n_ltT, n_ltF, n_leT, n_leF, n_eqT, n_eqF, n_neM, n_Mne, n_M0, n_Mlt, n_0leM, nI_clamp, x_in_nI, n_1, nI_add, x_at, x_bd_s, x_bv_s, ↓x_lt, decide_true, decide_false, Bool.and_self, Bool.true_and, Bool.and_true, if_true, if_false, ite_true, ite_false, ↓reduceIte, not_true_eq_false, not_false_eq_true, Nat.reduceAdd, Nat.reduceMul, Nat.reduceEqDiff, eq_self, true_and, and_true, false_and, and_false, Option.some.injEq, Prod.mk.injEq, l_0, l_1, l_2, l_3, l_4, l_5, l_6, l_7, l_8, l_9, l_10, l_100, l_160, ↓m_1, ↓m_2, ↓m_3, ↓m_4, ↓m_5, ↓m_6, ↓m_7]
      exact g1
    · simp (disch := first | assumption | omega) only [bd_X5_readNumber_18, gt_39, r3, r4, z, e, l_of, n_ltT, n_ltF, n_leT, n_leF, n_eqT, n_eqF, n_neM, n_Mne, n_M0, n_Mlt, n_0leM, nI_clamp, x_in_nI, n_1, nI_add, x_at, x_bd_s, x_bv_s, ↓x_lt, decide_true, decide_false, Bool.and_self, Bool.true_and, Bool.and_true, if_true, if_false, ite_true, ite_false, ↓reduceIte, not_true_eq_false, not_false_eq_true, Nat.reduceAdd, Nat.reduceMul, Nat.reduceEqDiff, eq_self, true_and, and_true, false_and, and_false, Option.some.injEq, Prod.mk.injEq, l_0, l_1, l_2, l_3, l_4, l_5, l_6, l_7, l_8, l_9, l_10, l_100, l_160, ↓m_1, ↓m_2, ↓m_3, ↓m_4, ↓m_5, ↓m_6, ↓m_7]
      exact g1
  | succ d ih =>
    intro F p v M hF hG hR hp hd hs hv
    obtain ⟨F, rfl⟩ : ∃ i, F = i + 1 := ⟨F - 1, by omega⟩
    obtain ⟨r0, r3, r4, r5⟩ := id hR
    have hb : v < 10000 := by
      rcases (by omega : p - s = 0 ∨ p - s = 1 ∨ p - s = 2 ∨ p - s = 3) with k | k | k | k <;> rw [k] at hv <;> omega
    have z : nI p - nI s = nI (p - s) := pk_sub hs
    rw [s_lp_X5_readNumber_18]
    unfold nu
    by_cases q : isd T n p
    · rw [if_pos q]
      obtain ⟨q1, q2, q3⟩ := q
      obtain ⟨t1, t2⟩ := dg_n (T := T) (p := p) (by omega)
      have y := r5 p q1
      rw [t1] at y
      have f0 : Fr P8 M (x_wi M 39 4 (nI (p + 1))) := Fr.rf.wi rfl
      obtain ⟨M2, g1, g2, g3, g4⟩ := ih F (p + 1) (v * 10 + dg T p - 48) (x_wi M 39 4 (nI (p + 1))) (by omega) hG hR.w4 (by omega) (by omega) (by omega) (by
        rw [show p + 1 - s = p - s + 1 by omega, Nat.pow_succ]; omega)
      refine ⟨M2, ?_, g2, f0.tr g3, g4⟩
      have z1 : nI v * nI 10 = nI (v * 10) := pk_mul _ _
      have z2 : nI (v * 10) + nI (dg T p) = nI (v * 10 + dg T p) := nI_add _ _
      have z3 : nI (v * 10 + dg T p) - nI 48 = nI (v * 10 + dg T p - 48) := pk_sub (by omega)
      simp (disch := first | assumption | omega) only [bd_X5_readNumber_18, gt_39, gr_39_2, gt_49, gl_49, r3, r4, z, y, l_48, l_57, z1, z2, z3, l_of, n_ltT, n_ltF, n_leT, n_leF, n_eqT, n_eqF, n_neM, n_Mne, n_M0, n_Mlt, n_0leM, nI_clamp, x_in_nI, n_1, nI_add, x_at, x_bd_s, x_bv_s, ↓x_lt, decide_true, decide_false, Bool.and_self, Bool.true_and, Bool.and_true, if_true, if_false, ite_true, ite_false, ↓reduceIte, not_true_eq_false, not_false_eq_true, Nat.reduceAdd, Nat.reduceMul, Nat.reduceEqDiff, eq_self, true_and, and_true, false_and, and_false, Option.some.injEq, Prod.mk.injEq, l_0, l_1, l_2, l_3, l_4, l_5, l_6, l_7, l_8, l_9, l_10, l_100, l_160, ↓m_1, ↓m_2, ↓m_3, ↓m_4, ↓m_5, ↓m_6, ↓m_7]
      exact g1
    · rw [if_neg q]
      obtain ⟨M', g1, g2, g3, g4⟩ := c_num_end (s := s) (v := v) (lo := lo) hG hR hn hp hs hb hlo hh
      refine ⟨M', ?_, g2, g3, g4⟩
      by_cases q1 : p < n
      · have y := r5 p q1
        by_cases q2 : T p < nI 48
        · simp (disch := first | assumption | omega) only [bd_X5_readNumber_18, gt_39, gr_39_2, gt_49, gl_49, r3, r4, z, y, l_48, l_57, q2, l_of, n_ltT, n_ltF, n_leT, n_leF, n_eqT, n_eqF, n_neM, n_Mne, n_M0, n_Mlt, n_0leM, nI_clamp, x_in_nI, n_1, nI_add, x_at, x_bd_s, x_bv_s, ↓x_lt, decide_true, decide_false, Bool.and_self, Bool.true_and, Bool.and_true, if_true, if_false, ite_true, ite_false, ↓reduceIte, not_true_eq_false, not_false_eq_true, Nat.reduceAdd, Nat.reduceMul, Nat.reduceEqDiff, eq_self, true_and, and_true, false_and, and_false, Option.some.injEq, Prod.mk.injEq, l_0, l_1, l_2, l_3, l_4, l_5, l_6, l_7, l_8, l_9, l_10, l_100, l_160, ↓m_1, ↓m_2, ↓m_3, ↓m_4, ↓m_5, ↓m_6, ↓m_7]
          exact g1
        · by_cases q3 : nI 57 < T p
          · simp (disch := first | assumption | omega) only [bd_X5_readNumber_18, gt_39, gr_39_2, gt_49, gl_49, r3, r4, z, y, l_48, l_57, q2, q3, l_of, n_ltT, n_ltF, n_leT, n_leF, n_eqT, n_eqF, n_neM, n_Mne, n_M0, n_Mlt, n_0leM, nI_clamp, x_in_nI, n_1, nI_add, x_at, x_bd_s, x_bv_s, ↓x_lt, decide_true, decide_false, Bool.and_self, Bool.true_and, Bool.and_true, if_true, if_false, ite_true, ite_false, ↓reduceIte, not_true_eq_false, not_false_eq_true, Nat.reduceAdd, Nat.reduceMul, Nat.reduceEqDiff, eq_self, true_and, and_true, false_and, and_false, Option.some.injEq, Prod.mk.injEq, l_0, l_1, l_2, l_3, l_4, l_5, l_6, l_7, l_8, l_9, l_10, l_100, l_160, ↓m_1, ↓m_2, ↓m_3, ↓m_4, ↓m_5, ↓m_6, ↓m_7]
            exact g1
          · exfalso
            refine q ⟨q1, ?_⟩
            unfold dg
            rcases i_cs (T p) with w | ⟨j, jb, w⟩
            · exfalso
              refine q2 ?_
              rw [Int32.lt_iff_toInt_lt, nI_toInt (by omega)] at w ⊢
              omega
            · rw [w] at q2 q3 ⊢
              rw [nI_clamp (by omega)]
              rw [Int32.lt_iff_toInt_lt, nI_toInt (by omega), nI_toInt (by omega)] at q2 q3
              omega
      · simp (disch := first | assumption | omega) only [bd_X5_readNumber_18, gt_39, r3, r4, z, l_of, n_ltT, n_ltF, n_leT, n_leF, n_eqT, n_eqF, n_neM, n_Mne, n_M0, n_Mlt, n_0leM, nI_clamp, x_in_nI, n_1, nI_add, x_at, x_bd_s, x_bv_s, ↓x_lt, decide_true, decide_false, Bool.and_self, Bool.true_and, Bool.and_true, if_true, if_false, ite_true, ite_false, ↓reduceIte, not_true_eq_false, not_false_eq_true, Nat.reduceAdd, Nat.reduceMul, Nat.reduceEqDiff, eq_self, true_and, and_true, false_and, and_false, Option.some.injEq, Prod.mk.injEq, l_0, l_1, l_2, l_3, l_4, l_5, l_6, l_7, l_8, l_9, l_10, l_100, l_160, ↓m_1, ↓m_2, ↓m_3, ↓m_4, ↓m_5, ↓m_6, ↓m_7]
        exact g1
theorem c_num {p lo hi : Nat} {h : Int32} (hG : Geo L b1 b2 M) (hR : RS T n p (nM 1) M) (hn : n ≤ 160) (hp : p ≤ n) (hlo : lo < 10000) (hh : ∀ u, u < 10000 → (nI u ≤ h ↔ u < hi)) :
    ∃ M', f_X5_readNumber 39 (nI lo) h M = some (nI (nu T n 4 p 0).2, M') ∧ Geo L b1 b2 M' ∧ Fr P8 M M' ∧ RS T n (nu T n 4 p 0).1 (if nbad T n lo hi p then nI p else nM 1) M' := by
  obtain ⟨r0, r3, r4, r5⟩ := id hR
  obtain ⟨M', g1, g2, g3, g4⟩ := c_num_lp (L := L) (b1 := b1) (b2 := b2) (s := p) (lo := lo) hn hlo hh 4 x_fuel p 0 M (fu (by omega)) hG hR hp rfl (Nat.le_refl _) (by rw [Nat.sub_self]; omega)
  refine ⟨M', ?_, g2, g3, g4⟩
  simp (disch := first | assumption | omega) only [f_X5_readNumber, gt_39, r0, r4, l_of, n_ltT, n_ltF, n_leT, n_leF, n_eqT, n_eqF, n_neM, n_Mne, n_M0, n_Mlt, n_0leM, nI_clamp, x_in_nI, n_1, nI_add, x_at, x_bd_s, x_bv_s, ↓x_lt, decide_true, decide_false, Bool.and_self, Bool.true_and, Bool.and_true, if_true, if_false, ite_true, ite_false, ↓reduceIte, not_true_eq_false, not_false_eq_true, Nat.reduceAdd, Nat.reduceMul, Nat.reduceEqDiff, eq_self, true_and, and_true, false_and, and_false, Option.some.injEq, Prod.mk.injEq, l_0, l_1, l_2, l_3, l_4, l_5, l_6, l_7, l_8, l_9, l_10, l_100, l_160, ↓m_1, ↓m_2, ↓m_3, ↓m_4, ↓m_5, ↓m_6, ↓m_7]
  exact g1
theorem c_nun {p : Nat} {lo h : Int32} (hG : Geo L b1 b2 M) (hR : RS T n p (nI p) M) (hp : p ≤ 160) : f_X5_readNumber 39 lo h M = some (nM 1, M) := by
  obtain ⟨r0, r3, r4, r5⟩ := id hR
  simp (disch := first | assumption | omega) only [f_X5_readNumber, gt_39, r0, r4, l_of, n_ltT, n_ltF, n_leT, n_leF, n_eqT, n_eqF, n_neM, n_Mne, n_M0, n_Mlt, n_0leM, nI_clamp, x_in_nI, n_1, nI_add, x_at, x_bd_s, x_bv_s, ↓x_lt, decide_true, decide_false, Bool.and_self, Bool.true_and, Bool.and_true, if_true, if_false, ite_true, ite_false, ↓reduceIte, not_true_eq_false, not_false_eq_true, Nat.reduceAdd, Nat.reduceMul, Nat.reduceEqDiff, eq_self, true_and, and_true, false_and, and_false, Option.some.injEq, Prod.mk.injEq, l_0, l_1, l_2, l_3, l_4, l_5, l_6, l_7, l_8, l_9, l_10, l_100, l_160, ↓m_1, ↓m_2, ↓m_3, ↓m_4, ↓m_5, ↓m_6, ↓m_7]
end
