/-! longest, the reference's side: by residues -/
def tn (kd a : Nat) : Nat := if kd = 4 ∨ kd = 6 then a + 1 else 1
theorem tn_b {kd a : Nat} (ha : a ≤ 9) : 1 ≤ tn kd a ∧ tn kd a ≤ 10 := by unfold tn; split <;> omega
theorem mod_s {h h' T : Nat} (e : h % T = h' % T) : (h + 1) % T = (h' + 1) % T := by rw [Nat.add_mod, e, ← Nat.add_mod]
theorem lf_mod {p kd a x h h' : Nat} (e : h % tn kd a = h' % tn kd a) : lf p kd a x (h + 1) = lf p kd a x (h' + 1) := by
  have e1 := mod_s e
  unfold tn at e1
  unfold lf
  by_cases h4 : kd = 4
  · subst h4
    rw [if_pos (Or.inl rfl)] at e1
    rw [e1]
  by_cases h6 : kd = 6
  · subst h6
    rw [if_pos (Or.inr rfl)] at e1
    rw [e1]
  rw [if_neg h4, if_neg h4, if_neg h6, if_neg h6]
theorem lgv_mod {n p kd a : Nat} (k : Nat) : ∀ (h h' : Nat), h % tn kd a = h' % tn kd a → lgv n p kd a k h = lgv n p kd a k h' := by
  induction k with
  | zero => intro h h' _; rfl
  | succ k ih =>
    intro h h' e
    funext y
    show lgi (lgv n p kd a k (h + 1)) n (n - lf p kd a y (h + 1)) = lgi (lgv n p kd a k (h' + 1)) n (n - lf p kd a y (h' + 1))
    rw [ih (h + 1) (h' + 1) (mod_s e), lf_mod e]
theorem lg_mod {n p kd a k h h' x : Nat} (e : h % tn kd a = h' % tn kd a) : lg n p kd a k h x = lg n p kd a k h' x := by
  unfold lg
  rw [lgv_mod k h h' e]
theorem l_2010 : (2010 : Int32) = nI 2010 := rfl
abbrev PP : Nat → Nat → Prop := fun a _ => a = 101 ∨ a = 102
section
variable {L : Nat} {b1 b2 : Bool}
theorem m_turns {M : XM} {c kd a : Nat} (hG : Geo L b1 b2 M) (hc : c < 6) (q1 : x_i M 85 c = nI kd) (q2 : x_i M 86 c = nI a) (hk : kd ≤ 6) (ha : a ≤ 9) : f_X9_turnsOf 83 (nI c) M = some (nI (tn kd a), M) := by
  unfold tn
  rcases (by omega : kd = 4 ∨ kd = 6 ∨ (kd ≠ 4 ∧ kd ≠ 6)) with rfl | rfl | ⟨h4, h6⟩
  · simp (disch := first | assumption | omega) only [f_X9_turnsOf_c2, f_X9_turnsOf, f_X9_isDull, gt_83, gr_83_10, gr_83_11, gt_85, gl_85, gt_86, gl_86, q1, q2, true_or, l_of, n_ltT, n_ltF, n_leT, n_leF, n_eqT, n_eqF, n_neM, n_Mne, n_M0, n_Mlt, n_0leM, nI_clamp, x_in_nI, n_1, nI_add, x_at, x_bd_s, x_bv_s, ↓x_lt, decide_true, decide_false, Bool.and_self, Bool.true_and, Bool.and_true, if_true, if_false, ite_true, ite_false, ↓reduceIte, not_true_eq_false, not_false_eq_true, Nat.reduceAdd, Nat.reduceMul, Nat.reduceEqDiff, eq_self, true_and, and_true, false_and, and_false, Option.some.injEq, Prod.mk.injEq, l_0, l_1, l_2, l_3, l_4, l_5, l_6, l_7, l_8, l_9, l_10, l_100, l_160, ↓m_1, ↓m_2, ↓m_3, ↓m_4, ↓m_5, ↓m_6, ↓m_7]
  · simp (disch := first | assumption | omega) only [f_X9_turnsOf_c2, f_X9_turnsOf, f_X9_isDull, gt_83, gr_83_10, gr_83_11, gt_85, gl_85, gt_86, gl_86, q1, q2, or_true, l_of, n_ltT, n_ltF, n_leT, n_leF, n_eqT, n_eqF, n_neM, n_Mne, n_M0, n_Mlt, n_0leM, nI_clamp, x_in_nI, n_1, nI_add, x_at, x_bd_s, x_bv_s, ↓x_lt, decide_true, decide_false, Bool.and_self, Bool.true_and, Bool.and_true, if_true, if_false, ite_true, ite_false, ↓reduceIte, not_true_eq_false, not_false_eq_true, Nat.reduceAdd, Nat.reduceMul, Nat.reduceEqDiff, eq_self, true_and, and_true, false_and, and_false, Option.some.injEq, Prod.mk.injEq, l_0, l_1, l_2, l_3, l_4, l_5, l_6, l_7, l_8, l_9, l_10, l_100, l_160, ↓m_1, ↓m_2, ↓m_3, ↓m_4, ↓m_5, ↓m_6, ↓m_7]
  · simp (disch := first | assumption | omega) only [f_X9_turnsOf_c2, f_X9_turnsOf, f_X9_isDull, gt_83, gr_83_10, gr_83_11, gt_85, gl_85, gt_86, gl_86, q1, q2, h4, h6, or_self, l_of, n_ltT, n_ltF, n_leT, n_leF, n_eqT, n_eqF, n_neM, n_Mne, n_M0, n_Mlt, n_0leM, nI_clamp, x_in_nI, n_1, nI_add, x_at, x_bd_s, x_bv_s, ↓x_lt, decide_true, decide_false, Bool.and_self, Bool.true_and, Bool.and_true, if_true, if_false, ite_true, ite_false, ↓reduceIte, not_true_eq_false, not_false_eq_true, Nat.reduceAdd, Nat.reduceMul, Nat.reduceEqDiff, eq_self, true_and, and_true, false_and, and_false, Option.some.injEq, Prod.mk.injEq, l_0, l_1, l_2, l_3, l_4, l_5, l_6, l_7, l_8, l_9, l_10, l_100, l_160, ↓m_1, ↓m_2, ↓m_3, ↓m_4, ↓m_5, ↓m_6, ↓m_7]
theorem m_l39 {v1 v2 v3 : Int32} (d : Nat) : ∀ (N j : Nat) (M : XM), d < N → Geo L b1 b2 M → j + d = 2010 →
    ∃ M', lp_X9_longest_39 N 83 v1 v2 v3 (nI j) M = lp_X9_longest_64 x_fuel 83 v1 v2 v3 (nI 0) M' ∧ Geo L b1 b2 M' ∧ Fr PP M M' := by
  induction d with
  | zero =>
    intro N j M hN hG hj
    obtain ⟨N, rfl⟩ : ∃ i, N = i + 1 := ⟨N - 1, by omega⟩
    refine ⟨M, ?_, hG, Fr.rf⟩
    rw [s_lp_X9_longest_39, show j = 2010 by omega]
    simp (disch := first | assumption | omega) only [bd_X9_longest_39, l_2010, l_of, n_ltT, n_ltF, n_leT, n_leF, n_eqT, n_eqF, n_neM, n_Mne, n_M0, n_Mlt, n_0leM, nI_clamp, x_in_nI, n_1, nI_add, x_at, x_bd_s, x_bv_s, ↓x_lt, decide_true, decide_false, Bool.and_self, Bool.true_and, Bool.and_true, if_true, if_false, ite_true, ite_false, ↓reduceIte, not_true_eq_false, not_false_eq_true, Nat.reduceAdd, Nat.reduceMul, Nat.reduceEqDiff, eq_self, true_and, and_true, false_and, and_false, Option.some.injEq, Prod.mk.injEq, l_0, l_1, l_2, l_3, l_4, l_5, l_6, l_7, l_8, l_9, l_10, l_100, l_160, ↓m_1, ↓m_2, ↓m_3, ↓m_4, ↓m_5, ↓m_6, ↓m_7]
  | succ d ih =>
    intro N j M hN hG hj
    obtain ⟨N, rfl⟩ : ∃ i, N = i + 1 := ⟨N - 1, by omega⟩
    obtain ⟨M2, g1, g2, g3⟩ := ih N (j + 1) (x_wi M 101 j (nI 0)) (by omega) hG (by omega)
    have f0 : Fr PP M (x_wi M 101 j (nI 0)) := Fr.rf.wi (by omega)
    refine ⟨M2, ?_, g2, f0.tr g3⟩
    rw [s_lp_X9_longest_39]
    simp (disch := first | assumption | omega) only [bd_X9_longest_39, gt_83, gr_83_35, gt_101, gl_101, l_2010, l_of, n_ltT, n_ltF, n_leT, n_leF, n_eqT, n_eqF, n_neM, n_Mne, n_M0, n_Mlt, n_0leM, nI_clamp, x_in_nI, n_1, nI_add, x_at, x_bd_s, x_bv_s, ↓x_lt, decide_true, decide_false, Bool.and_self, Bool.true_and, Bool.and_true, if_true, if_false, ite_true, ite_false, ↓reduceIte, not_true_eq_false, not_false_eq_true, Nat.reduceAdd, Nat.reduceMul, Nat.reduceEqDiff, eq_self, true_and, and_true, false_and, and_false, Option.some.injEq, Prod.mk.injEq, l_0, l_1, l_2, l_3, l_4, l_5, l_6, l_7, l_8, l_9, l_10, l_100, l_160, ↓m_1, ↓m_2, ↓m_3, ↓m_4, ↓m_5, ↓m_6, ↓m_7]
    exact g1
theorem m_l73 {κ : Nat → Int32 → Int32 → Int32 → Int32 → XM → Option (Int32 × XM)} {v1 v2 v3 v4 : Int32} {n : Nat} (hn1 : 1 ≤ n) (hn : n ≤ 200) (d : Nat) : ∀ (N j : Nat) (M : XM), d < N → Geo L b1 b2 M → x_i M 83 1 = nI n → j + d = 10 → (∀ h, h < j → x_i M 102 (10 * n + h) = nI 0) →
    ∃ M', lp_X9_longest_73 κ N 83 v1 v2 v3 v4 (nI j) M = lp_X9_longest_110 κ x_fuel 83 v1 v2 v3 v4 (iv n) M' ∧ Geo L b1 b2 M' ∧ (∀ h, h < 10 → x_i M' 102 (10 * n + h) = nI 0) ∧ Fr (fun a _ => a = 102) M M' := by
  induction d with
  | zero =>
    intro N j M hN hG en hj hh
    obtain ⟨N, rfl⟩ : ∃ i, N = i + 1 := ⟨N - 1, by omega⟩
    refine ⟨M, ?_, hG, fun h hl => hh h (by omega), Fr.rf⟩
    obtain ⟨n', rfl⟩ : ∃ i, n = i + 1 := ⟨n - 1, by omega⟩
    have z : nI (n' + 1) - nI 1 = nI n' := n_pm1 n'
    rw [s_lp_X9_longest_73, show j = 10 by omega]
    simp (disch := first | assumption | omega) only [bd_X9_longest_73, gt_83, en, z, l_of, n_ltT, n_ltF, n_leT, n_leF, n_eqT, n_eqF, n_neM, n_Mne, n_M0, n_Mlt, n_0leM, nI_clamp, x_in_nI, n_1, nI_add, x_at, x_bd_s, x_bv_s, ↓x_lt, decide_true, decide_false, Bool.and_self, Bool.true_and, Bool.and_true, if_true, if_false, ite_true, ite_false, ↓reduceIte, not_true_eq_false, not_false_eq_true, Nat.reduceAdd, Nat.reduceMul, Nat.reduceEqDiff, eq_self, true_and, and_true, false_and, and_false, Option.some.injEq, Prod.mk.injEq, l_0, l_1, l_2, l_3, l_4, l_5, l_6, l_7, l_8, l_9, l_10, l_100, l_160, ↓m_1, ↓m_2, ↓m_3, ↓m_4, ↓m_5, ↓m_6, ↓m_7]
    rfl
  | succ d ih =>
    intro N j M hN hG en hj hh
    obtain ⟨N, rfl⟩ : ∃ i, N = i + 1 := ⟨N - 1, by omega⟩
    have f0 : Fr (fun a _ => a = 102) M (x_wi M 102 (10 * n + j) (nI 0)) := Fr.rf.wi (by omega)
    obtain ⟨M2, g1, g2, g3, g4⟩ := ih N (j + 1) (x_wi M 102 (10 * n + j) (nI 0)) (by omega) hG ((f0.1 _ _ (by omega)).trans en) (by omega) (fun h hl => by
      rw [ii_wi]
      split
      · rfl
      · exact hh h (by omega))
    refine ⟨M2, ?_, g2, g3, f0.tr g4⟩
    rw [s_lp_X9_longest_73]
    simp (disch := first | assumption | omega) only [bd_X9_longest_73, gt_83, gr_83_36, gt_102, gl_102, en, pk_mul, nI_add, l_of, n_ltT, n_ltF, n_leT, n_leF, n_eqT, n_eqF, n_neM, n_Mne, n_M0, n_Mlt, n_0leM, nI_clamp, x_in_nI, n_1, nI_add, x_at, x_bd_s, x_bv_s, ↓x_lt, decide_true, decide_false, Bool.and_self, Bool.true_and, Bool.and_true, if_true, if_false, ite_true, ite_false, ↓reduceIte, not_true_eq_false, not_false_eq_true, Nat.reduceAdd, Nat.reduceMul, Nat.reduceEqDiff, eq_self, true_and, and_true, false_and, and_false, Option.some.injEq, Prod.mk.injEq, l_0, l_1, l_2, l_3, l_4, l_5, l_6, l_7, l_8, l_9, l_10, l_100, l_160, ↓m_1, ↓m_2, ↓m_3, ↓m_4, ↓m_5, ↓m_6, ↓m_7]
    exact g1
set_option maxHeartbeats 1000000 in
theorem m_l118 {κ : Nat → Int32 → Int32 → Int32 → Int32 → XM → Option (Int32 × XM)} {κ2 : Nat → Int32 → Int32 → Int32 → Int32 → Int32 → XM → Option (Int32 × XM)} {v2 : Int32} {n p kd a c k x : Nat} (hc : c < 6) (hn : n ≤ 200) (hx : x < n) (hk : kd ≤ 6) (ha : a ≤ 9) (hp : 1 ≤ p) (hp2 : p ≤ 200) (hk5 : k ≤ 5) (d : Nat) : ∀ (N j : Nat) (M : XM), d < N → Geo L b1 b2 M → x_i M 85 c = nI kd → x_i M 86 c = nI a → x_i M 83 2 = nI p → j + d = tn kd a → (∀ h, h < j → x_i M 102 (10 * x + h) = nI (lg n p kd a k h x)) →
    (∀ h, h < tn kd a → x_i M 102 (10 * (x + 1) + h) = nI (lg n p kd a k h (x + 1))) → (0 < k → ∀ y h, y ≤ n → h < tn kd a → x_i M 101 (10 * y + h) = nI (lg n p kd a (k - 1) h y)) →
    ∃ M', lp_X9_longest_118 κ κ2 N 83 (nI c) v2 (nI (tn kd a)) (nI k) (nI x) (nI j) M = κ2 83 (nI c) v2 (nI (tn kd a)) (nI k) (nI x + nM 1) M' ∧ Geo L b1 b2 M' ∧ (∀ h, h < tn kd a → x_i M' 102 (10 * x + h) = nI (lg n p kd a k h x)) ∧ Fr (fun b q => b = 102 ∧ 10 * x ≤ q ∧ q < 10 * x + 10) M M' := by
  have hT := tn_b (kd := kd) ha
  induction d with
  | zero =>
    intro N j M hN hG q1 q2 ep hj hd hl hr
    obtain ⟨N, rfl⟩ : ∃ i, N = i + 1 := ⟨N - 1, by omega⟩
    refine ⟨M, ?_, hG, fun h hh => hd h (by omega), Fr.rf⟩
    rw [s_lp_X9_longest_118, show j = tn kd a by omega]
    simp (disch := first | assumption | omega) only [bd_X9_longest_118, l_of, n_ltT, n_ltF, n_leT, n_leF, n_eqT, n_eqF, n_neM, n_Mne, n_M0, n_Mlt, n_0leM, nI_clamp, x_in_nI, n_1, nI_add, x_at, x_bd_s, x_bv_s, ↓x_lt, decide_true, decide_false, Bool.and_self, Bool.true_and, Bool.and_true, if_true, if_false, ite_true, ite_false, ↓reduceIte, not_true_eq_false, not_false_eq_true, Nat.reduceAdd, Nat.reduceMul, Nat.reduceEqDiff, eq_self, true_and, and_true, false_and, and_false, Option.some.injEq, Prod.mk.injEq, l_0, l_1, l_2, l_3, l_4, l_5, l_6, l_7, l_8, l_9, l_10, l_100, l_160, ↓m_1, ↓m_2, ↓m_3, ↓m_4, ↓m_5, ↓m_6, ↓m_7]
  | succ d ih =>
    intro N j M hN hG q1 q2 ep hj hd hl hr
    obtain ⟨N, rfl⟩ : ∃ i, N = i + 1 := ⟨N - 1, by omega⟩
    have f0 : Fr (fun b q => b = 102 ∧ 10 * x ≤ q ∧ q < 10 * x + 10) M (x_wi M 102 (10 * x + j) (nI (lg n p kd a k j x))) := Fr.rf.wi (by omega)
    obtain ⟨M2, g1, g2, g3, g4⟩ := ih N (j + 1) (x_wi M 102 (10 * x + j) (nI (lg n p kd a k j x))) (by omega) hG ((f0.1 _ _ (by omega)).trans q1) ((f0.1 _ _ (by omega)).trans q2) ((f0.1 _ _ (by omega)).trans ep) (by omega) (fun h hh => by
      rw [ii_wi]
      by_cases hq : h = j
      · rw [if_pos ⟨rfl, by omega⟩, hq]
      · rw [if_neg (by omega)]; exact hd h (by omega)) (fun h hh => (f0.1 _ _ (by omega)).trans (hl h hh)) (fun h0 y h hy hh => (f0.1 _ _ (by omega)).trans (hr h0 y h hy hh))
    refine ⟨M2, ?_, g2, g3, f0.tr g4⟩
    have y1 := hl j (by omega)
    have hs := lg_s (n := n) (p := p) (kd := kd) (a := a) (k := k) (h := j) (x := x) hx
    have hle := lg_le (n := n) (p := p) (kd := kd) (a := a) (k := k) (h := j) (x := x + 1) hn
    rw [s_lp_X9_longest_118]
    rw [show 10 * (x + 1) + j = 10 * x + 10 + j by omega] at y1
    by_cases hk0 : k = 0
    · subst hk0
      rw [show lgv n p kd a 0 j x = 0 from rfl, mx_0, Nat.add_comm] at hs
      rw [hs] at g1
      simp (disch := first | assumption | omega) only [bd_X9_longest_118, f_X9_longest_177, f_X9_longest_206, gt_83, gr_83_36, gt_102, gl_102, y1, pk_mul, nI_add, l_of, n_ltT, n_ltF, n_leT, n_leF, n_eqT, n_eqF, n_neM, n_Mne, n_M0, n_Mlt, n_0leM, nI_clamp, x_in_nI, n_1, nI_add, x_at, x_bd_s, x_bv_s, ↓x_lt, decide_true, decide_false, Bool.and_self, Bool.true_and, Bool.and_true, if_true, if_false, ite_true, ite_false, ↓reduceIte, not_true_eq_false, not_false_eq_true, Nat.reduceAdd, Nat.reduceMul, Nat.reduceEqDiff, eq_self, true_and, and_true, false_and, and_false, Option.some.injEq, Prod.mk.injEq, l_0, l_1, l_2, l_3, l_4, l_5, l_6, l_7, l_8, l_9, l_10, l_100, l_160, ↓m_1, ↓m_2, ↓m_3, ↓m_4, ↓m_5, ↓m_6, ↓m_7]
      exact g1
    · obtain ⟨k, rfl⟩ : ∃ i, k = i + 1 := ⟨k - 1, by omega⟩
      have hlf := m_left (x := x) (h := j + 1) hG hc q1 q2 ep hk ha (by omega) (by omega) hp hp2
      have hlb := lf_le p kd a x (j + 1)
      have hm := Nat.mod_lt (j + 1) (show tn kd a > 0 by omega)
      have y2 := hr (by omega) (lf p kd a x (j + 1)) ((j + 1) % tn kd a) (by omega) hm
      rw [show k + 1 - 1 = k from rfl, lg_mod (h' := j + 1) (Nat.mod_mod _ _), ← lgv_s] at y2
      have z : nI (j + 1) - nI (j + 1) / nI (tn kd a) * nI (tn kd a) = nI ((j + 1) % tn kd a) := pk_rem (by omega) (by omega) (by omega)
      have hle3 := lgv_le n p kd a hn (k + 1) j x
      generalize lgv n p kd a (k + 1) j x = V at hs y2 hle3
      generalize lg n p kd a (k + 1) j (x + 1) = U at hs y1 hle
      generalize (j + 1) % tn kd a = r at hm y2 z
      generalize lf p kd a x (j + 1) = l at hlf hlb y2
      by_cases hmx : U < V
      · have e : mx U V = V := by unfold mx; rw [if_pos hmx]
        rw [e, Nat.add_comm V 1] at hs
        rw [hs] at g1
        simp (disch := first | assumption | omega) only [bd_X9_longest_118, f_X9_longest_c165, f_X9_longest_177, f_X9_longest_206, gt_83, gr_83_35, gr_83_36, gt_101, gl_101, gt_102, gl_102, hlf, y1, y2, z, pk_mul, nI_add, l_of, n_ltT, n_ltF, n_leT, n_leF, n_eqT, n_eqF, n_neM, n_Mne, n_M0, n_Mlt, n_0leM, nI_clamp, x_in_nI, n_1, nI_add, x_at, x_bd_s, x_bv_s, ↓x_lt, decide_true, decide_false, Bool.and_self, Bool.true_and, Bool.and_true, if_true, if_false, ite_true, ite_false, ↓reduceIte, not_true_eq_false, not_false_eq_true, Nat.reduceAdd, Nat.reduceMul, Nat.reduceEqDiff, eq_self, true_and, and_true, false_and, and_false, Option.some.injEq, Prod.mk.injEq, l_0, l_1, l_2, l_3, l_4, l_5, l_6, l_7, l_8, l_9, l_10, l_100, l_160, ↓m_1, ↓m_2, ↓m_3, ↓m_4, ↓m_5, ↓m_6, ↓m_7]
        exact g1
      · have e : mx U V = U := by unfold mx; rw [if_neg hmx]
        rw [e, Nat.add_comm U 1] at hs
        rw [hs] at g1
        simp (disch := first | assumption | omega) only [bd_X9_longest_118, f_X9_longest_c165, f_X9_longest_177, f_X9_longest_206, gt_83, gr_83_35, gr_83_36, gt_101, gl_101, gt_102, gl_102, hlf, y1, y2, z, pk_mul, nI_add, l_of, n_ltT, n_ltF, n_leT, n_leF, n_eqT, n_eqF, n_neM, n_Mne, n_M0, n_Mlt, n_0leM, nI_clamp, x_in_nI, n_1, nI_add, x_at, x_bd_s, x_bv_s, ↓x_lt, decide_true, decide_false, Bool.and_self, Bool.true_and, Bool.and_true, if_true, if_false, ite_true, ite_false, ↓reduceIte, not_true_eq_false, not_false_eq_true, Nat.reduceAdd, Nat.reduceMul, Nat.reduceEqDiff, eq_self, true_and, and_true, false_and, and_false, Option.some.injEq, Prod.mk.injEq, l_0, l_1, l_2, l_3, l_4, l_5, l_6, l_7, l_8, l_9, l_10, l_100, l_160, ↓m_1, ↓m_2, ↓m_3, ↓m_4, ↓m_5, ↓m_6, ↓m_7]
        exact g1
theorem m_l110 {κ : Nat → Int32 → Int32 → Int32 → Int32 → XM → Option (Int32 × XM)} {v2 : Int32} {n p kd a c k : Nat} (hc : c < 6) (hn : n ≤ 200) (hk : kd ≤ 6) (ha : a ≤ 9) (hp : 1 ≤ p) (hp2 : p ≤ 200) (hk5 : k ≤ 5) (i : Nat) : ∀ (N : Nat) (M : XM), i < N → i ≤ n → Geo L b1 b2 M → x_i M 85 c = nI kd → x_i M 86 c = nI a → x_i M 83 2 = nI p →
    (∀ y h, i ≤ y → y ≤ n → h < tn kd a → x_i M 102 (10 * y + h) = nI (lg n p kd a k h y)) → (0 < k → ∀ y h, y ≤ n → h < tn kd a → x_i M 101 (10 * y + h) = nI (lg n p kd a (k - 1) h y)) →
    ∃ M', lp_X9_longest_110 κ N 83 (nI c) v2 (nI (tn kd a)) (nI k) (iv i) M = lp_X9_longest_223 κ x_fuel 83 (nI c) v2 (nI (tn kd a)) (nI k) (nI 0) M' ∧ Geo L b1 b2 M' ∧ (∀ y h, y ≤ n → h < tn kd a → x_i M' 102 (10 * y + h) = nI (lg n p kd a k h y)) ∧ Fr (fun b _ => b = 102) M M' := by
  have hT := tn_b (kd := kd) ha
  induction i with
  | zero =>
    intro N M hN hi hG q1 q2 ep hl hr
    obtain ⟨N, rfl⟩ : ∃ i, N = i + 1 := ⟨N - 1, by omega⟩
    refine ⟨M, ?_, hG, fun y h h1 h2 => hl y h (by omega) h1 h2, Fr.rf⟩
    rw [s_lp_X9_longest_110]
    unfold iv
    simp (disch := first | assumption | omega) only [bd_X9_longest_110, n_M0, l_of, n_ltT, n_ltF, n_leT, n_leF, n_eqT, n_eqF, n_neM, n_Mne, n_M0, n_Mlt, n_0leM, nI_clamp, x_in_nI, n_1, nI_add, x_at, x_bd_s, x_bv_s, ↓x_lt, decide_true, decide_false, Bool.and_self, Bool.true_and, Bool.and_true, if_true, if_false, ite_true, ite_false, ↓reduceIte, not_true_eq_false, not_false_eq_true, Nat.reduceAdd, Nat.reduceMul, Nat.reduceEqDiff, eq_self, true_and, and_true, false_and, and_false, Option.some.injEq, Prod.mk.injEq, l_0, l_1, l_2, l_3, l_4, l_5, l_6, l_7, l_8, l_9, l_10, l_100, l_160, ↓m_1, ↓m_2, ↓m_3, ↓m_4, ↓m_5, ↓m_6, ↓m_7]
  | succ i ih =>
    intro N M hN hi hG q1 q2 ep hl hr
    obtain ⟨N, rfl⟩ : ∃ i, N = i + 1 := ⟨N - 1, by omega⟩
    obtain ⟨M1, g1, g2, g3, g4⟩ := m_l118 (L := L) (b1 := b1) (b2 := b2) (κ := κ) (κ2 := lp_X9_longest_110 κ N) (v2 := v2) hc hn (show i < n by omega) hk ha hp hp2 hk5 (tn kd a) x_fuel 0 M (fu (by omega)) hG q1 q2 ep (by omega) (fun h hh => absurd hh (by omega)) (fun h hh => hl (i + 1) h (by omega) (by omega) hh) hr
    obtain ⟨M2, k1, k2, k3, k4⟩ := ih N M1 (by omega) (by omega) g2 ((g4.1 _ _ (by omega)).trans q1) ((g4.1 _ _ (by omega)).trans q2) ((g4.1 _ _ (by omega)).trans ep) (fun y h h1 h2 h3 => by
      by_cases hy : y = i
      · rw [hy]; exact g3 h h3
      · exact (g4.1 _ _ (by omega)).trans (hl y h (by omega) h2 h3)) (fun h0 y h hy hh => (g4.1 _ _ (by omega)).trans (hr h0 y h hy hh))
    refine ⟨M2, ?_, k2, k3, (g4.mono (fun a k q => q.1)).tr k4⟩
    rw [iv_s] at g1
    rw [s_lp_X9_longest_110]
    unfold iv
    simp (disch := first | assumption | omega) only [bd_X9_longest_110, l_of, n_ltT, n_ltF, n_leT, n_leF, n_eqT, n_eqF, n_neM, n_Mne, n_M0, n_Mlt, n_0leM, nI_clamp, x_in_nI, n_1, nI_add, x_at, x_bd_s, x_bv_s, ↓x_lt, decide_true, decide_false, Bool.and_self, Bool.true_and, Bool.and_true, if_true, if_false, ite_true, ite_false, ↓reduceIte, not_true_eq_false, not_false_eq_true, Nat.reduceAdd, Nat.reduceMul, Nat.reduceEqDiff, eq_self, true_and, and_true, false_and, and_false, Option.some.injEq, Prod.mk.injEq, l_0, l_1, l_2, l_3, l_4, l_5, l_6, l_7, l_8, l_9, l_10, l_100, l_160, ↓m_1, ↓m_2, ↓m_3, ↓m_4, ↓m_5, ↓m_6, ↓m_7]
    exact g1.trans k1
theorem m_l223 {κ : Nat → Int32 → Int32 → Int32 → Int32 → XM → Option (Int32 × XM)} {v1 v2 v3 v4 : Int32} {n : Nat} (hn : n ≤ 200) (d : Nat) : ∀ (N j : Nat) (M : XM), d < N → Geo L b1 b2 M → x_i M 83 1 = nI n → j + d = 10 * n + 10 → (∀ h, h < j → x_i M 101 h = x_i M 102 h) →
    ∃ M', lp_X9_longest_223 κ N 83 v1 v2 v3 v4 (nI j) M = κ 83 v1 v2 v3 (v4 + nI 1) M' ∧ Geo L b1 b2 M' ∧ (∀ h, h < 10 * n + 10 → x_i M' 101 h = x_i M 102 h) ∧ Fr (fun a _ => a = 101) M M' := by
  induction d with
  | zero =>
    intro N j M hN hG en hj hh
    obtain ⟨N, rfl⟩ : ∃ i, N = i + 1 := ⟨N - 1, by omega⟩
    refine ⟨M, ?_, hG, fun h hl => hh h (by omega), Fr.rf⟩
    rw [s_lp_X9_longest_223, show j = 10 * n + 10 by omega]
    simp (disch := first | assumption | omega) only [bd_X9_longest_223, gt_83, en, pk_mul, nI_add, l_of, n_ltT, n_ltF, n_leT, n_leF, n_eqT, n_eqF, n_neM, n_Mne, n_M0, n_Mlt, n_0leM, nI_clamp, x_in_nI, n_1, nI_add, x_at, x_bd_s, x_bv_s, ↓x_lt, decide_true, decide_false, Bool.and_self, Bool.true_and, Bool.and_true, if_true, if_false, ite_true, ite_false, ↓reduceIte, not_true_eq_false, not_false_eq_true, Nat.reduceAdd, Nat.reduceMul, Nat.reduceEqDiff, eq_self, true_and, and_true, false_and, and_false, Option.some.injEq, Prod.mk.injEq, l_0, l_1, l_2, l_3, l_4, l_5, l_6, l_7, l_8, l_9, l_10, l_100, l_160, ↓m_1, ↓m_2, ↓m_3, ↓m_4, ↓m_5, ↓m_6, ↓m_7]
  | succ d ih =>
    intro N j M hN hG en hj hh
    obtain ⟨N, rfl⟩ : ∃ i, N = i + 1 := ⟨N - 1, by omega⟩
    have f0 : Fr (fun a _ => a = 101) M (x_wi M 101 j (x_i M 102 j)) := Fr.rf.wi (by omega)
    obtain ⟨M2, g1, g2, g3, g4⟩ := ih N (j + 1) (x_wi M 101 j (x_i M 102 j)) (by omega) hG ((f0.1 _ _ (by omega)).trans en) (by omega) (fun h hl => by
      rw [f0.1 102 h (by omega), ii_wi]
      split
      · next q => rw [q.2]
      · exact hh h (by omega))
    refine ⟨M2, ?_, g2, fun h hl => (g3 h hl).trans (f0.1 _ _ (by omega)), f0.tr g4⟩
    rw [s_lp_X9_longest_223]
    simp (disch := first | assumption | omega) only [bd_X9_longest_223, gt_83, gr_83_35, gr_83_36, gt_101, gl_101, gt_102, gl_102, en, pk_mul, nI_add, l_of, n_ltT, n_ltF, n_leT, n_leF, n_eqT, n_eqF, n_neM, n_Mne, n_M0, n_Mlt, n_0leM, nI_clamp, x_in_nI, n_1, nI_add, x_at, x_bd_s, x_bv_s, ↓x_lt, decide_true, decide_false, Bool.and_self, Bool.true_and, Bool.and_true, if_true, if_false, ite_true, ite_false, ↓reduceIte, not_true_eq_false, not_false_eq_true, Nat.reduceAdd, Nat.reduceMul, Nat.reduceEqDiff, eq_self, true_and, and_true, false_and, and_false, Option.some.injEq, Prod.mk.injEq, l_0, l_1, l_2, l_3, l_4, l_5, l_6, l_7, l_8, l_9, l_10, l_100, l_160, ↓m_1, ↓m_2, ↓m_3, ↓m_4, ↓m_5, ↓m_6, ↓m_7]
    exact g1
def lgr (v : Nat) : Int32 := if v ≤ 400 then nI v else nM 1
theorem m_l64 {n p kd a c b x hd : Nat} (hc : c < 6) (hn1 : 1 ≤ n) (hn : n ≤ 200) (hk : kd ≤ 6) (ha : a ≤ 9) (hp : 1 ≤ p) (hp2 : p ≤ 200) (hb : b ≤ 5) (hx : x ≤ n) (hh : hd ≤ 800000) (d : Nat) : ∀ (N k : Nat) (M : XM), d < N → Geo L b1 b2 M → x_i M 83 1 = nI n → x_i M 83 2 = nI p → x_i M 85 c = nI kd → x_i M 86 c = nI a → x_i M 87 c = nI x → x_i M 89 c = nI hd → k + d = b + 1 →
    (0 < k → ∀ y h, y ≤ n → h < tn kd a → x_i M 101 (10 * y + h) = nI (lg n p kd a (k - 1) h y)) →
    ∃ M', lp_X9_longest_64 N 83 (nI c) (nI b) (nI (tn kd a)) (nI k) M = some (lgr (lg n p kd a b hd x), M') ∧ Geo L b1 b2 M' ∧ Fr PP M M' := by
  have hT := tn_b (kd := kd) ha
  induction d with
  | zero =>
    intro N k M hN hG en ep q1 q2 q3 q4 hkd hr
    obtain ⟨N, rfl⟩ : ∃ i, N = i + 1 := ⟨N - 1, by omega⟩
    refine ⟨M, ?_, hG, Fr.rf⟩
    have hm := Nat.mod_lt hd (show tn kd a > 0 by omega)
    have y := hr (by omega) x (hd % tn kd a) hx hm
    rw [show k - 1 = b by omega, lg_mod (h' := hd) (Nat.mod_mod _ _)] at y
    have z : nI hd - nI hd / nI (tn kd a) * nI (tn kd a) = nI (hd % tn kd a) := pk_rem (by omega) (by omega) (by omega)
    have hle := lg_le (n := n) (p := p) (kd := kd) (a := a) (k := b) (h := hd) (x := x) hn
    rw [s_lp_X9_longest_64, show k = b + 1 by omega]
    generalize lg n p kd a b hd x = V at y hle ⊢
    generalize hd % tn kd a = r at y z hm
    unfold lgr
    by_cases hv : V ≤ 400
    · rw [if_pos hv]
      simp (disch := first | assumption | omega) only [bd_X9_longest_64, gt_83, gr_83_12, gr_83_14, gr_83_35, gt_87, gl_87, gt_89, gl_89, gt_101, gl_101, q3, q4, z, y, l_400, pk_mul, nI_add, l_of, n_ltT, n_ltF, n_leT, n_leF, n_eqT, n_eqF, n_neM, n_Mne, n_M0, n_Mlt, n_0leM, nI_clamp, x_in_nI, n_1, nI_add, x_at, x_bd_s, x_bv_s, ↓x_lt, decide_true, decide_false, Bool.and_self, Bool.true_and, Bool.and_true, if_true, if_false, ite_true, ite_false, ↓reduceIte, not_true_eq_false, not_false_eq_true, Nat.reduceAdd, Nat.reduceMul, Nat.reduceEqDiff, eq_self, true_and, and_true, false_and, and_false, Option.some.injEq, Prod.mk.injEq, l_0, l_1, l_2, l_3, l_4, l_5, l_6, l_7, l_8, l_9, l_10, l_100, l_160, ↓m_1, ↓m_2, ↓m_3, ↓m_4, ↓m_5, ↓m_6, ↓m_7]
    · rw [if_neg hv]
      simp (disch := first | assumption | omega) only [bd_X9_longest_64, gt_83, gr_83_12, gr_83_14, gr_83_35, gt_87, gl_87, gt_89, gl_89, gt_101, gl_101, q3, q4, z, y, l_400, pk_mul, nI_add, l_of, n_ltT, n_ltF, n_leT, n_leF, n_eqT, n_eqF, n_neM, n_Mne, n_M0, n_Mlt, n_0leM, nI_clamp, x_in_nI, n_1, nI_add, x_at, x_bd_s, x_bv_s, ↓x_lt, decide_true, decide_false, Bool.and_self, Bool.true_and, Bool.and_true, if_true, if_false, ite_true, ite_false, ↓reduceIte, not_true_eq_false, not_false_eq_true, Nat.reduceAdd, Nat.reduceMul, Nat.reduceEqDiff, eq_self, true_and, and_true, false_and, and_false, Option.some.injEq, Prod.mk.injEq, l_0, l_1, l_2, l_3, l_4, l_5, l_6, l_7, l_8, l_9, l_10, l_100, l_160, ↓m_1, ↓m_2, ↓m_3, ↓m_4, ↓m_5, ↓m_6, ↓m_7]
  | succ d ih =>
    intro N k M hN hG en ep q1 q2 q3 q4 hkd hr
    obtain ⟨N, rfl⟩ : ∃ i, N = i + 1 := ⟨N - 1, by omega⟩
    obtain ⟨M1, a1, a2, a3, a4⟩ := m_l73 (L := L) (b1 := b1) (b2 := b2) (κ := lp_X9_longest_64 N) (v1 := nI c) (v2 := nI b) (v3 := nI (tn kd a)) (v4 := nI k) hn1 hn 10 x_fuel 0 M (fu (by omega)) hG en (by omega) (fun h hl => absurd hl (by omega))
    obtain ⟨M2, c1, c2, c3, c4⟩ := m_l110 (L := L) (b1 := b1) (b2 := b2) (κ := lp_X9_longest_64 N) (v2 := nI b) (n := n) hc hn hk ha hp hp2 (show k ≤ 5 by omega) n x_fuel M1 (fu (by omega)) (by omega) a2 ((a4.1 _ _ (by omega)).trans q1) ((a4.1 _ _ (by omega)).trans q2) ((a4.1 _ _ (by omega)).trans ep) (fun y h h1 h2 h3 => by
      rw [show y = n by omega, lg_n]
      exact a3 h (by omega)) (fun h0 y h hy hh => (a4.1 _ _ (by omega)).trans (hr h0 y h hy hh))
    have f2 : Fr (fun b _ => b = 102) M M2 := a4.tr c4
    obtain ⟨M3, d1, d2, d3, d4⟩ := m_l223 (L := L) (b1 := b1) (b2 := b2) (κ := lp_X9_longest_64 N) (v1 := nI c) (v2 := nI b) (v3 := nI (tn kd a)) (v4 := nI k) hn (10 * n + 10) x_fuel 0 M2 (fu (by omega)) c2 ((f2.1 _ _ (by omega)).trans en) (by omega) (fun h hl => absurd hl (by omega))
    have f3 : Fr PP M M3 := (f2.mono (fun b k q => Or.inr q)).tr (d4.mono (fun b k q => Or.inl q))
    obtain ⟨M4, e1, e2, e3⟩ := ih N (k + 1) M3 (by omega) d2 ((f3.1 _ _ (by omega)).trans en) ((f3.1 _ _ (by omega)).trans ep) ((f3.1 _ _ (by omega)).trans q1) ((f3.1 _ _ (by omega)).trans q2) ((f3.1 _ _ (by omega)).trans q3) ((f3.1 _ _ (by omega)).trans q4) (by omega) (fun _ y h hy hh => (d3 _ (by omega)).trans (c3 y h hy hh))
    refine ⟨M4, ?_, e2, f3.tr e3⟩
    rw [n_1] at d1
    rw [s_lp_X9_longest_64]
    simp (disch := first | assumption | omega) only [bd_X9_longest_64, l_of, n_ltT, n_ltF, n_leT, n_leF, n_eqT, n_eqF, n_neM, n_Mne, n_M0, n_Mlt, n_0leM, nI_clamp, x_in_nI, n_1, nI_add, x_at, x_bd_s, x_bv_s, ↓x_lt, decide_true, decide_false, Bool.and_self, Bool.true_and, Bool.and_true, if_true, if_false, ite_true, ite_false, ↓reduceIte, not_true_eq_false, not_false_eq_true, Nat.reduceAdd, Nat.reduceMul, Nat.reduceEqDiff, eq_self, true_and, and_true, false_and, and_false, Option.some.injEq, Prod.mk.injEq, l_0, l_1, l_2, l_3, l_4, l_5, l_6, l_7, l_8, l_9, l_10, l_100, l_160, ↓m_1, ↓m_2, ↓m_3, ↓m_4, ↓m_5, ↓m_6, ↓m_7]
    exact ((a1.trans c1).trans d1).trans e1
end
def sp_longest (σ : XS) (c b : Int32) : Int32 × XS :=
  if c < nI 0 ∨ r_s (s_now σ) 0 ≤ c.toNatClampNeg then (nM 11, u_rf σ 1) else if b < nI 0 ∨ 5 < b.toNatClampNeg then (nM 16, u_rf σ 6) else
    (lgr (lg (r_s (s_now σ) 1) (r_s (s_now σ) 2) (r_q (s_now σ) 0 c.toNatClampNeg) (r_q (s_now σ) 1 c.toNatClampNeg) b.toNatClampNeg (r_q (s_now σ) 3 c.toNatClampNeg) (r_q (s_now σ) 2 c.toNatClampNeg)), σ)
theorem isC_n {σ : XS} {c : Int32} (h0 : r_s (s_now σ) 0 ≤ 6) (h : ¬ (c < nI 0 ∨ r_s (s_now σ) 0 ≤ c.toNatClampNeg)) : ∃ j, j < r_s (s_now σ) 0 ∧ c = nI j := by
  rcases i_cs c with q | ⟨j, jb, rfl⟩
  · exact absurd (Or.inl q) h
  · exact ⟨j, by
      rcases Nat.lt_or_ge j (r_s (s_now σ) 0) with q | q
      · exact q
      · exact absurd (Or.inr (by rw [nI_clamp (by omega)]; exact q)) h, rfl⟩
theorem oc_longest {B : Nat} {σ : XS} (hW : WFS B σ) (hB : B ≤ 800000) (c b : Int32) : OpC (f_X8_longest 20 c b) σ (sp_longest σ c b).1 (sp_longest σ c b).2 := by
  intro L b1 b2 M hG hI
  obtain ⟨⟨⟨e0, e1, e2, e3, e4, e5, e6, e7⟩, hc, ht⟩, hi, hsh, hrf, hft, hrn, htr⟩ := id hI
  show EndC L (f_X8_longest 20 c b) M (sp_longest σ c b)
  have hC := c_isC hG hI hW c
  obtain ⟨⟨w0, w1, w2, w3, w4, w5, w6, w7⟩, wc, wl, wt⟩ := id hW.1
  unfold sp_longest
  by_cases hb : c < nI 0 ∨ r_s (s_now σ) 0 ≤ c.toNatClampNeg
  · rw [if_pos hb] at hC ⊢
    exact c_no_end hG hI (by simp (disch := first | assumption | omega) only [f_X8_longest_c53, f_X8_longest_c36, f_X8_longest_30, f_X8_longest_27, f_X8_longest_13, f_X8_longest_c2, f_X8_longest, gt_20, gr_20_6, gt_51, gl_51, hC, c_refM, n_sub10, l_of, n_ltT, n_ltF, n_leT, n_leF, n_eqT, n_eqF, n_neM, n_Mne, n_M0, n_Mlt, n_0leM, nI_clamp, x_in_nI, n_1, nI_add, x_at, x_bd_s, x_bv_s, ↓x_lt, decide_true, decide_false, Bool.and_self, Bool.true_and, Bool.and_true, if_true, if_false, ite_true, ite_false, ↓reduceIte, not_true_eq_false, not_false_eq_true, Nat.reduceAdd, Nat.reduceMul, Nat.reduceEqDiff, eq_self, true_and, and_true, false_and, and_false, Option.some.injEq, Prod.mk.injEq, l_0, l_1, l_2, l_3, l_4, l_5, l_6, l_7, l_8, l_9, l_10, l_100, l_160, ↓m_1, ↓m_2, ↓m_3, ↓m_4, ↓m_5, ↓m_6, ↓m_7])
  rw [if_neg hb] at hC ⊢
  obtain ⟨j, jb, rfl⟩ := isC_n w0 hb
  rcases i_cs b with h1 | ⟨v, vb, rfl⟩
  · rw [if_pos (Or.inl h1)]
    exact c_no_end hG hI (by simp (disch := first | assumption | omega) only [f_X8_longest_c53, f_X8_longest_c36, f_X8_longest_30, f_X8_longest_27, f_X8_longest_13, f_X8_longest_c2, f_X8_longest, gt_20, gr_20_6, gt_51, gl_51, hC, h1, c_refM, n_sub10, l_of, n_ltT, n_ltF, n_leT, n_leF, n_eqT, n_eqF, n_neM, n_Mne, n_M0, n_Mlt, n_0leM, nI_clamp, x_in_nI, n_1, nI_add, x_at, x_bd_s, x_bv_s, ↓x_lt, decide_true, decide_false, Bool.and_self, Bool.true_and, Bool.and_true, if_true, if_false, ite_true, ite_false, ↓reduceIte, not_true_eq_false, not_false_eq_true, Nat.reduceAdd, Nat.reduceMul, Nat.reduceEqDiff, eq_self, true_and, and_true, false_and, and_false, Option.some.injEq, Prod.mk.injEq, l_0, l_1, l_2, l_3, l_4, l_5, l_6, l_7, l_8, l_9, l_10, l_100, l_160, ↓m_1, ↓m_2, ↓m_3, ↓m_4, ↓m_5, ↓m_6, ↓m_7])
  rw [nI_clamp (show v < 2 ^ 31 by omega), nI_clamp (show j < 2 ^ 31 by omega)]
  by_cases h2 : 5 < v
  · rw [if_pos (Or.inr h2)]
    exact c_no_end hG hI (by simp (disch := first | assumption | omega) only [f_X8_longest_c53, f_X8_longest_c36, f_X8_longest_30, f_X8_longest_27, f_X8_longest_13, f_X8_longest_c2, f_X8_longest, gt_20, gr_20_6, gt_51, gl_51, hC, h2, c_refM, n_sub10, l_of, n_ltT, n_ltF, n_leT, n_leF, n_eqT, n_eqF, n_neM, n_Mne, n_M0, n_Mlt, n_0leM, nI_clamp, x_in_nI, n_1, nI_add, x_at, x_bd_s, x_bv_s, ↓x_lt, decide_true, decide_false, Bool.and_self, Bool.true_and, Bool.and_true, if_true, if_false, ite_true, ite_false, ↓reduceIte, not_true_eq_false, not_false_eq_true, Nat.reduceAdd, Nat.reduceMul, Nat.reduceEqDiff, eq_self, true_and, and_true, false_and, and_false, Option.some.injEq, Prod.mk.injEq, l_0, l_1, l_2, l_3, l_4, l_5, l_6, l_7, l_8, l_9, l_10, l_100, l_160, ↓m_1, ↓m_2, ↓m_3, ↓m_4, ↓m_5, ↓m_6, ↓m_7])
  rw [if_neg (fun q => by rcases q with q | q; exact nI_pos (by omega) q; exact h2 q)]
  obtain ⟨q1, q2, q3, q4, q5⟩ := hc j (by omega)
  obtain ⟨y1, y2, y3, y4⟩ := wc j (by omega)
  obtain ⟨M2, b2', g1, g2, g3⟩ := c_m11 (L := L) (b1 := b1) (c := j) (b := v) (by omega) w1 w2 y1 y2 w3 w4 (show r_q (s_now σ) 3 j ≤ 800000 by omega) (by omega) (wl j jb) (v + 1) x_fuel b2 M (fu (by omega)) (by omega) hG e1 e2 q1 q2 q3 q5 (fun h => absurd h (by omega))
  have hle := lg_le (n := r_s (s_now σ) 1) (p := r_s (s_now σ) 2) (kd := r_q (s_now σ) 0 j) (a := r_q (s_now σ) 1 j) (k := v) (h := r_q (s_now σ) 3 j) (x := r_q (s_now σ) 2 j) w2
  generalize lg (r_s (s_now σ) 1) (r_s (s_now σ) 2) (r_q (s_now σ) 0 j) (r_q (s_now σ) 1 j) v (r_q (s_now σ) 3 j) (r_q (s_now σ) 2 j) = V at g1 hle ⊢
  have g1 : lp_X3_most_11 x_fuel 59 21 (nI v) (24 + j) (nI v) M = some (nI V, M2) := g1
  have F : Fr (fun a _ => 39 ≤ a ∧ a < 51 ∨ 52 ≤ a ∧ a < 65) M M2 := g3.mono (fun a k q => by omega)
  refine c_w_end g2 hI F ?_
  unfold lgr
  by_cases hv : V ≤ 400
  · rw [if_pos hv]
    simp (disch := first | assumption | omega) only [f_X8_longest_c53, f_X8_longest_c36, f_X8_longest_30, f_X8_longest_27, f_X8_longest_13, f_X8_longest_c2, f_X8_longest, f_X3_most, gt_20, gr_20_0, gr_20_9, gt_59, gt_21, gr_21_0, gt_22, gl_22, gc_22, hC, g1, l_400, l_of, n_ltT, n_ltF, n_leT, n_leF, n_eqT, n_eqF, n_neM, n_Mne, n_M0, n_Mlt, n_0leM, nI_clamp, x_in_nI, n_1, nI_add, x_at, x_bd_s, x_bv_s, ↓x_lt, decide_true, decide_false, Bool.and_self, Bool.true_and, Bool.and_true, if_true, if_false, ite_true, ite_false, ↓reduceIte, not_true_eq_false, not_false_eq_true, Nat.reduceAdd, Nat.reduceMul, Nat.reduceEqDiff, eq_self, true_and, and_true, false_and, and_false, Option.some.injEq, Prod.mk.injEq, l_0, l_1, l_2, l_3, l_4, l_5, l_6, l_7, l_8, l_9, l_10, l_100, l_160, ↓m_1, ↓m_2, ↓m_3, ↓m_4, ↓m_5, ↓m_6, ↓m_7]
  · rw [if_neg hv]
    simp (disch := first | assumption | omega) only [f_X8_longest_c53, f_X8_longest_c36, f_X8_longest_30, f_X8_longest_27, f_X8_longest_13, f_X8_longest_c2, f_X8_longest, f_X3_most, gt_20, gr_20_0, gr_20_9, gt_59, gt_21, gr_21_0, gt_22, gl_22, gc_22, hC, g1, l_400, l_of, n_ltT, n_ltF, n_leT, n_leF, n_eqT, n_eqF, n_neM, n_Mne, n_M0, n_Mlt, n_0leM, nI_clamp, x_in_nI, n_1, nI_add, x_at, x_bd_s, x_bv_s, ↓x_lt, decide_true, decide_false, Bool.and_self, Bool.true_and, Bool.and_true, if_true, if_false, ite_true, ite_false, ↓reduceIte, not_true_eq_false, not_false_eq_true, Nat.reduceAdd, Nat.reduceMul, Nat.reduceEqDiff, eq_self, true_and, and_true, false_and, and_false, Option.some.injEq, Prod.mk.injEq, l_0, l_1, l_2, l_3, l_4, l_5, l_6, l_7, l_8, l_9, l_10, l_100, l_160, ↓m_1, ↓m_2, ↓m_3, ↓m_4, ↓m_5, ↓m_6, ↓m_7]
theorem om_longest {B : Nat} {σ : XS} (hW : WFS B σ) (hB : B ≤ 800000) (c b : Int32) : OpM (f_X9_longest 83 c b) σ (sp_longest σ c b).1 (sp_longest σ c b).2 := by
  intro L b1 b2 M hG hI hMW
  obtain ⟨⟨⟨e0, e1, e2, e3, e4, e5, e6, e7⟩, hc, ht⟩, hi, hsh, hrf, hft, hrn, htr⟩ := id hI
  show EndM L b1 b2 (f_X9_longest 83 c b) M (sp_longest σ c b)
  have hC := m_isC hG hI hW c
  obtain ⟨⟨w0, w1, w2, w3, w4, w5, w6, w7⟩, wc, wl, wt⟩ := id hW.1
  unfold sp_longest
  by_cases hb : c < nI 0 ∨ r_s (s_now σ) 0 ≤ c.toNatClampNeg
  · rw [if_pos hb] at hC ⊢
    exact m_no_end hG hI hMW (by simp (disch := first | assumption | omega) only [f_X9_longest_23, bd_X9_longest_223, f_X9_longest_206, f_X9_longest_177, f_X9_longest_c165, bd_X9_longest_118, bd_X9_longest_110, bd_X9_longest_73, bd_X9_longest_64, bd_X9_longest_39, f_X9_longest_c32, f_X9_longest_c2, f_X9_longest, gt_83, gr_83_9, gt_84, gl_84, hC, m_noTen, l_of, n_ltT, n_ltF, n_leT, n_leF, n_eqT, n_eqF, n_neM, n_Mne, n_M0, n_Mlt, n_0leM, nI_clamp, x_in_nI, n_1, nI_add, x_at, x_bd_s, x_bv_s, ↓x_lt, decide_true, decide_false, Bool.and_self, Bool.true_and, Bool.and_true, if_true, if_false, ite_true, ite_false, ↓reduceIte, not_true_eq_false, not_false_eq_true, Nat.reduceAdd, Nat.reduceMul, Nat.reduceEqDiff, eq_self, true_and, and_true, false_and, and_false, Option.some.injEq, Prod.mk.injEq, l_0, l_1, l_2, l_3, l_4, l_5, l_6, l_7, l_8, l_9, l_10, l_100, l_160, ↓m_1, ↓m_2, ↓m_3, ↓m_4, ↓m_5, ↓m_6, ↓m_7])
  rw [if_neg hb] at hC ⊢
  obtain ⟨j, jb, rfl⟩ := isC_n w0 hb
  rcases i_cs b with h1 | ⟨v, vb, rfl⟩
  · rw [if_pos (Or.inl h1)]
    exact m_no_end hG hI hMW (by simp (disch := first | assumption | omega) only [f_X9_longest_23, bd_X9_longest_223, f_X9_longest_206, f_X9_longest_177, f_X9_longest_c165, bd_X9_longest_118, bd_X9_longest_110, bd_X9_longest_73, bd_X9_longest_64, bd_X9_longest_39, f_X9_longest_c32, f_X9_longest_c2, f_X9_longest, gt_83, gr_83_9, gt_84, gl_84, hC, h1, m_noTen, l_of, n_ltT, n_ltF, n_leT, n_leF, n_eqT, n_eqF, n_neM, n_Mne, n_M0, n_Mlt, n_0leM, nI_clamp, x_in_nI, n_1, nI_add, x_at, x_bd_s, x_bv_s, ↓x_lt, decide_true, decide_false, Bool.and_self, Bool.true_and, Bool.and_true, if_true, if_false, ite_true, ite_false, ↓reduceIte, not_true_eq_false, not_false_eq_true, Nat.reduceAdd, Nat.reduceMul, Nat.reduceEqDiff, eq_self, true_and, and_true, false_and, and_false, Option.some.injEq, Prod.mk.injEq, l_0, l_1, l_2, l_3, l_4, l_5, l_6, l_7, l_8, l_9, l_10, l_100, l_160, ↓m_1, ↓m_2, ↓m_3, ↓m_4, ↓m_5, ↓m_6, ↓m_7])
  rw [nI_clamp (show v < 2 ^ 31 by omega), nI_clamp (show j < 2 ^ 31 by omega)]
  by_cases h2 : 5 < v
  · rw [if_pos (Or.inr h2)]
    exact m_no_end hG hI hMW (by simp (disch := first | assumption | omega) only [f_X9_longest_23, bd_X9_longest_223, f_X9_longest_206, f_X9_longest_177, f_X9_longest_c165, bd_X9_longest_118, bd_X9_longest_110, bd_X9_longest_73, bd_X9_longest_64, bd_X9_longest_39, f_X9_longest_c32, f_X9_longest_c2, f_X9_longest, gt_83, gr_83_9, gt_84, gl_84, hC, h2, m_noTen, l_of, n_ltT, n_ltF, n_leT, n_leF, n_eqT, n_eqF, n_neM, n_Mne, n_M0, n_Mlt, n_0leM, nI_clamp, x_in_nI, n_1, nI_add, x_at, x_bd_s, x_bv_s, ↓x_lt, decide_true, decide_false, Bool.and_self, Bool.true_and, Bool.and_true, if_true, if_false, ite_true, ite_false, ↓reduceIte, not_true_eq_false, not_false_eq_true, Nat.reduceAdd, Nat.reduceMul, Nat.reduceEqDiff, eq_self, true_and, and_true, false_and, and_false, Option.some.injEq, Prod.mk.injEq, l_0, l_1, l_2, l_3, l_4, l_5, l_6, l_7, l_8, l_9, l_10, l_100, l_160, ↓m_1, ↓m_2, ↓m_3, ↓m_4, ↓m_5, ↓m_6, ↓m_7])
  rw [if_neg (fun q => by rcases q with q | q; exact nI_pos (by omega) q; exact h2 q)]
  obtain ⟨q1, q2, q3, q4, q5⟩ := hc j (by omega)
  obtain ⟨y1, y2, y3, y4⟩ := wc j (by omega)
  have hT := m_turns hG (show j < 6 by omega) q1 q2 y1 y2
  obtain ⟨M1, a1, a2, a3⟩ := m_l39 (L := L) (b1 := b1) (b2 := b2) (v1 := nI j) (v2 := nI v) (v3 := nI (tn (r_q (s_now σ) 0 j) (r_q (s_now σ) 1 j))) 2010 x_fuel 0 M (fu (by omega)) hG (by omega)
  obtain ⟨M2, g1, g2, g3⟩ := m_l64 (L := L) (b1 := b1) (b2 := b2) (c := j) (b := v) (by omega) w1 w2 y1 y2 w3 w4 (by omega) (wl j jb) (show r_q (s_now σ) 3 j ≤ 800000 by omega) (v + 1) x_fuel 0 M1 (fu (by omega)) a2 ((a3.1 _ _ (by omega)).trans e1) ((a3.1 _ _ (by omega)).trans e2) ((a3.1 _ _ (by omega)).trans q1) ((a3.1 _ _ (by omega)).trans q2) ((a3.1 _ _ (by omega)).trans q3) ((a3.1 _ _ (by omega)).trans q5) (by omega) (fun h => absurd h (by omega))
  have a5 := a1.trans g1
  refine m_w_end g2 hI hMW ((a3.tr g3).mono (fun a k q => by omega)) ?_
  simp (disch := first | assumption | omega) only [f_X9_longest_23, bd_X9_longest_223, f_X9_longest_206, f_X9_longest_177, f_X9_longest_c165, bd_X9_longest_118, bd_X9_longest_110, bd_X9_longest_73, bd_X9_longest_64, bd_X9_longest_39, f_X9_longest_c32, f_X9_longest_c2, f_X9_longest, gt_83, hC, hT, l_of, n_ltT, n_ltF, n_leT, n_leF, n_eqT, n_eqF, n_neM, n_Mne, n_M0, n_Mlt, n_0leM, nI_clamp, x_in_nI, n_1, nI_add, x_at, x_bd_s, x_bv_s, ↓x_lt, decide_true, decide_false, Bool.and_self, Bool.true_and, Bool.and_true, if_true, if_false, ite_true, ite_false, ↓reduceIte, not_true_eq_false, not_false_eq_true, Nat.reduceAdd, Nat.reduceMul, Nat.reduceEqDiff, eq_self, true_and, and_true, false_and, and_false, Option.some.injEq, Prod.mk.injEq, l_0, l_1, l_2, l_3, l_4, l_5, l_6, l_7, l_8, l_9, l_10, l_100, l_160, ↓m_1, ↓m_2, ↓m_3, ↓m_4, ↓m_5, ↓m_6, ↓m_7]
  exact a5
