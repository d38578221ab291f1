section
variable {L : Nat} {b1 b2 : Bool} {n o p kd a c x0 hd : Nat}
abbrev PQ (T : Nat) : Nat → Nat → Prop := fun b k => b = 102 ∧ ∃ y g, g < T ∧ k = 10 * y + g
theorem m_w37 {P : Nat → Nat → Nat} (hc : c < 6) (hn : n ≤ 200) (ho : o ≤ 1000) (hk : kd ≤ 6) (ha : a ≤ 9) (hp : 1 ≤ p) (hp2 : p ≤ 200) (hP : ∀ y h, y < n → h < tn kd a → P y h ≤ 1000000) (d : Nat) : ∀ (F i : Nat) (M : XM), d < F → Geo L b1 b2 M → x_i M 83 1 = nI n → x_i M 83 2 = nI p → x_i M 83 3 = nI o → x_i M 85 c = nI kd → x_i M 86 c = nI a → i + d = n → (∀ y h, y < n → h < tn kd a → x_i M 101 (10 * y + h) = nI (P y h)) → C1 n (tn kd a) 102 (qi o p kd a P i 0) M →
    ∃ M', lp_X9_flows_37 F 83 (nI c) (nI (tn kd a)) (nI i) M = lp_X9_flows_163 x_fuel 83 (nI (tn kd a)) (nI 0) M' ∧ Geo L b1 b2 M' ∧ C1 n (tn kd a) 102 (qi o p kd a P n 0) M' ∧ Fr (PQ (tn kd a)) M M' := by
  induction d with
  | zero =>
    intro F i M hF hG en ep eo q1 q2 hi hA hB
    obtain ⟨F, rfl⟩ : ∃ i, F = i + 1 := ⟨F - 1, by omega⟩
    have e : i = n := by omega
    subst e
    refine ⟨M, ?_, hG, hB, Fr.rf⟩
    rw [s_lp_X9_flows_37]
    simp (disch := first | assumption | omega) only [bd_X9_flows_37, gt_83, en, l_of, n_ltT, n_ltF, n_leT, n_leF, n_eqT, n_eqF, n_neM, n_Mne, n_M0, n_Mlt, n_0leM, nI_clamp, x_in_nI, n_1, nI_add, x_at, x_bd_s, x_bv_s, ↓x_lt, decide_true, decide_false, Bool.and_self, Bool.true_and, Bool.and_true, if_true, if_false, ite_true, ite_false, ↓reduceIte, not_true_eq_false, not_false_eq_true, Nat.reduceAdd, Nat.reduceMul, Nat.reduceEqDiff, eq_self, true_and, and_true, false_and, and_false, Option.some.injEq, Prod.mk.injEq, l_0, l_1, l_2, l_3, l_4, l_5, l_6, l_7, l_8, l_9, l_10, l_100, l_160, ↓m_1, ↓m_2, ↓m_3, ↓m_4, ↓m_5, ↓m_6, ↓m_7]
  | succ d ih =>
    intro F i M hF hG en ep eo q1 q2 hi hA hB
    obtain ⟨F, rfl⟩ : ∃ i, F = i + 1 := ⟨F - 1, by omega⟩
    obtain ⟨M1, g1, g2, g3, g4⟩ := m_w48 (L := L) (b1 := b1) (b2 := b2) (κ := lp_X9_flows_37 F) hc hn ho (show i < n by omega) hk ha hp hp2 hP (tn kd a) x_fuel 0 M (fu (by have := tn_b (kd := kd) ha; omega)) hG ep eo q1 q2 (by omega) (fun h hh => hA i h (by omega) hh) hB
    have k : ∀ b q, b ≠ 102 → x_i M1 b q = x_i M b q := fun b q hb => g4.1 _ _ (fun z => hb z.1)
    obtain ⟨M2, u1, u2, u3, u4⟩ := ih F (i + 1) M1 (by omega) g2 ((k _ _ (by omega)).trans en) ((k _ _ (by omega)).trans ep) ((k _ _ (by omega)).trans eo) ((k _ _ (by omega)).trans q1) ((k _ _ (by omega)).trans q2) (by omega) (fun y h hy hh => (k _ _ (by omega)).trans (hA y h hy hh)) g3
    refine ⟨M2, ?_, u2, u3, g4.tr u4⟩
    rw [s_lp_X9_flows_37]
    simp (disch := first | assumption | omega) only [bd_X9_flows_37, gt_83, en, l_of, n_ltT, n_ltF, n_leT, n_leF, n_eqT, n_eqF, n_neM, n_Mne, n_M0, n_Mlt, n_0leM, nI_clamp, x_in_nI, n_1, nI_add, x_at, x_bd_s, x_bv_s, ↓x_lt, decide_true, decide_false, Bool.and_self, Bool.true_and, Bool.and_true, if_true, if_false, ite_true, ite_false, ↓reduceIte, not_true_eq_false, not_false_eq_true, Nat.reduceAdd, Nat.reduceMul, Nat.reduceEqDiff, eq_self, true_and, and_true, false_and, and_false, Option.some.injEq, Prod.mk.injEq, l_0, l_1, l_2, l_3, l_4, l_5, l_6, l_7, l_8, l_9, l_10, l_100, l_160, ↓m_1, ↓m_2, ↓m_3, ↓m_4, ↓m_5, ↓m_6, ↓m_7]
    exact g1.trans u1
theorem m_w163 {T : Nat} {Q R : Nat → Nat} (hn : n ≤ 200) (hT : T ≤ 10) (d : Nat) : ∀ (F j : Nat) (M : XM), d < F → Geo L b1 b2 M → x_i M 83 1 = nI n → j + d = T → (∀ h, h < T → x_i M 101 (10 * n + h) = nI (R h)) → (∀ h, h < T → x_i M 102 (10 * n + h) = nI (Q h + if h < j then R h else 0)) →
    ∃ M', lp_X9_flows_163 F 83 (nI T) (nI j) M = lp_X9_flows_207 x_fuel 83 (nI 0) M' ∧ Geo L b1 b2 M' ∧ (∀ h, h < T → x_i M' 102 (10 * n + h) = nI (Q h + R h)) ∧ Fr (fun b k => b = 102 ∧ 10 * n ≤ k ∧ k < 10 * n + T) M M' := by
  induction d with
  | zero =>
    intro F j M hF hG en hj hA hB
    obtain ⟨F, rfl⟩ : ∃ i, F = i + 1 := ⟨F - 1, by omega⟩
    refine ⟨M, ?_, hG, fun h hh => by have := hB h hh; rw [if_pos (by omega)] at this; exact this, Fr.rf⟩
    rw [s_lp_X9_flows_163, show j = T by omega]
    simp (disch := first | assumption | omega) only [bd_X9_flows_163, l_of, n_ltT, n_ltF, n_leT, n_leF, n_eqT, n_eqF, n_neM, n_Mne, n_M0, n_Mlt, n_0leM, nI_clamp, x_in_nI, n_1, nI_add, x_at, x_bd_s, x_bv_s, ↓x_lt, decide_true, decide_false, Bool.and_self, Bool.true_and, Bool.and_true, if_true, if_false, ite_true, ite_false, ↓reduceIte, not_true_eq_false, not_false_eq_true, Nat.reduceAdd, Nat.reduceMul, Nat.reduceEqDiff, eq_self, true_and, and_true, false_and, and_false, Option.some.injEq, Prod.mk.injEq, l_0, l_1, l_2, l_3, l_4, l_5, l_6, l_7, l_8, l_9, l_10, l_100, l_160, ↓m_1, ↓m_2, ↓m_3, ↓m_4, ↓m_5, ↓m_6, ↓m_7]
  | succ d ih =>
    intro F j M hF hG en hj hA hB
    obtain ⟨F, rfl⟩ : ∃ i, F = i + 1 := ⟨F - 1, by omega⟩
    have y1 := hA j (by omega)
    have y2 := hB j (by omega)
    rw [if_neg (by omega), Nat.add_zero] at y2
    have f0 : Fr (fun b k => b = 102 ∧ 10 * n ≤ k ∧ k < 10 * n + T) M (x_wi M 102 (10 * n + j) (nI (Q j + R j))) := Fr.rf.wi (by omega)
    obtain ⟨M2, g1, g2, g3, g4⟩ := ih F (j + 1) (x_wi M 102 (10 * n + j) (nI (Q j + R j))) (by omega) hG ((f0.1 _ _ (by omega)).trans en) (by omega) (fun h hh => (f0.1 _ _ (by omega)).trans (hA h hh)) (fun h hh => by
      rw [ii_wi]
      by_cases q : h = j
      · rw [if_pos ⟨rfl, by rw [q]⟩, q, if_pos (by omega)]
      · rw [if_neg (by omega), hB h hh]
        by_cases z : h < j
        · rw [if_pos z, if_pos (by omega)]
        · rw [if_neg z, if_neg (by omega)])
    refine ⟨M2, ?_, g2, g3, f0.tr g4⟩
    rw [s_lp_X9_flows_163]
    simp (disch := first | assumption | omega) only [bd_X9_flows_163, gt_83, gr_83_35, gr_83_36, gt_101, gl_101, gt_102, gl_102, en, y1, y2, pk_mul, nI_add, l_of, n_ltT, n_ltF, n_leT, n_leF, n_eqT, n_eqF, n_neM, n_Mne, n_M0, n_Mlt, n_0leM, nI_clamp, x_in_nI, n_1, nI_add, x_at, x_bd_s, x_bv_s, ↓x_lt, decide_true, decide_false, Bool.and_self, Bool.true_and, Bool.and_true, if_true, if_false, ite_true, ite_false, ↓reduceIte, not_true_eq_false, not_false_eq_true, Nat.reduceAdd, Nat.reduceMul, Nat.reduceEqDiff, eq_self, true_and, and_true, false_and, and_false, Option.some.injEq, Prod.mk.injEq, l_0, l_1, l_2, l_3, l_4, l_5, l_6, l_7, l_8, l_9, l_10, l_100, l_160, ↓m_1, ↓m_2, ↓m_3, ↓m_4, ↓m_5, ↓m_6, ↓m_7]
    exact g1
theorem m_w207 (hn : n ≤ 200) (d : Nat) : ∀ (F j : Nat) (M : XM), d < F → Geo L b1 b2 M → x_i M 83 1 = nI n → j + d = 10 * n + 10 → (∀ h, h < j → x_i M 101 h = x_i M 102 h) →
    ∃ M', lp_X9_flows_207 F 83 (nI j) M = some M' ∧ Geo L b1 b2 M' ∧ (∀ h, h < 10 * n + 10 → x_i M' 101 h = x_i M 102 h) ∧ Fr (fun a _ => a = 101) M M' := by
  induction d with
  | zero =>
    intro F j M hF hG en hj hh
    obtain ⟨F, rfl⟩ : ∃ i, F = i + 1 := ⟨F - 1, by omega⟩
    refine ⟨M, ?_, hG, fun h hl => hh h (by omega), Fr.rf⟩
    rw [s_lp_X9_flows_207, show j = 10 * n + 10 by omega]
    simp (disch := first | assumption | omega) only [bd_X9_flows_207, gt_83, en, pk_mul, nI_add, l_of, n_ltT, n_ltF, n_leT, n_leF, n_eqT, n_eqF, n_neM, n_Mne, n_M0, n_Mlt, n_0leM, nI_clamp, x_in_nI, n_1, nI_add, x_at, x_bd_s, x_bv_s, ↓x_lt, decide_true, decide_false, Bool.and_self, Bool.true_and, Bool.and_true, if_true, if_false, ite_true, ite_false, ↓reduceIte, not_true_eq_false, not_false_eq_true, Nat.reduceAdd, Nat.reduceMul, Nat.reduceEqDiff, eq_self, true_and, and_true, false_and, and_false, Option.some.injEq, Prod.mk.injEq, l_0, l_1, l_2, l_3, l_4, l_5, l_6, l_7, l_8, l_9, l_10, l_100, l_160, ↓m_1, ↓m_2, ↓m_3, ↓m_4, ↓m_5, ↓m_6, ↓m_7]
  | succ d ih =>
    intro F j M hF hG en hj hh
    obtain ⟨F, rfl⟩ : ∃ i, F = i + 1 := ⟨F - 1, by omega⟩
    have f0 : Fr (fun a _ => a = 101) M (x_wi M 101 j (x_i M 102 j)) := Fr.rf.wi (by omega)
    obtain ⟨M2, g1, g2, g3, g4⟩ := ih F (j + 1) (x_wi M 101 j (x_i M 102 j)) (by omega) hG ((f0.1 _ _ (by omega)).trans en) (by omega) (fun h hl => by
      rw [f0.1 102 h (by omega), ii_wi]
      split
      · next q => rw [q.2]
      · exact hh h (by omega))
    refine ⟨M2, ?_, g2, fun h hl => (g3 h hl).trans (f0.1 _ _ (by omega)), f0.tr g4⟩
    rw [s_lp_X9_flows_207]
    simp (disch := first | assumption | omega) only [bd_X9_flows_207, gt_83, gr_83_35, gr_83_36, gt_101, gl_101, gt_102, gl_102, en, pk_mul, nI_add, l_of, n_ltT, n_ltF, n_leT, n_leF, n_eqT, n_eqF, n_neM, n_Mne, n_M0, n_Mlt, n_0leM, nI_clamp, x_in_nI, n_1, nI_add, x_at, x_bd_s, x_bv_s, ↓x_lt, decide_true, decide_false, Bool.and_self, Bool.true_and, Bool.and_true, if_true, if_false, ite_true, ite_false, ↓reduceIte, not_true_eq_false, not_false_eq_true, Nat.reduceAdd, Nat.reduceMul, Nat.reduceEqDiff, eq_self, true_and, and_true, false_and, and_false, Option.some.injEq, Prod.mk.injEq, l_0, l_1, l_2, l_3, l_4, l_5, l_6, l_7, l_8, l_9, l_10, l_100, l_160, ↓m_1, ↓m_2, ↓m_3, ↓m_4, ↓m_5, ↓m_6, ↓m_7]
    exact g1
theorem m_w8 {v1 v2 : Int32} (hn : n ≤ 200) (d : Nat) : ∀ (F j : Nat) (M : XM), d < F → Geo L b1 b2 M → x_i M 83 1 = nI n → j + d = 10 * n + 10 → (∀ h, h < j → x_i M 102 h = nI 0) →
    ∃ M', lp_X9_flows_8 F 83 v1 v2 (nI j) M = lp_X9_flows_37 x_fuel 83 v1 v2 (nI 0) M' ∧ Geo L b1 b2 M' ∧ (∀ h, h < 10 * n + 10 → x_i M' 102 h = nI 0) ∧ Fr (fun a _ => a = 102) M M' := by
  induction d with
  | zero =>
    intro F j M hF hG en hj hh
    obtain ⟨F, rfl⟩ : ∃ i, F = i + 1 := ⟨F - 1, by omega⟩
    refine ⟨M, ?_, hG, fun h hl => hh h (by omega), Fr.rf⟩
    rw [s_lp_X9_flows_8, show j = 10 * n + 10 by omega]
    simp (disch := first | assumption | omega) only [bd_X9_flows_8, gt_83, en, pk_mul, nI_add, l_of, n_ltT, n_ltF, n_leT, n_leF, n_eqT, n_eqF, n_neM, n_Mne, n_M0, n_Mlt, n_0leM, nI_clamp, x_in_nI, n_1, nI_add, x_at, x_bd_s, x_bv_s, ↓x_lt, decide_true, decide_false, Bool.and_self, Bool.true_and, Bool.and_true, if_true, if_false, ite_true, ite_false, ↓reduceIte, not_true_eq_false, not_false_eq_true, Nat.reduceAdd, Nat.reduceMul, Nat.reduceEqDiff, eq_self, true_and, and_true, false_and, and_false, Option.some.injEq, Prod.mk.injEq, l_0, l_1, l_2, l_3, l_4, l_5, l_6, l_7, l_8, l_9, l_10, l_100, l_160, ↓m_1, ↓m_2, ↓m_3, ↓m_4, ↓m_5, ↓m_6, ↓m_7]
  | succ d ih =>
    intro F j M hF hG en hj hh
    obtain ⟨F, rfl⟩ : ∃ i, F = i + 1 := ⟨F - 1, by omega⟩
    have f0 : Fr (fun a _ => a = 102) M (x_wi M 102 j (nI 0)) := Fr.rf.wi (by omega)
    obtain ⟨M2, g1, g2, g3, g4⟩ := ih F (j + 1) (x_wi M 102 j (nI 0)) (by omega) hG ((f0.1 _ _ (by omega)).trans en) (by omega) (fun h hl => by
      rw [ii_wi]
      split
      · rfl
      · exact hh h (by omega))
    refine ⟨M2, ?_, g2, g3, f0.tr g4⟩
    rw [s_lp_X9_flows_8]
    simp (disch := first | assumption | omega) only [bd_X9_flows_8, gt_83, gr_83_36, gt_102, gl_102, en, pk_mul, nI_add, l_of, n_ltT, n_ltF, n_leT, n_leF, n_eqT, n_eqF, n_neM, n_Mne, n_M0, n_Mlt, n_0leM, nI_clamp, x_in_nI, n_1, nI_add, x_at, x_bd_s, x_bv_s, ↓x_lt, decide_true, decide_false, Bool.and_self, Bool.true_and, Bool.and_true, if_true, if_false, ite_true, ite_false, ↓reduceIte, not_true_eq_false, not_false_eq_true, Nat.reduceAdd, Nat.reduceMul, Nat.reduceEqDiff, eq_self, true_and, and_true, false_and, and_false, Option.some.injEq, Prod.mk.injEq, l_0, l_1, l_2, l_3, l_4, l_5, l_6, l_7, l_8, l_9, l_10, l_100, l_160, ↓m_1, ↓m_2, ↓m_3, ↓m_4, ↓m_5, ↓m_6, ↓m_7]
    exact g1
theorem sm_2 (f g : Nat → Nat) (k : Nat) : sm (fun i => f i + g i) k = sm f k + sm g k := sm_add f g k
theorem m_flows {k : Nat} {M : XM} (hc : c < 6) (hn : n ≤ 200) (ho : o ≤ 1000) (hk : kd ≤ 6) (ha : a ≤ 9) (hp : 1 ≤ p) (hp2 : p ≤ 200) (hx : x0 ≤ n) (hG : Geo L b1 b2 M) (en : x_i M 83 1 = nI n) (ep : x_i M 83 2 = nI p) (eo : x_i M 83 3 = nI o) (q1 : x_i M 85 c = nI kd) (q2 : x_i M 86 c = nI a) (hF : MF n o p kd a x0 hd k M) :
    ∃ M', f_X9_flows 83 (nI c) M = some M' ∧ Geo L b1 b2 M' ∧ MF n o p kd a x0 hd (k + 1) M' ∧ Fr PP M M' := by
  have hT := tn_b (kd := kd) ha
  obtain ⟨R, ⟨r1, r2, r3⟩, rs⟩ := hF
  have ht := m_turns hG hc q1 q2 hk ha
  obtain ⟨M1, a1, a2, a3, a4⟩ := m_w8 (L := L) (b1 := b1) (b2 := b2) (v1 := nI c) (v2 := nI (tn kd a)) hn (10 * n + 10) x_fuel 0 M (fu (by omega)) hG en (by omega) (fun h hh => absurd hh (by omega))
  have e1 : ∀ b q, b ≠ 102 → x_i M1 b q = x_i M b q := fun b q hb => a4.1 _ _ hb
  obtain ⟨M2, c1, c2, c3, c4⟩ := m_w37 (L := L) (b1 := b1) (b2 := b2) hc hn ho hk ha hp hp2 (fun y h hy hh => fk_le (p := p) (hd := hd) (k := k) ho ha hx hy hh) n x_fuel 0 M1 (fu (by omega)) a2 ((e1 _ _ (by omega)).trans en) ((e1 _ _ (by omega)).trans ep) ((e1 _ _ (by omega)).trans eo) ((e1 _ _ (by omega)).trans q1) ((e1 _ _ (by omega)).trans q2) (by omega) (fun y h hy hh => (e1 _ _ (by omega)).trans (r1 y h hy hh)) (fun y h hy hh => a3 _ (by omega))
  have e2 : ∀ b q, b ≠ 102 → x_i M2 b q = x_i M b q := fun b q hb => (c4.1 _ _ (fun z => hb z.1)).trans (e1 b q hb)
  obtain ⟨M3, d1, d2, d3, d4⟩ := m_w163 (L := L) (b1 := b1) (b2 := b2) (T := tn kd a) (Q := fun h => fl o n p kd a (fk o n p kd a x0 hd k).1 n h) (R := R) hn hT.2 (tn kd a) x_fuel 0 M2 (fu (by omega)) c2 ((e2 _ _ (by omega)).trans en) (by omega) (fun h hh => (e2 _ _ (by omega)).trans (r2 h hh)) (fun h hh => by
    rw [if_neg (by omega)]
    exact c3 n h (Nat.le_refl _) hh)
  have e3 : ∀ b q, b ≠ 102 → x_i M3 b q = x_i M b q := fun b q hb => (d4.1 _ _ (fun z => hb z.1)).trans (e2 b q hb)
  obtain ⟨M4, f1, f2, f3, f4⟩ := m_w207 (L := L) (b1 := b1) (b2 := b2) hn (10 * n + 10) x_fuel 0 M3 (fu (by omega)) d2 ((e3 _ _ (by omega)).trans en) (by omega) (fun h hh => absurd hh (by omega))
  have F : Fr PP M M4 := (((a4.mono (fun b k q => Or.inr q)).tr (c4.mono (fun b k q => Or.inr q.1))).tr (d4.mono (fun b k q => Or.inr q.1))).tr (f4.mono (fun b k q => Or.inl q))
  refine ⟨M4, ?_, f2, ⟨fun h => fl o n p kd a (fk o n p kd a x0 hd k).1 n h + R h, ⟨fun y h hy hh => ?_, fun h hh => ?_, fun h h1 h2 => ?_⟩, ?_⟩, F⟩
  · simp (disch := first | assumption | omega) only [f_X9_flows, f_X9_flows_c2, gt_83, ht, l_of, n_ltT, n_ltF, n_leT, n_leF, n_eqT, n_eqF, n_neM, n_Mne, n_M0, n_Mlt, n_0leM, nI_clamp, x_in_nI, n_1, nI_add, x_at, x_bd_s, x_bv_s, ↓x_lt, decide_true, decide_false, Bool.and_self, Bool.true_and, Bool.and_true, if_true, if_false, ite_true, ite_false, ↓reduceIte, not_true_eq_false, not_false_eq_true, Nat.reduceAdd, Nat.reduceMul, Nat.reduceEqDiff, eq_self, true_and, and_true, false_and, and_false, Option.some.injEq, Prod.mk.injEq, l_0, l_1, l_2, l_3, l_4, l_5, l_6, l_7, l_8, l_9, l_10, l_100, l_160, ↓m_1, ↓m_2, ↓m_3, ↓m_4, ↓m_5, ↓m_6, ↓m_7]
    exact ((a1.trans c1).trans d1).trans f1
  · rw [f3 _ (by omega), d4.1 _ _ (by omega)]
    exact c3 y h (by omega) hh
  · rw [f3 _ (by omega)]
    exact d3 h hh
  · rw [f3 _ (by omega), d4.1 _ _ (by omega), c4.1 _ _ (fun z => by obtain ⟨-, y, g, z1, z2⟩ := z; omega)]
    exact a3 _ (by omega)
  · rw [sm_add, fl_n, rs]
    exact Nat.add_comm _ _
theorem m_lays (hc : c < 6) (hn : n ≤ 200) (hk : kd ≤ 6) (ha : a ≤ 9) (hx : x0 ≤ n) (hh : hd ≤ 800000) (d : Nat) : ∀ (F j : Nat) (M : XM), d < F → Geo L b1 b2 M → x_i M 85 c = nI kd → x_i M 86 c = nI a → x_i M 87 c = nI x0 → x_i M 89 c = nI hd → j + d = 2010 → (∀ h, h < j → x_i M 101 h = nI 0) →
    ∃ M', lp_X9_lays_2 F 83 (nI c) (nI j) M = some M' ∧ Geo L b1 b2 M' ∧ MF n o p kd a x0 hd 0 M' ∧ Fr PP M M' := by
  have hT := tn_b (kd := kd) ha
  induction d with
  | zero =>
    intro F j M hF hG q1 q2 q3 q4 hj h0
    obtain ⟨F, rfl⟩ : ∃ i, F = i + 1 := ⟨F - 1, by omega⟩
    have hm := Nat.mod_lt hd (show tn kd a > 0 by omega)
    have z : nI hd - nI hd / nI (tn kd a) * nI (tn kd a) = nI (hd % tn kd a) := pk_rem (by omega) (by omega) (by omega)
    have ht := m_turns hG hc q1 q2 hk ha
    refine ⟨x_wi M 101 (10 * x0 + hd % tn kd a) (nI 1000000), ?_, hG, ⟨fun h => if n ≤ x0 ∧ h = hd % tn kd a then 1000000 else 0, ⟨fun y h hy hl => ?_, fun h hl => ?_, fun h h1 h2 => ?_⟩, ?_⟩, Fr.rf.wi (by omega)⟩
    · rw [s_lp_X9_lays_2, show j = 2010 by omega]
      generalize hd % tn kd a = r at hm z
      simp (disch := first | assumption | omega) only [bd_X9_lays_2, f_X9_lays_c43, gt_83, gr_83_12, gr_83_14, gr_83_35, gt_87, gl_87, gt_89, gl_89, gt_101, gl_101, q3, q4, ht, z, l_2010, l_1e6, pk_mul, nI_add, l_of, n_ltT, n_ltF, n_leT, n_leF, n_eqT, n_eqF, n_neM, n_Mne, n_M0, n_Mlt, n_0leM, nI_clamp, x_in_nI, n_1, nI_add, x_at, x_bd_s, x_bv_s, ↓x_lt, decide_true, decide_false, Bool.and_self, Bool.true_and, Bool.and_true, if_true, if_false, ite_true, ite_false, ↓reduceIte, not_true_eq_false, not_false_eq_true, Nat.reduceAdd, Nat.reduceMul, Nat.reduceEqDiff, eq_self, true_and, and_true, false_and, and_false, Option.some.injEq, Prod.mk.injEq, l_0, l_1, l_2, l_3, l_4, l_5, l_6, l_7, l_8, l_9, l_10, l_100, l_160, ↓m_1, ↓m_2, ↓m_3, ↓m_4, ↓m_5, ↓m_6, ↓m_7]
    · rw [ii_wi]
      show _ = nI (if y = x0 ∧ h = hd % tn kd a ∧ y < n then 1000000 else 0)
      by_cases q : y = x0 ∧ h = hd % tn kd a
      · rw [if_pos ⟨rfl, by rw [q.1, q.2]⟩, if_pos ⟨q.1, q.2, hy⟩]
      · rw [if_neg (by omega), if_neg (fun w => q ⟨w.1, w.2.1⟩)]
        exact h0 _ (by omega)
    · rw [ii_wi]
      dsimp only
      by_cases q : n ≤ x0 ∧ h = hd % tn kd a
      · rw [if_pos ⟨rfl, by rw [q.2]; omega⟩, if_pos q]
      · rw [if_neg (by omega), if_neg q]
        exact h0 _ (by omega)
    · rw [ii_wi, if_neg (by omega)]
      exact h0 _ (by omega)
    · show sm _ (tn kd a) = if n ≤ x0 then 1000000 else 0
      by_cases q : n ≤ x0
      · rw [if_pos q, sm_congr (g := fun h => if h = hd % tn kd a then 1000000 else 0) _ (fun h _ => by
          by_cases w : h = hd % tn kd a
          · rw [if_pos ⟨q, w⟩, if_pos w]
          · rw [if_neg (fun z => w z.2), if_neg w]), sm_one _ hm]
      · rw [if_neg q, sm_z _ (fun h _ => if_neg (fun z => q z.1))]
  | succ d ih =>
    intro F j M hF hG q1 q2 q3 q4 hj h0
    obtain ⟨F, rfl⟩ : ∃ i, F = i + 1 := ⟨F - 1, by omega⟩
    have f0 : Fr PP M (x_wi M 101 j (nI 0)) := Fr.rf.wi (by omega)
    obtain ⟨M2, g1, g2, g3, g4⟩ := ih F (j + 1) (x_wi M 101 j (nI 0)) (by omega) hG ((f0.1 _ _ (by omega)).trans q1) ((f0.1 _ _ (by omega)).trans q2) ((f0.1 _ _ (by omega)).trans q3) ((f0.1 _ _ (by omega)).trans q4) (by omega) (fun h hl => by
      rw [ii_wi]
      split
      · rfl
      · exact h0 h (by omega))
    refine ⟨M2, ?_, g2, g3, f0.tr g4⟩
    rw [s_lp_X9_lays_2]
    simp (disch := first | assumption | omega) only [bd_X9_lays_2, gt_83, gr_83_35, gt_101, gl_101, l_2010, l_of, n_ltT, n_ltF, n_leT, n_leF, n_eqT, n_eqF, n_neM, n_Mne, n_M0, n_Mlt, n_0leM, nI_clamp, x_in_nI, n_1, nI_add, x_at, x_bd_s, x_bv_s, ↓x_lt, decide_true, decide_false, Bool.and_self, Bool.true_and, Bool.and_true, if_true, if_false, ite_true, ite_false, ↓reduceIte, not_true_eq_false, not_false_eq_true, Nat.reduceAdd, Nat.reduceMul, Nat.reduceEqDiff, eq_self, true_and, and_true, false_and, and_false, Option.some.injEq, Prod.mk.injEq, l_0, l_1, l_2, l_3, l_4, l_5, l_6, l_7, l_8, l_9, l_10, l_100, l_160, ↓m_1, ↓m_2, ↓m_3, ↓m_4, ↓m_5, ↓m_6, ↓m_7]
    exact g1
theorem m_pt {M : XM} {R : Nat → Nat} {T : Nat} (hn : n ≤ 200) (hT : T ≤ 10) (hG : Geo L b1 b2 M) (en : x_i M 83 1 = nI n) (r2 : ∀ h, h < T → x_i M 101 (10 * n + h) = nI (R h)) (r3 : ∀ h, T ≤ h → h < 10 → x_i M 101 (10 * n + h) = nI 0) (d : Nat) : ∀ (F j : Nat), d < F → j + d = 10 → lp_X9_partsThrough_4 F 83 (nI (sm (fun h => if h < T then R h else 0) j)) (nI j) M = some (nI (sm R T), M) := by
  induction d with
  | zero =>
    intro F j hF hj
    obtain ⟨F, rfl⟩ : ∃ i, F = i + 1 := ⟨F - 1, by omega⟩
    rw [s_lp_X9_partsThrough_4, show j = 10 by omega, sm_ext (f := fun h => if h < T then R h else 0) hT (fun h h1 _ => if_neg (by omega)), sm_congr (g := R) T (fun h hh => if_pos hh)]
    simp (disch := first | assumption | omega) only [bd_X9_partsThrough_4, l_of, n_ltT, n_ltF, n_leT, n_leF, n_eqT, n_eqF, n_neM, n_Mne, n_M0, n_Mlt, n_0leM, nI_clamp, x_in_nI, n_1, nI_add, x_at, x_bd_s, x_bv_s, ↓x_lt, decide_true, decide_false, Bool.and_self, Bool.true_and, Bool.and_true, if_true, if_false, ite_true, ite_false, ↓reduceIte, not_true_eq_false, not_false_eq_true, Nat.reduceAdd, Nat.reduceMul, Nat.reduceEqDiff, eq_self, true_and, and_true, false_and, and_false, Option.some.injEq, Prod.mk.injEq, l_0, l_1, l_2, l_3, l_4, l_5, l_6, l_7, l_8, l_9, l_10, l_100, l_160, ↓m_1, ↓m_2, ↓m_3, ↓m_4, ↓m_5, ↓m_6, ↓m_7]
  | succ d ih =>
    intro F j hF hj
    obtain ⟨F, rfl⟩ : ∃ i, F = i + 1 := ⟨F - 1, by omega⟩
    have g := ih F (j + 1) (by omega) (by omega)
    have e : sm (fun h => if h < T then R h else 0) (j + 1) = sm (fun h => if h < T then R h else 0) j + if j < T then R j else 0 := rfl
    rw [e] at g
    have y : x_i M 101 (10 * n + j) = nI (if j < T then R j else 0) := by
      by_cases q : j < T
      · rw [if_pos q]; exact r2 j q
      · rw [if_neg q]; exact r3 j (by omega) (by omega)
    rw [s_lp_X9_partsThrough_4]
    generalize (if j < T then R j else 0) = w at y g
    generalize sm (fun h => if h < T then R h else 0) j = s at g ⊢
    simp (disch := first | assumption | omega) only [bd_X9_partsThrough_4, gt_83, gr_83_35, gt_101, gl_101, en, y, pk_mul, nI_add, l_of, n_ltT, n_ltF, n_leT, n_leF, n_eqT, n_eqF, n_neM, n_Mne, n_M0, n_Mlt, n_0leM, nI_clamp, x_in_nI, n_1, nI_add, x_at, x_bd_s, x_bv_s, ↓x_lt, decide_true, decide_false, Bool.and_self, Bool.true_and, Bool.and_true, if_true, if_false, ite_true, ite_false, ↓reduceIte, not_true_eq_false, not_false_eq_true, Nat.reduceAdd, Nat.reduceMul, Nat.reduceEqDiff, eq_self, true_and, and_true, false_and, and_false, Option.some.injEq, Prod.mk.injEq, l_0, l_1, l_2, l_3, l_4, l_5, l_6, l_7, l_8, l_9, l_10, l_100, l_160, ↓m_1, ↓m_2, ↓m_3, ↓m_4, ↓m_5, ↓m_6, ↓m_7]
    exact g
theorem m_ptf {M : XM} {k : Nat} (hn : n ≤ 200) (ha : a ≤ 9) (hG : Geo L b1 b2 M) (en : x_i M 83 1 = nI n) (hF : MF n o p kd a x0 hd k M) : f_X9_partsThrough 83 M = some (nI (fk o n p kd a x0 hd k).2, M) := by
  have hT := tn_b (kd := kd) ha
  obtain ⟨R, ⟨r1, r2, r3⟩, rs⟩ := hF
  rw [← rs]
  exact m_pt hn hT.2 hG en r2 r3 10 x_fuel 0 (fu (by omega)) (by omega)
theorem m_ch7 {t : Nat} (hc : c < 6) (hn : n ≤ 200) (ho : o ≤ 1000) (hk : kd ≤ 6) (ha : a ≤ 9) (hp : 1 ≤ p) (hp2 : p ≤ 200) (hx : x0 ≤ n) (ht : t ≤ 400) (d : Nat) : ∀ (F k : Nat) (M : XM), d < F → Geo L b1 b2 M → x_i M 83 1 = nI n → x_i M 83 2 = nI p → x_i M 83 3 = nI o → x_i M 85 c = nI kd → x_i M 86 c = nI a → k + d = t → MF n o p kd a x0 hd k M →
    ∃ M', lp_X9_chanceOf_7 F 83 (nI c) (nI t) (nI k) M = some (nI (fk o n p kd a x0 hd t).2, M') ∧ Geo L b1 b2 M' ∧ Fr PP M M' := by
  induction d with
  | zero =>
    intro F k M hF hG en ep eo q1 q2 hk' hM
    obtain ⟨F, rfl⟩ : ∃ i, F = i + 1 := ⟨F - 1, by omega⟩
    have e : k = t := by omega
    subst e
    have hpt := m_ptf hn ha hG en hM
    refine ⟨M, ?_, hG, Fr.rf⟩
    rw [s_lp_X9_chanceOf_7]
    simp (disch := first | assumption | omega) only [bd_X9_chanceOf_7, gt_83, hpt, l_of, n_ltT, n_ltF, n_leT, n_leF, n_eqT, n_eqF, n_neM, n_Mne, n_M0, n_Mlt, n_0leM, nI_clamp, x_in_nI, n_1, nI_add, x_at, x_bd_s, x_bv_s, ↓x_lt, decide_true, decide_false, Bool.and_self, Bool.true_and, Bool.and_true, if_true, if_false, ite_true, ite_false, ↓reduceIte, not_true_eq_false, not_false_eq_true, Nat.reduceAdd, Nat.reduceMul, Nat.reduceEqDiff, eq_self, true_and, and_true, false_and, and_false, Option.some.injEq, Prod.mk.injEq, l_0, l_1, l_2, l_3, l_4, l_5, l_6, l_7, l_8, l_9, l_10, l_100, l_160, ↓m_1, ↓m_2, ↓m_3, ↓m_4, ↓m_5, ↓m_6, ↓m_7]
  | succ d ih =>
    intro F k M hF hG en ep eo q1 q2 hk' hM
    obtain ⟨F, rfl⟩ : ∃ i, F = i + 1 := ⟨F - 1, by omega⟩
    obtain ⟨M1, g1, g2, g3, g4⟩ := m_flows hc hn ho hk ha hp hp2 hx hG en ep eo q1 q2 hM
    obtain ⟨M2, u1, u2, u3⟩ := ih F (k + 1) M1 (by omega) g2 ((g4.1 _ _ (by omega)).trans en) ((g4.1 _ _ (by omega)).trans ep) ((g4.1 _ _ (by omega)).trans eo) ((g4.1 _ _ (by omega)).trans q1) ((g4.1 _ _ (by omega)).trans q2) (by omega) g3
    refine ⟨M2, ?_, u2, g4.tr u3⟩
    rw [s_lp_X9_chanceOf_7]
    simp (disch := first | assumption | omega) only [bd_X9_chanceOf_7, f_X9_chanceOf_c14, gt_83, g1, l_of, n_ltT, n_ltF, n_leT, n_leF, n_eqT, n_eqF, n_neM, n_Mne, n_M0, n_Mlt, n_0leM, nI_clamp, x_in_nI, n_1, nI_add, x_at, x_bd_s, x_bv_s, ↓x_lt, decide_true, decide_false, Bool.and_self, Bool.true_and, Bool.and_true, if_true, if_false, ite_true, ite_false, ↓reduceIte, not_true_eq_false, not_false_eq_true, Nat.reduceAdd, Nat.reduceMul, Nat.reduceEqDiff, eq_self, true_and, and_true, false_and, and_false, Option.some.injEq, Prod.mk.injEq, l_0, l_1, l_2, l_3, l_4, l_5, l_6, l_7, l_8, l_9, l_10, l_100, l_160, ↓m_1, ↓m_2, ↓m_3, ↓m_4, ↓m_5, ↓m_6, ↓m_7]
    exact u1
theorem m_me7 {v : Nat} (hc : c < 6) (hn : n ≤ 200) (ho : o ≤ 1000) (hk : kd ≤ 6) (ha : a ≤ 9) (hp : 1 ≤ p) (hp2 : p ≤ 200) (hx : x0 ≤ n) (hv : v ≤ 1000000) (d : Nat) : ∀ (F k : Nat) (M : XM), d < F → Geo L b1 b2 M → x_i M 83 1 = nI n → x_i M 83 2 = nI p → x_i M 83 3 = nI o → x_i M 85 c = nI kd → x_i M 86 c = nI a → k + d = 401 → MF n o p kd a x0 hd k M →
    ∃ M', lp_X9_medianOf_7 F 83 (nI c) (nI v) (nI k) M = some (oI (um o n p kd a x0 hd v d k), M') ∧ Geo L b1 b2 M' ∧ Fr PP M M' := by
  induction d with
  | zero =>
    intro F k M hF hG en ep eo q1 q2 hk' hM
    obtain ⟨F, rfl⟩ : ∃ i, F = i + 1 := ⟨F - 1, by omega⟩
    refine ⟨M, ?_, hG, Fr.rf⟩
    rw [s_lp_X9_medianOf_7, show k = 401 by omega]
    simp (disch := first | assumption | omega) only [bd_X9_medianOf_7, um, oI, l_400, l_of, n_ltT, n_ltF, n_leT, n_leF, n_eqT, n_eqF, n_neM, n_Mne, n_M0, n_Mlt, n_0leM, nI_clamp, x_in_nI, n_1, nI_add, x_at, x_bd_s, x_bv_s, ↓x_lt, decide_true, decide_false, Bool.and_self, Bool.true_and, Bool.and_true, if_true, if_false, ite_true, ite_false, ↓reduceIte, not_true_eq_false, not_false_eq_true, Nat.reduceAdd, Nat.reduceMul, Nat.reduceEqDiff, eq_self, true_and, and_true, false_and, and_false, Option.some.injEq, Prod.mk.injEq, l_0, l_1, l_2, l_3, l_4, l_5, l_6, l_7, l_8, l_9, l_10, l_100, l_160, ↓m_1, ↓m_2, ↓m_3, ↓m_4, ↓m_5, ↓m_6, ↓m_7]
  | succ d ih =>
    intro F k M hF hG en ep eo q1 q2 hk' hM
    obtain ⟨F, rfl⟩ : ∃ i, F = i + 1 := ⟨F - 1, by omega⟩
    have hpt := m_ptf hn ha hG en hM
    have hA := fk_A (p := p) (kd := kd) (hd := hd) (k := k) ho ha hx
    rw [s_lp_X9_medianOf_7]
    unfold um
    by_cases q : v ≤ (fk o n p kd a x0 hd k).2
    · rw [if_pos q]
      refine ⟨M, ?_, hG, Fr.rf⟩
      simp (disch := first | assumption | omega) only [bd_X9_medianOf_7, f_X9_medianOf_c15, gt_83, hpt, oI, l_400, l_of, n_ltT, n_ltF, n_leT, n_leF, n_eqT, n_eqF, n_neM, n_Mne, n_M0, n_Mlt, n_0leM, nI_clamp, x_in_nI, n_1, nI_add, x_at, x_bd_s, x_bv_s, ↓x_lt, decide_true, decide_false, Bool.and_self, Bool.true_and, Bool.and_true, if_true, if_false, ite_true, ite_false, ↓reduceIte, not_true_eq_false, not_false_eq_true, Nat.reduceAdd, Nat.reduceMul, Nat.reduceEqDiff, eq_self, true_and, and_true, false_and, and_false, Option.some.injEq, Prod.mk.injEq, l_0, l_1, l_2, l_3, l_4, l_5, l_6, l_7, l_8, l_9, l_10, l_100, l_160, ↓m_1, ↓m_2, ↓m_3, ↓m_4, ↓m_5, ↓m_6, ↓m_7]
    · rw [if_neg q]
      obtain ⟨M1, g1, g2, g3, g4⟩ := m_flows hc hn ho hk ha hp hp2 hx hG en ep eo q1 q2 hM
      obtain ⟨M2, u1, u2, u3⟩ := ih F (k + 1) M1 (by omega) g2 ((g4.1 _ _ (by omega)).trans en) ((g4.1 _ _ (by omega)).trans ep) ((g4.1 _ _ (by omega)).trans eo) ((g4.1 _ _ (by omega)).trans q1) ((g4.1 _ _ (by omega)).trans q2) (by omega) g3
      refine ⟨M2, ?_, u2, g4.tr u3⟩
      simp (disch := first | assumption | omega) only [bd_X9_medianOf_7, f_X9_medianOf_c15, f_X9_medianOf_c26, gt_83, hpt, g1, l_400, l_of, n_ltT, n_ltF, n_leT, n_leF, n_eqT, n_eqF, n_neM, n_Mne, n_M0, n_Mlt, n_0leM, nI_clamp, x_in_nI, n_1, nI_add, x_at, x_bd_s, x_bv_s, ↓x_lt, decide_true, decide_false, Bool.and_self, Bool.true_and, Bool.and_true, if_true, if_false, ite_true, ite_false, ↓reduceIte, not_true_eq_false, not_false_eq_true, Nat.reduceAdd, Nat.reduceMul, Nat.reduceEqDiff, eq_self, true_and, and_true, false_and, and_false, Option.some.injEq, Prod.mk.injEq, l_0, l_1, l_2, l_3, l_4, l_5, l_6, l_7, l_8, l_9, l_10, l_100, l_160, ↓m_1, ↓m_2, ↓m_3, ↓m_4, ↓m_5, ↓m_6, ↓m_7]
      exact u1
theorem m_chance {M : XM} {t : Nat} (hc : c < 6) (hn : n ≤ 200) (ho : o ≤ 1000) (hk : kd ≤ 6) (ha : a ≤ 9) (hp : 1 ≤ p) (hp2 : p ≤ 200) (hx : x0 ≤ n) (hh : hd ≤ 800000) (ht : t ≤ 400) (hG : Geo L b1 b2 M) (en : x_i M 83 1 = nI n) (ep : x_i M 83 2 = nI p) (eo : x_i M 83 3 = nI o) (q1 : x_i M 85 c = nI kd) (q2 : x_i M 86 c = nI a) (q3 : x_i M 87 c = nI x0) (q5 : x_i M 89 c = nI hd) :
    ∃ M', f_X9_chanceOf 83 (nI c) (nI t) M = some (nI (fk o n p kd a x0 hd t).2, M') ∧ Geo L b1 b2 M' ∧ Fr PP M M' := by
  obtain ⟨M1, g1, g2, g3, g4⟩ := m_lays (L := L) (b1 := b1) (b2 := b2) (o := o) (p := p) hc hn hk ha hx hh 2010 x_fuel 0 M (fu (by omega)) hG q1 q2 q3 q5 (by omega) (fun h hz => absurd hz (by omega))
  obtain ⟨M2, u1, u2, u3⟩ := m_ch7 (L := L) (b1 := b1) (b2 := b2) hc hn ho hk ha hp hp2 hx ht t x_fuel 0 M1 (fu (by omega)) g2 ((g4.1 _ _ (by omega)).trans en) ((g4.1 _ _ (by omega)).trans ep) ((g4.1 _ _ (by omega)).trans eo) ((g4.1 _ _ (by omega)).trans q1) ((g4.1 _ _ (by omega)).trans q2) (by omega) g3
  refine ⟨M2, ?_, u2, g4.tr u3⟩
  have g1 : f_X9_lays 83 (nI c) M = some M1 := g1
  simp (disch := first | assumption | omega) only [f_X9_chanceOf, f_X9_chanceOf_c2, gt_83, g1, l_of, n_ltT, n_ltF, n_leT, n_leF, n_eqT, n_eqF, n_neM, n_Mne, n_M0, n_Mlt, n_0leM, nI_clamp, x_in_nI, n_1, nI_add, x_at, x_bd_s, x_bv_s, ↓x_lt, decide_true, decide_false, Bool.and_self, Bool.true_and, Bool.and_true, if_true, if_false, ite_true, ite_false, ↓reduceIte, not_true_eq_false, not_false_eq_true, Nat.reduceAdd, Nat.reduceMul, Nat.reduceEqDiff, eq_self, true_and, and_true, false_and, and_false, Option.some.injEq, Prod.mk.injEq, l_0, l_1, l_2, l_3, l_4, l_5, l_6, l_7, l_8, l_9, l_10, l_100, l_160, ↓m_1, ↓m_2, ↓m_3, ↓m_4, ↓m_5, ↓m_6, ↓m_7]
  exact u1
theorem m_median {M : XM} {v : Nat} (hc : c < 6) (hn : n ≤ 200) (ho : o ≤ 1000) (hk : kd ≤ 6) (ha : a ≤ 9) (hp : 1 ≤ p) (hp2 : p ≤ 200) (hx : x0 ≤ n) (hh : hd ≤ 800000) (hv : v ≤ 1000000) (hG : Geo L b1 b2 M) (en : x_i M 83 1 = nI n) (ep : x_i M 83 2 = nI p) (eo : x_i M 83 3 = nI o) (q1 : x_i M 85 c = nI kd) (q2 : x_i M 86 c = nI a) (q3 : x_i M 87 c = nI x0) (q5 : x_i M 89 c = nI hd) :
    ∃ M', f_X9_medianOf 83 (nI c) (nI v) M = some (oI (um o n p kd a x0 hd v 401 0), M') ∧ Geo L b1 b2 M' ∧ Fr PP M M' := by
  obtain ⟨M1, g1, g2, g3, g4⟩ := m_lays (L := L) (b1 := b1) (b2 := b2) (o := o) (p := p) hc hn hk ha hx hh 2010 x_fuel 0 M (fu (by omega)) hG q1 q2 q3 q5 (by omega) (fun h hz => absurd hz (by omega))
  obtain ⟨M2, u1, u2, u3⟩ := m_me7 (L := L) (b1 := b1) (b2 := b2) hc hn ho hk ha hp hp2 hx hv 401 x_fuel 0 M1 (fu (by omega)) g2 ((g4.1 _ _ (by omega)).trans en) ((g4.1 _ _ (by omega)).trans ep) ((g4.1 _ _ (by omega)).trans eo) ((g4.1 _ _ (by omega)).trans q1) ((g4.1 _ _ (by omega)).trans q2) (by omega) g3
  refine ⟨M2, ?_, u2, g4.tr u3⟩
  have g1 : f_X9_lays 83 (nI c) M = some M1 := g1
  simp (disch := first | assumption | omega) only [f_X9_medianOf, f_X9_medianOf_c2, gt_83, g1, l_of, n_ltT, n_ltF, n_leT, n_leF, n_eqT, n_eqF, n_neM, n_Mne, n_M0, n_Mlt, n_0leM, nI_clamp, x_in_nI, n_1, nI_add, x_at, x_bd_s, x_bv_s, ↓x_lt, decide_true, decide_false, Bool.and_self, Bool.true_and, Bool.and_true, if_true, if_false, ite_true, ite_false, ↓reduceIte, not_true_eq_false, not_false_eq_true, Nat.reduceAdd, Nat.reduceMul, Nat.reduceEqDiff, eq_self, true_and, and_true, false_and, and_false, Option.some.injEq, Prod.mk.injEq, l_0, l_1, l_2, l_3, l_4, l_5, l_6, l_7, l_8, l_9, l_10, l_100, l_160, ↓m_1, ↓m_2, ↓m_3, ↓m_4, ↓m_5, ↓m_6, ↓m_7]
  exact u1
end
