/-! CHANCES, the reference -/
theorem l_div {v o : Nat} (hv : v ≤ 1000000) (ho : o ≤ 1000) : ((nI v).toInt64 * (nI o).toInt64 / (1000 : Int64)).toInt32 = nI (br o v) := by
  have h : v * o ≤ 1000000 * 1000 := Nat.mul_le_mul hv ho
  rw [nI_l (by omega), nI_l (by omega), lN_mul]
  show (lN (v * o) / lN 1000).toInt32 = _
  rw [pk_lDiv (by omega) (by omega) (by omega), lN_i]
  rfl
/-- parts as the reference lays them: those below N, those through by residues -/
def RC (n T : Nat) (P : Nat → Nat → Nat) (R : Nat → Nat) (M : XM) : Prop := (∀ y h, y < n → h < T → x_i M 101 (10 * y + h) = nI (P y h)) ∧ (∀ h, h < T → x_i M 101 (10 * n + h) = nI (R h)) ∧ ∀ h, T ≤ h → h < 10 → x_i M 101 (10 * n + h) = nI 0
def MF (n o p kd a x0 hd k : Nat) (M : XM) : Prop := ∃ R, RC n (tn kd a) (fk o n p kd a x0 hd k).1 R M ∧ sm R (tn kd a) = (fk o n p kd a x0 hd k).2
def qi (o p kd a : Nat) (P : Nat → Nat → Nat) (i j : Nat) : Nat → Nat → Nat := fun y g => sm (fun x => sm (fun h => ct o p kd a P x h y g) (tn kd a)) i + sm (fun h => ct o p kd a P i h y g) j
theorem qi_T {o p kd a i : Nat} {P : Nat → Nat → Nat} : qi o p kd a P i (tn kd a) = qi o p kd a P (i + 1) 0 := by
  funext y g
  rfl
theorem qi_s {o p kd a i j : Nat} {P : Nat → Nat → Nat} : qi o p kd a P i (j + 1) = fun y g => (qi o p kd a P i j y g + if y = lf p kd a i (j + 1) ∧ g = (j + 1) % tn kd a then br o (P i j) else 0) + if y = i + 1 ∧ g = j then P i j - br o (P i j) else 0 := by
  funext y g
  show _ + (sm (fun h => ct o p kd a P i h y g) j + ct o p kd a P i j y g) = _
  unfold qi ct
  omega
theorem qi_0 {o p kd a i j : Nat} {P : Nat → Nat → Nat} (h : P i j = 0) : qi o p kd a P i (j + 1) = qi o p kd a P i j := by
  funext y g
  show _ + (sm (fun h => ct o p kd a P i h y g) j + ct o p kd a P i j y g) = _
  rw [ct_0 h]
  rfl
theorem C1_add {n T y0 g0 v : Nat} {Q : Nat → Nat → Nat} {M : XM} (hC : C1 n T 102 Q M) (ht : T ≤ 10) (hg0 : g0 < T) : C1 n T 102 (fun y g => Q y g + if y = y0 ∧ g = g0 then v else 0) (x_wi M 102 (10 * y0 + g0) (nI (Q y0 g0 + v))) := by
  intro y h hy hh
  rw [ii_wi]
  dsimp only
  by_cases q : y = y0 ∧ h = g0
  · obtain ⟨e1, e2⟩ := q
    subst e1
    subst e2
    rw [if_pos ⟨rfl, rfl⟩, if_pos ⟨rfl, rfl⟩]
  · rw [if_neg (by omega), if_neg q]
    exact hC y h hy hh
section
variable {L : Nat} {b1 b2 : Bool} {n o p kd a c x0 hd : Nat}
set_option maxHeartbeats 1000000 in
theorem m_w48 {κ : Nat → Int32 → Int32 → Int32 → XM → Option XM} {P : Nat → Nat → Nat} {i : Nat} (hc : c < 6) (hn : n ≤ 200) (ho : o ≤ 1000) (hi : i < n) (hk : kd ≤ 6) (ha : a ≤ 9) (hp : 1 ≤ p) (hp2 : p ≤ 200) (hP : ∀ y h, y < n → h < tn kd a → P y h ≤ 1000000) (d : Nat) : ∀ (F j : Nat) (M : XM), d < F → Geo L b1 b2 M → x_i M 83 2 = nI p → x_i M 83 3 = nI o → x_i M 85 c = nI kd → x_i M 86 c = nI a → j + d = tn kd a → (∀ h, h < tn kd a → x_i M 101 (10 * i + h) = nI (P i h)) → C1 n (tn kd a) 102 (qi o p kd a P i j) M →
    ∃ M', lp_X9_flows_48 κ F 83 (nI c) (nI (tn kd a)) (nI i) (nI j) M = κ 83 (nI c) (nI (tn kd a)) (nI (i + 1)) M' ∧ Geo L b1 b2 M' ∧ C1 n (tn kd a) 102 (qi o p kd a P (i + 1) 0) M' ∧ Fr (fun b k => b = 102 ∧ ∃ y g, g < tn kd a ∧ k = 10 * y + g) M M' := by
  have hT := tn_b (kd := kd) ha
  induction d with
  | zero =>
    intro F j M hF hG ep eo q1 q2 hj hA hB
    obtain ⟨F, rfl⟩ : ∃ i, F = i + 1 := ⟨F - 1, by omega⟩
    have e : j = tn kd a := by omega
    rw [e, qi_T] at hB
    refine ⟨M, ?_, hG, hB, Fr.rf⟩
    rw [s_lp_X9_flows_48, e]
    simp (disch := first | assumption | omega) only [bd_X9_flows_48, l_of, n_ltT, n_ltF, n_leT, n_leF, n_eqT, n_eqF, n_neM, n_Mne, n_M0, n_Mlt, n_0leM, nI_clamp, x_in_nI, n_1, nI_add, x_at, x_bd_s, x_bv_s, ↓x_lt, decide_true, decide_false, Bool.and_self, Bool.true_and, Bool.and_true, if_true, if_false, ite_true, ite_false, ↓reduceIte, not_true_eq_false, not_false_eq_true, Nat.reduceAdd, Nat.reduceMul, Nat.reduceEqDiff, eq_self, true_and, and_true, false_and, and_false, Option.some.injEq, Prod.mk.injEq, l_0, l_1, l_2, l_3, l_4, l_5, l_6, l_7, l_8, l_9, l_10, l_100, l_160, ↓m_1, ↓m_2, ↓m_3, ↓m_4, ↓m_5, ↓m_6, ↓m_7]
  | succ d ih =>
    intro F j M hF hG ep eo q1 q2 hj hA hB
    obtain ⟨F, rfl⟩ : ∃ i, F = i + 1 := ⟨F - 1, by omega⟩
    have y := hA j (by omega)
    have hPj := hP i j hi (by omega)
    rw [s_lp_X9_flows_48]
    by_cases hz : P i j = 0
    · obtain ⟨M2, g1, g2, g3, g4⟩ := ih F (j + 1) M (by omega) hG ep eo q1 q2 (by omega) hA (by rw [qi_0 hz]; exact hB)
      refine ⟨M2, ?_, g2, g3, g4⟩
      rw [hz] at y
      simp (disch := first | assumption | omega) only [bd_X9_flows_48, f_X9_flows_149, gt_83, gr_83_35, gt_101, gl_101, y, pk_mul, nI_add, l_of, n_ltT, n_ltF, n_leT, n_leF, n_eqT, n_eqF, n_neM, n_Mne, n_M0, n_Mlt, n_0leM, nI_clamp, x_in_nI, n_1, nI_add, x_at, x_bd_s, x_bv_s, ↓x_lt, decide_true, decide_false, Bool.and_self, Bool.true_and, Bool.and_true, if_true, if_false, ite_true, ite_false, ↓reduceIte, not_true_eq_false, not_false_eq_true, Nat.reduceAdd, Nat.reduceMul, Nat.reduceEqDiff, eq_self, true_and, and_true, false_and, and_false, Option.some.injEq, Prod.mk.injEq, l_0, l_1, l_2, l_3, l_4, l_5, l_6, l_7, l_8, l_9, l_10, l_100, l_160, ↓m_1, ↓m_2, ↓m_3, ↓m_4, ↓m_5, ↓m_6, ↓m_7]
      exact g1
    · have hl := m_left (x := i) (h := j + 1) hG hc q1 q2 ep hk ha (by omega) (by omega) hp hp2
      have hlb := lf_le p kd a i (j + 1)
      have hm := Nat.mod_lt (j + 1) (show tn kd a > 0 by omega)
      have z : nI (j + 1) - nI (j + 1) / nI (tn kd a) * nI (tn kd a) = nI ((j + 1) % tn kd a) := pk_rem (by omega) (by omega) (by omega)
      have zd := l_div (v := P i j) hPj ho
      have hbl := br_le (v := P i j) ho
      have b1' := C1_add (y0 := lf p kd a i (j + 1)) (v := br o (P i j)) hB (show tn kd a ≤ 10 by omega) hm
      have b2' := C1_add (y0 := i + 1) (v := P i j - br o (P i j)) b1' (show tn kd a ≤ 10 by omega) (show j < tn kd a by omega)
      rw [← qi_s] at b2'
      have y2 := hB (lf p kd a i (j + 1)) ((j + 1) % tn kd a) (by omega) hm
      have y3 := b1' (i + 1) j (by omega) (by omega)
      rw [show 10 * (i + 1) + j = 10 * i + 10 + j by omega] at y3 b2'
      have zs : nI (P i j) - nI (br o (P i j)) = nI (P i j - br o (P i j)) := pk_sub hbl
      dsimp only at y3 b2'
      have f0 : Fr (fun b k => b = 102 ∧ ∃ y g, g < tn kd a ∧ k = 10 * y + g) M (x_wi (x_wi M 102 (10 * lf p kd a i (j + 1) + (j + 1) % tn kd a) (nI (qi o p kd a P i j (lf p kd a i (j + 1)) ((j + 1) % tn kd a) + br o (P i j)))) 102 (10 * i + 10 + j) (nI (qi o p kd a P i j (i + 1) j + (if i + 1 = lf p kd a i (j + 1) ∧ j = (j + 1) % tn kd a then br o (P i j) else 0) + (P i j - br o (P i j))))) := (Fr.rf.wi ⟨rfl, _, _, hm, rfl⟩).wi ⟨rfl, i + 1, j, by omega, by omega⟩
      have k101 : ∀ k, x_i (x_wi (x_wi M 102 (10 * lf p kd a i (j + 1) + (j + 1) % tn kd a) (nI (qi o p kd a P i j (lf p kd a i (j + 1)) ((j + 1) % tn kd a) + br o (P i j)))) 102 (10 * i + 10 + j) (nI (qi o p kd a P i j (i + 1) j + (if i + 1 = lf p kd a i (j + 1) ∧ j = (j + 1) % tn kd a then br o (P i j) else 0) + (P i j - br o (P i j))))) 101 k = x_i M 101 k := fun k => by rw [ii_wi, if_neg (by omega), ii_wi, if_neg (by omega)]
      obtain ⟨M2, g1, g2, g3, g4⟩ := ih F (j + 1) _ (by omega) (show Geo L b1 b2 (x_wi (x_wi M 102 (10 * lf p kd a i (j + 1) + (j + 1) % tn kd a) (nI (qi o p kd a P i j (lf p kd a i (j + 1)) ((j + 1) % tn kd a) + br o (P i j)))) 102 (10 * i + 10 + j) (nI (qi o p kd a P i j (i + 1) j + (if i + 1 = lf p kd a i (j + 1) ∧ j = (j + 1) % tn kd a then br o (P i j) else 0) + (P i j - br o (P i j))))) from hG) ((f0.1 _ _ (by omega)).trans ep) ((f0.1 _ _ (by omega)).trans eo) ((f0.1 _ _ (by omega)).trans q1) ((f0.1 _ _ (by omega)).trans q2) (by omega) (fun h hh => (k101 _).trans (hA h hh)) b2'
      refine ⟨M2, ?_, g2, g3, f0.tr g4⟩
      clear b1' b2' k101 f0 ih hB
      generalize qi o p kd a P i j (lf p kd a i (j + 1)) ((j + 1) % tn kd a) = Y2 at y2 y3 g1 ⊢
      generalize (qi o p kd a P i j (i + 1) j + if i + 1 = lf p kd a i (j + 1) ∧ j = (j + 1) % tn kd a then br o (P i j) else 0) = Y3 at y3 g1 ⊢
      generalize (j + 1) % tn kd a = r at hm z y2 y3 g1 ⊢
      generalize lf p kd a i (j + 1) = l at hl hlb y2 y3 g1 ⊢
      generalize P i j - br o (P i j) = w2 at zs g1 ⊢
      generalize br o (P i j) = w at zd zs y3 g1 ⊢
      simp (disch := first | assumption | omega) only [bd_X9_flows_48, f_X9_flows_c113, f_X9_flows_149, gt_83, gr_83_35, gr_83_36, gt_101, gl_101, gt_102, gl_102, eo, y, hz, hl, z, zd, zs, y2, y3, pk_mul, nI_add, ti_wi, li_wi, ri_wi, l_of, n_ltT, n_ltF, n_leT, n_leF, n_eqT, n_eqF, n_neM, n_Mne, n_M0, n_Mlt, n_0leM, nI_clamp, x_in_nI, n_1, nI_add, x_at, x_bd_s, x_bv_s, ↓x_lt, decide_true, decide_false, Bool.and_self, Bool.true_and, Bool.and_true, if_true, if_false, ite_true, ite_false, ↓reduceIte, not_true_eq_false, not_false_eq_true, Nat.reduceAdd, Nat.reduceMul, Nat.reduceEqDiff, eq_self, true_and, and_true, false_and, and_false, Option.some.injEq, Prod.mk.injEq, l_0, l_1, l_2, l_3, l_4, l_5, l_6, l_7, l_8, l_9, l_10, l_100, l_160, ↓m_1, ↓m_2, ↓m_3, ↓m_4, ↓m_5, ↓m_6, ↓m_7]
      exact g1
end
