/-! fits, the reference's side: the least by residues -/
def RP (n tt hd : Nat) (S : Nat → Nat → Prop) (P : Nat → Nat → Nat) : Prop := ∀ y h, y ≤ n → h < tt → P y h ≤ 9 ∧ (∀ b, b ≤ 8 → S y b → (hd + b) % tt = h → P y h ≤ b) ∧ (P y h ≤ 8 → S y (P y h) ∧ (hd + P y h) % tt = h)
def RQ (n tt p kd a : Nat) (P : Nat → Nat → Nat) (i j : Nat) (Q : Nat → Nat → Nat) : Prop :=
  (∀ y h, y ≤ n → h < tt → Q y h ≤ 9) ∧
  (∀ x g, (x < i ∨ x = i ∧ g < j) → x < n → g < tt → Q (x + 1) g ≤ P x g ∧ Q (lf p kd a x (g + 1)) ((g + 1) % tt) ≤ P x g + 1) ∧
  (∀ y h, y ≤ n → h < tt → Q y h = 9 ∨ (∃ x, (x < i ∨ x = i ∧ h < j) ∧ x + 1 = y ∧ Q y h = P x h) ∨ ∃ x g, (x < i ∨ x = i ∧ g < j) ∧ g < tt ∧ y = lf p kd a x (g + 1) ∧ h = (g + 1) % tt ∧ Q y h = P x g + 1)
def upq (Q : Nat → Nat → Nat) (y0 h0 v : Nat) : Nat → Nat → Nat := fun y h => if y = y0 ∧ h = h0 then (if Q y h ≤ v then Q y h else v) else Q y h
theorem up_le (Q : Nat → Nat → Nat) (y0 h0 v y h : Nat) : upq Q y0 h0 v y h ≤ Q y h := by
  unfold upq
  repeat' split
  all_goals omega
theorem up_at (Q : Nat → Nat → Nat) (y0 h0 v : Nat) : upq Q y0 h0 v y0 h0 ≤ v := by
  unfold upq
  rw [if_pos ⟨rfl, rfl⟩]
  split <;> omega
theorem up_or (Q : Nat → Nat → Nat) (y0 h0 v y h : Nat) : upq Q y0 h0 v y h = Q y h ∨ (y = y0 ∧ h = h0 ∧ upq Q y0 h0 v y h = v) := by
  unfold upq
  split
  · next q =>
    split
    · exact Or.inl rfl
    · exact Or.inr ⟨q.1, q.2, rfl⟩
  · exact Or.inl rfl
theorem RQ.s {n tt p kd a i j : Nat} {P Q : Nat → Nat → Nat} (h : RQ n tt p kd a P i j Q) (hj : j < tt) : RQ n tt p kd a P i (j + 1) (upq (upq Q (i + 1) j (P i j)) (lf p kd a i (j + 1)) ((j + 1) % tt) (P i j + 1)) := by
  obtain ⟨h1, h2, h3⟩ := h
  have hle := fun y h => Nat.le_trans (up_le (upq Q (i + 1) j (P i j)) (lf p kd a i (j + 1)) ((j + 1) % tt) (P i j + 1) y h) (up_le Q (i + 1) j (P i j) y h)
  refine ⟨fun y h hy hh => Nat.le_trans (hle y h) (h1 y h hy hh), fun x g hx hn hg => ?_, fun y h hy hh => ?_⟩
  · by_cases hq : x < i ∨ x = i ∧ g < j
    · obtain ⟨z1, z2⟩ := h2 x g hq hn hg
      exact ⟨Nat.le_trans (hle _ _) z1, Nat.le_trans (hle _ _) z2⟩
    · have e1 : x = i := by omega
      have e2 : g = j := by omega
      subst e1
      subst e2
      exact ⟨Nat.le_trans (up_le _ _ _ _ _ _) (up_at _ _ _ _), up_at _ _ _ _⟩
  · rcases up_or (upq Q (i + 1) j (P i j)) (lf p kd a i (j + 1)) ((j + 1) % tt) (P i j + 1) y h with z | ⟨z1, z2, z3⟩
    · rw [z]
      rcases up_or Q (i + 1) j (P i j) y h with u | ⟨u1, u2, u3⟩
      · rw [u]
        rcases h3 y h hy hh with v | ⟨x, v1, v2⟩ | ⟨x, g, v1, v2⟩
        · exact Or.inl v
        · exact Or.inr (Or.inl ⟨x, by omega, v2⟩)
        · exact Or.inr (Or.inr ⟨x, g, by omega, v2⟩)
      · exact Or.inr (Or.inl ⟨i, by omega, u1.symm, by rw [u3, u2]⟩)
    · exact Or.inr (Or.inr ⟨i, j, by omega, hj, z1, z2, z3⟩)
theorem RQ.n {n tt p kd a i : Nat} {P Q : Nat → Nat → Nat} (h : RQ n tt p kd a P i tt Q) : RQ n tt p kd a P (i + 1) 0 Q := by
  obtain ⟨h1, h2, h3⟩ := h
  refine ⟨h1, fun x g hx hn hg => h2 x g (by omega) hn hg, fun y h hy hh => ?_⟩
  rcases h3 y h hy hh with v | ⟨x, v1, v2⟩ | ⟨x, g, v1, v2⟩
  · exact Or.inl v
  · exact Or.inr (Or.inl ⟨x, by omega, v2⟩)
  · exact Or.inr (Or.inr ⟨x, g, by omega, v2⟩)
theorem RQ.f {n p kd a hd : Nat} {S : Nat → Nat → Prop} {P Q : Nat → Nat → Nat} (ha : a ≤ 9) (hq : RQ n (tn kd a) p kd a P n 0 Q) (hp : RP n (tn kd a) hd S P) : RP n (tn kd a) hd (NP p kd a hd S n) Q := by
  have hT := tn_b (kd := kd) ha
  obtain ⟨h1, h2, h3⟩ := hq
  intro y h hy hh
  refine ⟨h1 y h hy hh, fun b hb hN hr => ?_, fun hQ => ?_⟩
  · obtain ⟨x, hx, z⟩ := hN
    rcases z with ⟨z1, z2⟩ | ⟨j, z1, z2, z3, z4⟩
    · have := (hp x h (by omega) hh).2.1 b hb z2 hr
      have q := (h2 x h (by omega) hx hh).1
      rw [z1] at q
      omega
    · have hg := Nat.mod_lt (hd + j) (show tn kd a > 0 by omega)
      have q1 := (hp x ((hd + j) % tn kd a) (by omega) hg).2.1 j (by omega) z2 rfl
      have q2 := (h2 x ((hd + j) % tn kd a) (by omega) hx hg).2
      rw [lf_mod (h' := hd + j) (Nat.mod_mod _ _), mod_s (h' := hd + j) (Nat.mod_mod _ _), ← z3] at q2
      have e : (hd + j + 1) % tn kd a = h := by rw [← hr, z4]; rfl
      rw [e] at q2
      omega
  · rcases h3 y h hy hh with v | ⟨x, v1, v2, v3⟩ | ⟨x, g, v1, v2, v3, v4, v5⟩
    · omega
    · have hx : x < n := by omega
      obtain ⟨q1, q2⟩ := (hp x h (by omega) hh).2.2 (by omega)
      rw [v3]
      exact ⟨⟨x, hx, Or.inl ⟨v2, q1⟩⟩, q2⟩
    · have hx : x < n := by omega
      obtain ⟨q1, q2⟩ := (hp x g (by omega) v2).2.2 (by omega)
      have e : g % tn kd a = (hd + P x g) % tn kd a := by rw [q2, Nat.mod_eq_of_lt v2]
      rw [v5]
      refine ⟨⟨x, hx, Or.inr ⟨P x g, by omega, q1, ?_, rfl⟩⟩, ?_⟩
      · rw [v3, lf_mod e]
      · rw [v4, mod_s e]; rfl
def C1 (n tt c : Nat) (Q : Nat → Nat → Nat) (M : XM) : Prop := ∀ y h, y ≤ n → h < tt → x_i M c (10 * y + h) = nI (Q y h)
theorem C1_up {n tt y0 h0 v : Nat} {Q : Nat → Nat → Nat} {M : XM} (hC : C1 n tt 102 Q M) (ht : tt ≤ 10) (hh0 : h0 < tt) (hv : ¬ Q y0 h0 ≤ v) : C1 n tt 102 (upq Q y0 h0 v) (x_wi M 102 (10 * y0 + h0) (nI v)) := by
  intro y h hy hh
  rw [ii_wi]
  unfold upq
  by_cases q : y = y0 ∧ h = h0
  · obtain ⟨e1, e2⟩ := q
    subst e1
    subst e2
    rw [if_pos ⟨rfl, rfl⟩, if_pos ⟨rfl, rfl⟩, if_neg hv]
  · rw [if_neg (by omega), if_neg q]
    exact hC y h hy hh
theorem C1_same {n tt y0 h0 v : Nat} {Q : Nat → Nat → Nat} {M : XM} (hC : C1 n tt 102 Q M) (hv : Q y0 h0 ≤ v) : C1 n tt 102 (upq Q y0 h0 v) M := by
  intro y h hy hh
  unfold upq
  by_cases q : y = y0 ∧ h = h0
  · obtain ⟨e1, e2⟩ := q
    subst e1
    subst e2
    rw [if_pos ⟨rfl, rfl⟩, if_pos hv]
    exact hC y h hy hh
  · rw [if_neg q]
    exact hC y h hy hh
section
variable {L : Nat} {b1 b2 : Bool} {n p kd a c : Nat}
set_option maxHeartbeats 1000000 in
theorem m_f160 {κ : Nat → Int32 → Int32 → Int32 → Int32 → XM → Option (Int32 × XM)} {κ2 : Nat → Int32 → Int32 → Int32 → Int32 → Int32 → XM → Option (Int32 × XM)} {v2 v4 : Int32} {i : Nat} {P : Nat → Nat → Nat} (hc : c < 6) (hn : n ≤ 200) (hi : i < n) (hk : kd ≤ 6) (ha : a ≤ 9) (hp : 1 ≤ p) (hp2 : p ≤ 200) (hP : ∀ y h, y ≤ n → h < tn kd a → P y h ≤ 9) (d : Nat) : ∀ (N j : Nat) (Q : Nat → Nat → Nat) (M : XM), d < N → Geo L b1 b2 M → x_i M 85 c = nI kd → x_i M 86 c = nI a → x_i M 83 2 = nI p → j + d = tn kd a → C1 n (tn kd a) 101 P M → C1 n (tn kd a) 102 Q M → RQ n (tn kd a) p kd a P i j Q →
    ∃ M' Q', lp_X9_fits_160 κ κ2 N 83 (nI c) v2 (nI (tn kd a)) v4 (nI i) (nI j) M = κ2 83 (nI c) v2 (nI (tn kd a)) v4 (nI (i + 1)) M' ∧ Geo L b1 b2 M' ∧ C1 n (tn kd a) 102 Q' M' ∧ RQ n (tn kd a) p kd a P (i + 1) 0 Q' ∧ Fr (fun b _ => b = 102) M M' := by
  have hT := tn_b (kd := kd) ha
  induction d with
  | zero =>
    intro N j Q M hN hG q1 q2 ep hj hA hB hR
    obtain ⟨N, rfl⟩ : ∃ i, N = i + 1 := ⟨N - 1, by omega⟩
    have e : j = tn kd a := by omega
    refine ⟨M, Q, ?_, hG, hB, RQ.n (by rw [e] at hR; exact hR), Fr.rf⟩
    rw [s_lp_X9_fits_160, e]
    simp (disch := first | assumption | omega) only [bd_X9_fits_160, l_of, n_ltT, n_ltF, n_leT, n_leF, n_eqT, n_eqF, n_neM, n_Mne, n_M0, n_Mlt, n_0leM, nI_clamp, x_in_nI, n_1, nI_add, x_at, x_bd_s, x_bv_s, ↓x_lt, decide_true, decide_false, Bool.and_self, Bool.true_and, Bool.and_true, if_true, if_false, ite_true, ite_false, ↓reduceIte, not_true_eq_false, not_false_eq_true, Nat.reduceAdd, Nat.reduceMul, Nat.reduceEqDiff, eq_self, true_and, and_true, false_and, and_false, Option.some.injEq, Prod.mk.injEq, l_0, l_1, l_2, l_3, l_4, l_5, l_6, l_7, l_8, l_9, l_10, l_100, l_160, ↓m_1, ↓m_2, ↓m_3, ↓m_4, ↓m_5, ↓m_6, ↓m_7]
  | succ d ih =>
    intro N j Q M hN hG q1 q2 ep hj hA hB hR
    obtain ⟨N, rfl⟩ : ∃ i, N = i + 1 := ⟨N - 1, by omega⟩
    have hl := m_left (x := i) (h := j + 1) hG hc q1 q2 ep hk ha (by omega) (by omega) hp hp2
    have hlb := lf_le p kd a i (j + 1)
    have hm := Nat.mod_lt (j + 1) (show tn kd a > 0 by omega)
    have z : nI (j + 1) - nI (j + 1) / nI (tn kd a) * nI (tn kd a) = nI ((j + 1) % tn kd a) := pk_rem (by omega) (by omega) (by omega)
    have y1 := hA i j (by omega) (by omega)
    have y2 := hB (i + 1) j (by omega) (by omega)
    rw [show 10 * (i + 1) + j = 10 * i + 10 + j by omega] at y2
    have hRs := hR.s (show j < tn kd a by omega)
    have b9 := hP i j (by omega) (by omega)
    have c9 := hR.1 (i + 1) j (by omega) (by omega)
    -- the way on
    have st1 : ∃ M1, f_X9_fits_c204 κ κ2 (lp_X9_fits_160 κ κ2 N) 83 (nI c) v2 (nI (tn kd a)) v4 (nI i) (nI j) (nI (P i j)) (nI (10 * i + 10 + j)) (nI 10) (nI (lf p kd a i (j + 1))) M = f_X9_fits_238 κ κ2 (lp_X9_fits_160 κ κ2 N) 83 (nI c) v2 (nI (tn kd a)) v4 (nI i) (nI j) (nI (P i j)) (nI (10 * lf p kd a i (j + 1) + (j + 1) % tn kd a)) M1 ∧ Geo L b1 b2 M1 ∧ C1 n (tn kd a) 102 (upq Q (i + 1) j (P i j)) M1 ∧ Fr (fun b _ => b = 102) M M1 := by
      by_cases h1 : Q (i + 1) j ≤ P i j
      · refine ⟨M, ?_, hG, C1_same hB h1, Fr.rf⟩
        simp (disch := first | assumption | omega) only [f_X9_fits_c204, gt_83, gr_83_36, gt_102, gl_102, y2, z, pk_mul, nI_add, l_of, n_ltT, n_ltF, n_leT, n_leF, n_eqT, n_eqF, n_neM, n_Mne, n_M0, n_Mlt, n_0leM, nI_clamp, x_in_nI, n_1, nI_add, x_at, x_bd_s, x_bv_s, ↓x_lt, decide_true, decide_false, Bool.and_self, Bool.true_and, Bool.and_true, if_true, if_false, ite_true, ite_false, ↓reduceIte, not_true_eq_false, not_false_eq_true, Nat.reduceAdd, Nat.reduceMul, Nat.reduceEqDiff, eq_self, true_and, and_true, false_and, and_false, Option.some.injEq, Prod.mk.injEq, l_0, l_1, l_2, l_3, l_4, l_5, l_6, l_7, l_8, l_9, l_10, l_100, l_160, ↓m_1, ↓m_2, ↓m_3, ↓m_4, ↓m_5, ↓m_6, ↓m_7]
      · refine ⟨x_wi M 102 (10 * (i + 1) + j) (nI (P i j)), ?_, hG, C1_up hB (by omega) (by omega) h1, Fr.rf.wi (by omega)⟩
        rw [show 10 * (i + 1) + j = 10 * i + 10 + j by omega]
        simp (disch := first | assumption | omega) only [f_X9_fits_c204, gt_83, gr_83_36, gt_102, gl_102, y2, z, pk_mul, nI_add, l_of, n_ltT, n_ltF, n_leT, n_leF, n_eqT, n_eqF, n_neM, n_Mne, n_M0, n_Mlt, n_0leM, nI_clamp, x_in_nI, n_1, nI_add, x_at, x_bd_s, x_bv_s, ↓x_lt, decide_true, decide_false, Bool.and_self, Bool.true_and, Bool.and_true, if_true, if_false, ite_true, ite_false, ↓reduceIte, not_true_eq_false, not_false_eq_true, Nat.reduceAdd, Nat.reduceMul, Nat.reduceEqDiff, eq_self, true_and, and_true, false_and, and_false, Option.some.injEq, Prod.mk.injEq, l_0, l_1, l_2, l_3, l_4, l_5, l_6, l_7, l_8, l_9, l_10, l_100, l_160, ↓m_1, ↓m_2, ↓m_3, ↓m_4, ↓m_5, ↓m_6, ↓m_7]
    obtain ⟨M1, s1, s2, s3, s4⟩ := st1
    have y3 := s3 (lf p kd a i (j + 1)) ((j + 1) % tn kd a) (by omega) hm
    have d9 : upq Q (i + 1) j (P i j) (lf p kd a i (j + 1)) ((j + 1) % tn kd a) ≤ 9 := Nat.le_trans (up_le _ _ _ _ _ _) (hR.1 _ _ (by omega) hm)
    have st2 : ∃ M2, f_X9_fits_238 κ κ2 (lp_X9_fits_160 κ κ2 N) 83 (nI c) v2 (nI (tn kd a)) v4 (nI i) (nI j) (nI (P i j)) (nI (10 * lf p kd a i (j + 1) + (j + 1) % tn kd a)) M1 = lp_X9_fits_160 κ κ2 N 83 (nI c) v2 (nI (tn kd a)) v4 (nI i) (nI (j + 1)) M2 ∧ Geo L b1 b2 M2 ∧ C1 n (tn kd a) 102 (upq (upq Q (i + 1) j (P i j)) (lf p kd a i (j + 1)) ((j + 1) % tn kd a) (P i j + 1)) M2 ∧ Fr (fun b _ => b = 102) M1 M2 := by
      generalize (j + 1) % tn kd a = r at hm y3 d9 ⊢
      generalize lf p kd a i (j + 1) = l at hlb y3 d9 ⊢
      by_cases h1 : upq Q (i + 1) j (P i j) l r ≤ P i j + 1
      · refine ⟨M1, ?_, s2, C1_same s3 h1, Fr.rf⟩
        simp (disch := first | assumption | omega) only [f_X9_fits_238, f_X9_fits_263, gt_83, gr_83_36, gt_102, gl_102, y3, pk_mul, nI_add, l_of, n_ltT, n_ltF, n_leT, n_leF, n_eqT, n_eqF, n_neM, n_Mne, n_M0, n_Mlt, n_0leM, nI_clamp, x_in_nI, n_1, nI_add, x_at, x_bd_s, x_bv_s, ↓x_lt, decide_true, decide_false, Bool.and_self, Bool.true_and, Bool.and_true, if_true, if_false, ite_true, ite_false, ↓reduceIte, not_true_eq_false, not_false_eq_true, Nat.reduceAdd, Nat.reduceMul, Nat.reduceEqDiff, eq_self, true_and, and_true, false_and, and_false, Option.some.injEq, Prod.mk.injEq, l_0, l_1, l_2, l_3, l_4, l_5, l_6, l_7, l_8, l_9, l_10, l_100, l_160, ↓m_1, ↓m_2, ↓m_3, ↓m_4, ↓m_5, ↓m_6, ↓m_7]
      · refine ⟨x_wi M1 102 (10 * l + r) (nI (P i j + 1)), ?_, s2, C1_up s3 (by omega) hm h1, Fr.rf.wi (by omega)⟩
        simp (disch := first | assumption | omega) only [f_X9_fits_238, f_X9_fits_263, gt_83, gr_83_36, gt_102, gl_102, y3, pk_mul, nI_add, l_of, n_ltT, n_ltF, n_leT, n_leF, n_eqT, n_eqF, n_neM, n_Mne, n_M0, n_Mlt, n_0leM, nI_clamp, x_in_nI, n_1, nI_add, x_at, x_bd_s, x_bv_s, ↓x_lt, decide_true, decide_false, Bool.and_self, Bool.true_and, Bool.and_true, if_true, if_false, ite_true, ite_false, ↓reduceIte, not_true_eq_false, not_false_eq_true, Nat.reduceAdd, Nat.reduceMul, Nat.reduceEqDiff, eq_self, true_and, and_true, false_and, and_false, Option.some.injEq, Prod.mk.injEq, l_0, l_1, l_2, l_3, l_4, l_5, l_6, l_7, l_8, l_9, l_10, l_100, l_160, ↓m_1, ↓m_2, ↓m_3, ↓m_4, ↓m_5, ↓m_6, ↓m_7]
    obtain ⟨M2, t1, t2, t3, t4⟩ := st2
    have F : Fr (fun b _ => b = 102) M M2 := s4.tr t4
    obtain ⟨M3, Q', g1, g2, g3, g4, g5⟩ := ih N (j + 1) _ M2 (by omega) t2 ((F.1 _ _ (by omega)).trans q1) ((F.1 _ _ (by omega)).trans q2) ((F.1 _ _ (by omega)).trans ep) (by omega) (fun y h hy hh => (F.1 _ _ (by omega)).trans (hA y h hy hh)) t3 hRs
    refine ⟨M3, Q', ?_, g2, g3, g4, F.tr g5⟩
    rw [s_lp_X9_fits_160]
    simp (disch := first | assumption | omega) only [bd_X9_fits_160, gt_83, gr_83_35, gt_101, gl_101, y1, hl, pk_mul, nI_add, l_of, n_ltT, n_ltF, n_leT, n_leF, n_eqT, n_eqF, n_neM, n_Mne, n_M0, n_Mlt, n_0leM, nI_clamp, x_in_nI, n_1, nI_add, x_at, x_bd_s, x_bv_s, ↓x_lt, decide_true, decide_false, Bool.and_self, Bool.true_and, Bool.and_true, if_true, if_false, ite_true, ite_false, ↓reduceIte, not_true_eq_false, not_false_eq_true, Nat.reduceAdd, Nat.reduceMul, Nat.reduceEqDiff, eq_self, true_and, and_true, false_and, and_false, Option.some.injEq, Prod.mk.injEq, l_0, l_1, l_2, l_3, l_4, l_5, l_6, l_7, l_8, l_9, l_10, l_100, l_160, ↓m_1, ↓m_2, ↓m_3, ↓m_4, ↓m_5, ↓m_6, ↓m_7]
    exact (s1.trans t1).trans g1
theorem m_f278 {κ : Nat → Int32 → Int32 → Int32 → Int32 → XM → Option (Int32 × XM)} {v1 v2 v3 v4 : Int32} (d : Nat) : ∀ (N j : Nat) (M : XM), d < N → Geo L b1 b2 M → j + d = 2010 → (∀ h, h < j → x_i M 101 h = x_i M 102 h) →
    ∃ M', lp_X9_fits_278 κ N 83 v1 v2 v3 v4 (nI j) M = κ 83 v1 v2 v3 (v4 + nI 1) M' ∧ Geo L b1 b2 M' ∧ (∀ h, h < 2010 → x_i M' 101 h = x_i M 102 h) ∧ Fr (fun a _ => a = 101) M M' := by
  induction d with
  | zero =>
    intro N j M hN hG hj hh
    obtain ⟨N, rfl⟩ : ∃ i, N = i + 1 := ⟨N - 1, by omega⟩
    refine ⟨M, ?_, hG, fun h hl => hh h (by omega), Fr.rf⟩
    rw [s_lp_X9_fits_278, show j = 2010 by omega]
    simp (disch := first | assumption | omega) only [bd_X9_fits_278, l_2010, l_of, n_ltT, n_ltF, n_leT, n_leF, n_eqT, n_eqF, n_neM, n_Mne, n_M0, n_Mlt, n_0leM, nI_clamp, x_in_nI, n_1, nI_add, x_at, x_bd_s, x_bv_s, ↓x_lt, decide_true, decide_false, Bool.and_self, Bool.true_and, Bool.and_true, if_true, if_false, ite_true, ite_false, ↓reduceIte, not_true_eq_false, not_false_eq_true, Nat.reduceAdd, Nat.reduceMul, Nat.reduceEqDiff, eq_self, true_and, and_true, false_and, and_false, Option.some.injEq, Prod.mk.injEq, l_0, l_1, l_2, l_3, l_4, l_5, l_6, l_7, l_8, l_9, l_10, l_100, l_160, ↓m_1, ↓m_2, ↓m_3, ↓m_4, ↓m_5, ↓m_6, ↓m_7]
  | succ d ih =>
    intro N j M hN hG hj hh
    obtain ⟨N, rfl⟩ : ∃ i, N = i + 1 := ⟨N - 1, by omega⟩
    have f0 : Fr (fun a _ => a = 101) M (x_wi M 101 j (x_i M 102 j)) := Fr.rf.wi (by omega)
    obtain ⟨M2, g1, g2, g3, g4⟩ := ih N (j + 1) (x_wi M 101 j (x_i M 102 j)) (by omega) hG (by omega) (fun h hl => by
      rw [f0.1 102 h (by omega), ii_wi]
      split
      · next q => rw [q.2]
      · exact hh h (by omega))
    refine ⟨M2, ?_, g2, fun h hl => (g3 h hl).trans (f0.1 _ _ (by omega)), f0.tr g4⟩
    rw [s_lp_X9_fits_278]
    simp (disch := first | assumption | omega) only [bd_X9_fits_278, gt_83, gr_83_35, gr_83_36, gt_101, gl_101, gt_102, gl_102, l_2010, l_of, n_ltT, n_ltF, n_leT, n_leF, n_eqT, n_eqF, n_neM, n_Mne, n_M0, n_Mlt, n_0leM, nI_clamp, x_in_nI, n_1, nI_add, x_at, x_bd_s, x_bv_s, ↓x_lt, decide_true, decide_false, Bool.and_self, Bool.true_and, Bool.and_true, if_true, if_false, ite_true, ite_false, ↓reduceIte, not_true_eq_false, not_false_eq_true, Nat.reduceAdd, Nat.reduceMul, Nat.reduceEqDiff, eq_self, true_and, and_true, false_and, and_false, Option.some.injEq, Prod.mk.injEq, l_0, l_1, l_2, l_3, l_4, l_5, l_6, l_7, l_8, l_9, l_10, l_100, l_160, ↓m_1, ↓m_2, ↓m_3, ↓m_4, ↓m_5, ↓m_6, ↓m_7]
    exact g1
theorem m_f148 {κ : Nat → Int32 → Int32 → Int32 → Int32 → XM → Option (Int32 × XM)} {v2 v4 : Int32} {P : Nat → Nat → Nat} (hc : c < 6) (hn : n ≤ 200) (hk : kd ≤ 6) (ha : a ≤ 9) (hp : 1 ≤ p) (hp2 : p ≤ 200) (hP : ∀ y h, y ≤ n → h < tn kd a → P y h ≤ 9) (d : Nat) : ∀ (N i : Nat) (Q : Nat → Nat → Nat) (M : XM), d < N → Geo L b1 b2 M → x_i M 83 1 = nI n → x_i M 85 c = nI kd → x_i M 86 c = nI a → x_i M 83 2 = nI p → i + d = n → C1 n (tn kd a) 101 P M → C1 n (tn kd a) 102 Q M → RQ n (tn kd a) p kd a P i 0 Q →
    ∃ M' Q', lp_X9_fits_148 κ N 83 (nI c) v2 (nI (tn kd a)) v4 (nI i) M = κ 83 (nI c) v2 (nI (tn kd a)) (v4 + nI 1) M' ∧ Geo L b1 b2 M' ∧ C1 n (tn kd a) 101 Q' M' ∧ RQ n (tn kd a) p kd a P n 0 Q' ∧ Fr PP M M' := by
  have hT := tn_b (kd := kd) ha
  induction d with
  | zero =>
    intro N i Q M hN hG en q1 q2 ep hi hA hB hR
    obtain ⟨N, rfl⟩ : ∃ i, N = i + 1 := ⟨N - 1, by omega⟩
    have e : i = n := by omega
    subst e
    obtain ⟨M1, g1, g2, g3, g4⟩ := m_f278 (L := L) (b1 := b1) (b2 := b2) (κ := κ) (v1 := nI c) (v2 := v2) (v3 := nI (tn kd a)) (v4 := v4) 2010 x_fuel 0 M (fu (by omega)) hG (by omega) (fun h hl => absurd hl (by omega))
    refine ⟨M1, Q, ?_, g2, fun y h hy hh => (g3 _ (by omega)).trans (hB y h hy hh), hR, g4.mono (fun b k q => Or.inl q)⟩
    rw [s_lp_X9_fits_148]
    simp (disch := first | assumption | omega) only [bd_X9_fits_148, gt_83, en, l_of, n_ltT, n_ltF, n_leT, n_leF, n_eqT, n_eqF, n_neM, n_Mne, n_M0, n_Mlt, n_0leM, nI_clamp, x_in_nI, n_1, nI_add, x_at, x_bd_s, x_bv_s, ↓x_lt, decide_true, decide_false, Bool.and_self, Bool.true_and, Bool.and_true, if_true, if_false, ite_true, ite_false, ↓reduceIte, not_true_eq_false, not_false_eq_true, Nat.reduceAdd, Nat.reduceMul, Nat.reduceEqDiff, eq_self, true_and, and_true, false_and, and_false, Option.some.injEq, Prod.mk.injEq, l_0, l_1, l_2, l_3, l_4, l_5, l_6, l_7, l_8, l_9, l_10, l_100, l_160, ↓m_1, ↓m_2, ↓m_3, ↓m_4, ↓m_5, ↓m_6, ↓m_7]
    exact g1
  | succ d ih =>
    intro N i Q M hN hG en q1 q2 ep hi hA hB hR
    obtain ⟨N, rfl⟩ : ∃ i, N = i + 1 := ⟨N - 1, by omega⟩
    obtain ⟨M1, Q1, g1, g2, g3, g4, g5⟩ := m_f160 (L := L) (b1 := b1) (b2 := b2) (κ := κ) (κ2 := lp_X9_fits_148 κ N) (v2 := v2) (v4 := v4) hc hn (show i < n by omega) hk ha hp hp2 hP (tn kd a) x_fuel 0 Q M (fu (by omega)) hG q1 q2 ep (by omega) hA hB hR
    obtain ⟨M2, Q2, u1, u2, u3, u4, u5⟩ := ih N (i + 1) Q1 M1 (by omega) g2 ((g5.1 _ _ (by omega)).trans en) ((g5.1 _ _ (by omega)).trans q1) ((g5.1 _ _ (by omega)).trans q2) ((g5.1 _ _ (by omega)).trans ep) (by omega) (fun y h hy hh => (g5.1 _ _ (by omega)).trans (hA y h hy hh)) g3 g4
    refine ⟨M2, Q2, ?_, u2, u3, u4, (g5.mono (fun b k q => Or.inr q)).tr u5⟩
    rw [s_lp_X9_fits_148]
    simp (disch := first | assumption | omega) only [bd_X9_fits_148, gt_83, en, l_of, n_ltT, n_ltF, n_leT, n_leF, n_eqT, n_eqF, n_neM, n_Mne, n_M0, n_Mlt, n_0leM, nI_clamp, x_in_nI, n_1, nI_add, x_at, x_bd_s, x_bv_s, ↓x_lt, decide_true, decide_false, Bool.and_self, Bool.true_and, Bool.and_true, if_true, if_false, ite_true, ite_false, ↓reduceIte, not_true_eq_false, not_false_eq_true, Nat.reduceAdd, Nat.reduceMul, Nat.reduceEqDiff, eq_self, true_and, and_true, false_and, and_false, Option.some.injEq, Prod.mk.injEq, l_0, l_1, l_2, l_3, l_4, l_5, l_6, l_7, l_8, l_9, l_10, l_100, l_160, ↓m_1, ↓m_2, ↓m_3, ↓m_4, ↓m_5, ↓m_6, ↓m_7]
    exact g1.trans u1
theorem m_f122 {κ : Nat → Int32 → Int32 → Int32 → Int32 → XM → Option (Int32 × XM)} {v1 v2 v3 v4 : Int32} (d : Nat) : ∀ (N j : Nat) (M : XM), d < N → Geo L b1 b2 M → j + d = 2010 → (∀ h, h < j → x_i M 102 h = nI 9) →
    ∃ M', lp_X9_fits_122 κ N 83 v1 v2 v3 v4 (nI j) M = lp_X9_fits_148 κ x_fuel 83 v1 v2 v3 v4 (nI 0) M' ∧ Geo L b1 b2 M' ∧ (∀ h, h < 2010 → x_i M' 102 h = nI 9) ∧ Fr (fun a _ => a = 102) M M' := by
  induction d with
  | zero =>
    intro N j M hN hG hj hh
    obtain ⟨N, rfl⟩ : ∃ i, N = i + 1 := ⟨N - 1, by omega⟩
    refine ⟨M, ?_, hG, fun h hl => hh h (by omega), Fr.rf⟩
    rw [s_lp_X9_fits_122, show j = 2010 by omega]
    simp (disch := first | assumption | omega) only [bd_X9_fits_122, l_2010, l_of, n_ltT, n_ltF, n_leT, n_leF, n_eqT, n_eqF, n_neM, n_Mne, n_M0, n_Mlt, n_0leM, nI_clamp, x_in_nI, n_1, nI_add, x_at, x_bd_s, x_bv_s, ↓x_lt, decide_true, decide_false, Bool.and_self, Bool.true_and, Bool.and_true, if_true, if_false, ite_true, ite_false, ↓reduceIte, not_true_eq_false, not_false_eq_true, Nat.reduceAdd, Nat.reduceMul, Nat.reduceEqDiff, eq_self, true_and, and_true, false_and, and_false, Option.some.injEq, Prod.mk.injEq, l_0, l_1, l_2, l_3, l_4, l_5, l_6, l_7, l_8, l_9, l_10, l_100, l_160, ↓m_1, ↓m_2, ↓m_3, ↓m_4, ↓m_5, ↓m_6, ↓m_7]
  | succ d ih =>
    intro N j M hN hG hj hh
    obtain ⟨N, rfl⟩ : ∃ i, N = i + 1 := ⟨N - 1, by omega⟩
    obtain ⟨M2, g1, g2, g3, g4⟩ := ih N (j + 1) (x_wi M 102 j (nI 9)) (by omega) hG (by omega) (fun h hl => by
      rw [ii_wi]
      split
      · rfl
      · exact hh h (by omega))
    have f0 : Fr (fun a _ => a = 102) M (x_wi M 102 j (nI 9)) := Fr.rf.wi (by omega)
    refine ⟨M2, ?_, g2, g3, f0.tr g4⟩
    rw [s_lp_X9_fits_122]
    simp (disch := first | assumption | omega) only [bd_X9_fits_122, gt_83, gr_83_36, gt_102, gl_102, l_2010, l_of, n_ltT, n_ltF, n_leT, n_leF, n_eqT, n_eqF, n_neM, n_Mne, n_M0, n_Mlt, n_0leM, nI_clamp, x_in_nI, n_1, nI_add, x_at, x_bd_s, x_bv_s, ↓x_lt, decide_true, decide_false, Bool.and_self, Bool.true_and, Bool.and_true, if_true, if_false, ite_true, ite_false, ↓reduceIte, not_true_eq_false, not_false_eq_true, Nat.reduceAdd, Nat.reduceMul, Nat.reduceEqDiff, eq_self, true_and, and_true, false_and, and_false, Option.some.injEq, Prod.mk.injEq, l_0, l_1, l_2, l_3, l_4, l_5, l_6, l_7, l_8, l_9, l_10, l_100, l_160, ↓m_1, ↓m_2, ↓m_3, ↓m_4, ↓m_5, ↓m_6, ↓m_7]
    exact g1
theorem m_f319 {M : XM} {P : Nat → Nat → Nat} {tt T : Nat} (hG : Geo L b1 b2 M) (hn : n ≤ 200) (en : x_i M 83 1 = nI n) (ht : tt ≤ 10) (hT : 1 ≤ T) (hT2 : T ≤ 100) (hA : C1 n tt 101 P M) (hP : ∀ h, h < tt → P n h ≤ 9) (d : Nat) : ∀ (N j l : Nat), d < N → j + d = tt → l ≤ 9 →
    ∃ m, lp_X9_fits_319 N 83 (nI T) (nI tt) (nI l) (nI j) M = some (if m = 9 then nM 1 else nI m, M) ∧ m ≤ l ∧ (∀ h, j ≤ h → h < tt → m ≤ P n h) ∧ (m = l ∨ ∃ h, h < tt ∧ m = P n h) := by
  induction d with
  | zero =>
    intro N j l hN hj hl
    obtain ⟨N, rfl⟩ : ∃ i, N = i + 1 := ⟨N - 1, by omega⟩
    refine ⟨l, ?_, Nat.le_refl _, fun h h1 h2 => by omega, Or.inl rfl⟩
    rw [s_lp_X9_fits_319, show j = tt by omega]
    by_cases q : l = 9
    · rw [if_pos q]
      simp (disch := first | assumption | omega) only [bd_X9_fits_319, f_X9_fits_377, q, l_of, n_ltT, n_ltF, n_leT, n_leF, n_eqT, n_eqF, n_neM, n_Mne, n_M0, n_Mlt, n_0leM, nI_clamp, x_in_nI, n_1, nI_add, x_at, x_bd_s, x_bv_s, ↓x_lt, decide_true, decide_false, Bool.and_self, Bool.true_and, Bool.and_true, if_true, if_false, ite_true, ite_false, ↓reduceIte, not_true_eq_false, not_false_eq_true, Nat.reduceAdd, Nat.reduceMul, Nat.reduceEqDiff, eq_self, true_and, and_true, false_and, and_false, Option.some.injEq, Prod.mk.injEq, l_0, l_1, l_2, l_3, l_4, l_5, l_6, l_7, l_8, l_9, l_10, l_100, l_160, ↓m_1, ↓m_2, ↓m_3, ↓m_4, ↓m_5, ↓m_6, ↓m_7]
    · rw [if_neg q]
      simp (disch := first | assumption | omega) only [bd_X9_fits_319, f_X9_fits_377, q, l_of, n_ltT, n_ltF, n_leT, n_leF, n_eqT, n_eqF, n_neM, n_Mne, n_M0, n_Mlt, n_0leM, nI_clamp, x_in_nI, n_1, nI_add, x_at, x_bd_s, x_bv_s, ↓x_lt, decide_true, decide_false, Bool.and_self, Bool.true_and, Bool.and_true, if_true, if_false, ite_true, ite_false, ↓reduceIte, not_true_eq_false, not_false_eq_true, Nat.reduceAdd, Nat.reduceMul, Nat.reduceEqDiff, eq_self, true_and, and_true, false_and, and_false, Option.some.injEq, Prod.mk.injEq, l_0, l_1, l_2, l_3, l_4, l_5, l_6, l_7, l_8, l_9, l_10, l_100, l_160, ↓m_1, ↓m_2, ↓m_3, ↓m_4, ↓m_5, ↓m_6, ↓m_7]
  | succ d ih =>
    intro N j l hN hj hl
    obtain ⟨N, rfl⟩ : ∃ i, N = i + 1 := ⟨N - 1, by omega⟩
    have y := hA n j (Nat.le_refl _) (by omega)
    have b9 := hP j (by omega)
    rw [s_lp_X9_fits_319]
    by_cases q : l ≤ P n j
    · obtain ⟨m, g1, g2, g3, g4⟩ := ih N (j + 1) l (by omega) (by omega) hl
      refine ⟨m, ?_, g2, fun h h1 h2 => ?_, g4⟩
      · simp (disch := first | assumption | omega) only [bd_X9_fits_319, f_X9_fits_369, gt_83, gr_83_35, gt_101, gl_101, en, y, pk_mul, nI_add, l_of, n_ltT, n_ltF, n_leT, n_leF, n_eqT, n_eqF, n_neM, n_Mne, n_M0, n_Mlt, n_0leM, nI_clamp, x_in_nI, n_1, nI_add, x_at, x_bd_s, x_bv_s, ↓x_lt, decide_true, decide_false, Bool.and_self, Bool.true_and, Bool.and_true, if_true, if_false, ite_true, ite_false, ↓reduceIte, not_true_eq_false, not_false_eq_true, Nat.reduceAdd, Nat.reduceMul, Nat.reduceEqDiff, eq_self, true_and, and_true, false_and, and_false, Option.some.injEq, Prod.mk.injEq, l_0, l_1, l_2, l_3, l_4, l_5, l_6, l_7, l_8, l_9, l_10, l_100, l_160, ↓m_1, ↓m_2, ↓m_3, ↓m_4, ↓m_5, ↓m_6, ↓m_7]
        exact g1
      · by_cases e : h = j
        · subst e; omega
        · exact g3 h (by omega) h2
    · obtain ⟨m, g1, g2, g3, g4⟩ := ih N (j + 1) (P n j) (by omega) (by omega) b9
      refine ⟨m, ?_, by omega, fun h h1 h2 => ?_, ?_⟩
      · simp (disch := first | assumption | omega) only [bd_X9_fits_319, f_X9_fits_369, gt_83, gr_83_35, gt_101, gl_101, en, y, pk_mul, nI_add, l_of, n_ltT, n_ltF, n_leT, n_leF, n_eqT, n_eqF, n_neM, n_Mne, n_M0, n_Mlt, n_0leM, nI_clamp, x_in_nI, n_1, nI_add, x_at, x_bd_s, x_bv_s, ↓x_lt, decide_true, decide_false, Bool.and_self, Bool.true_and, Bool.and_true, if_true, if_false, ite_true, ite_false, ↓reduceIte, not_true_eq_false, not_false_eq_true, Nat.reduceAdd, Nat.reduceMul, Nat.reduceEqDiff, eq_self, true_and, and_true, false_and, and_false, Option.some.injEq, Prod.mk.injEq, l_0, l_1, l_2, l_3, l_4, l_5, l_6, l_7, l_8, l_9, l_10, l_100, l_160, ↓m_1, ↓m_2, ↓m_3, ↓m_4, ↓m_5, ↓m_6, ↓m_7]
        exact g1
      · by_cases e : h = j
        · subst e; omega
        · exact g3 h (by omega) h2
      · rcases g4 with z | z
        · exact Or.inr ⟨j, by omega, z⟩
        · exact Or.inr z
theorem RP_fw {tt hd : Nat} {S : Nat → Nat → Prop} {P : Nat → Nat → Nat} {m : Nat} (h : RP n tt hd S P) (ht : 1 ≤ tt) (h1 : m ≤ 9) (h2 : ∀ h, h < tt → m ≤ P n h) (h3 : m = 9 ∨ ∃ h, h < tt ∧ m = P n h) : (if m = 9 then nM 1 else nI m) = oI (fw (S n) 9 0) := by
  have low : ∀ b, b ≤ 8 → S n b → m ≤ b := fun b hb hs => by
    have q := h2 ((hd + b) % tt) (Nat.mod_lt _ (by omega))
    have := (h n ((hd + b) % tt) (Nat.le_refl _) (Nat.mod_lt _ (by omega))).2.1 b hb hs rfl
    omega
  by_cases hm : m = 9
  · rw [if_pos hm, fw_none 9 0 (fun q _ hq hs => by have := low q (by omega) hs; omega)]
    rfl
  · rw [if_neg hm]
    rcases h3 with z | ⟨g, z1, z2⟩
    · exact absurd z hm
    · have hs := ((h n g (Nat.le_refl _) z1).2.2 (by omega)).1
      rw [← z2] at hs
      rw [fw_some hs 9 0 (by omega) (by omega) (fun q _ hq hs' => by have := low q (by omega) hs'; omega)]
      rfl
theorem m_f113 {T hd x0 : Nat} (hc : c < 6) (hn : n ≤ 200) (hk : kd ≤ 6) (ha : a ≤ 9) (hp : 1 ≤ p) (hp2 : p ≤ 200) (hT1 : 1 ≤ T) (hT : T ≤ 100) (d : Nat) : ∀ (N t : Nat) (P : Nat → Nat → Nat) (M : XM), d < N → Geo L b1 b2 M → x_i M 83 1 = nI n → x_i M 85 c = nI kd → x_i M 86 c = nI a → x_i M 83 2 = nI p → t + d = T → C1 n (tn kd a) 101 P M → RP n (tn kd a) hd (FS n p kd a hd x0 t) P →
    ∃ M', lp_X9_fits_113 N 83 (nI c) (nI T) (nI (tn kd a)) (nI t) M = some (oI (fw (FS n p kd a hd x0 T n) 9 0), M') ∧ Geo L b1 b2 M' ∧ Fr PP M M' := by
  have hTT := tn_b (kd := kd) ha
  induction d with
  | zero =>
    intro N t P M hN hG en q1 q2 ep ht hA hR
    obtain ⟨N, rfl⟩ : ∃ i, N = i + 1 := ⟨N - 1, by omega⟩
    have e : t = T := by omega
    subst e
    refine ⟨M, ?_, hG, Fr.rf⟩
    obtain ⟨m, g1, g2, g3, g4⟩ := m_f319 hG hn en (show tn kd a ≤ 10 by omega) hT1 hT hA (fun h hh => (hR n h (Nat.le_refl _) hh).1) (tn kd a) x_fuel 0 9 (fu (by omega)) (by omega) (by omega)
    have e := RP_fw hR (by omega) g2 (fun h hh => g3 h (by omega) hh) g4
    rw [e] at g1
    rw [s_lp_X9_fits_113]
    simp (disch := first | assumption | omega) only [bd_X9_fits_113, l_of, n_ltT, n_ltF, n_leT, n_leF, n_eqT, n_eqF, n_neM, n_Mne, n_M0, n_Mlt, n_0leM, nI_clamp, x_in_nI, n_1, nI_add, x_at, x_bd_s, x_bv_s, ↓x_lt, decide_true, decide_false, Bool.and_self, Bool.true_and, Bool.and_true, if_true, if_false, ite_true, ite_false, ↓reduceIte, not_true_eq_false, not_false_eq_true, Nat.reduceAdd, Nat.reduceMul, Nat.reduceEqDiff, eq_self, true_and, and_true, false_and, and_false, Option.some.injEq, Prod.mk.injEq, l_0, l_1, l_2, l_3, l_4, l_5, l_6, l_7, l_8, l_9, l_10, l_100, l_160, ↓m_1, ↓m_2, ↓m_3, ↓m_4, ↓m_5, ↓m_6, ↓m_7]
    exact g1
  | succ d ih =>
    intro N t P M hN hG en q1 q2 ep ht hA hR
    obtain ⟨N, rfl⟩ : ∃ i, N = i + 1 := ⟨N - 1, by omega⟩
    obtain ⟨M0, a1, a2, a3, a4⟩ := m_f122 (L := L) (b1 := b1) (b2 := b2) (κ := lp_X9_fits_113 N) (v1 := nI c) (v2 := nI T) (v3 := nI (tn kd a)) (v4 := nI t) 2010 x_fuel 0 M (fu (by omega)) hG (by omega) (fun h hl => absurd hl (by omega))
    obtain ⟨M1, Q, g1, g2, g3, g4, g5⟩ := m_f148 (L := L) (b1 := b1) (b2 := b2) (κ := lp_X9_fits_113 N) (v2 := nI T) (v4 := nI t) hc hn hk ha hp hp2 (fun y h hy hh => (hR y h hy hh).1) n x_fuel 0 (fun _ _ => 9) M0 (fu (by omega)) a2 ((a4.1 _ _ (by omega)).trans en) ((a4.1 _ _ (by omega)).trans q1) ((a4.1 _ _ (by omega)).trans q2) ((a4.1 _ _ (by omega)).trans ep) (by omega) (fun y h hy hh => (a4.1 _ _ (by omega)).trans (hA y h hy hh)) (fun y h hy hh => a3 _ (by omega)) ⟨fun _ _ _ _ => Nat.le_refl _, fun x g hx _ _ => by omega, fun _ _ _ _ => Or.inl rfl⟩
    have F : Fr PP M M1 := (a4.mono (fun b k q => Or.inr q)).tr g5
    obtain ⟨M2, u1, u2, u3⟩ := ih N (t + 1) Q M1 (by omega) g2 ((F.1 _ _ (by omega)).trans en) ((F.1 _ _ (by omega)).trans q1) ((F.1 _ _ (by omega)).trans q2) ((F.1 _ _ (by omega)).trans ep) (by omega) g3 (RQ.f ha g4 hR)
    refine ⟨M2, ?_, u2, F.tr u3⟩
    rw [n_1] at g1
    rw [s_lp_X9_fits_113]
    simp (disch := first | assumption | omega) only [bd_X9_fits_113, l_of, n_ltT, n_ltF, n_leT, n_leF, n_eqT, n_eqF, n_neM, n_Mne, n_M0, n_Mlt, n_0leM, nI_clamp, x_in_nI, n_1, nI_add, x_at, x_bd_s, x_bv_s, ↓x_lt, decide_true, decide_false, Bool.and_self, Bool.true_and, Bool.and_true, if_true, if_false, ite_true, ite_false, ↓reduceIte, not_true_eq_false, not_false_eq_true, Nat.reduceAdd, Nat.reduceMul, Nat.reduceEqDiff, eq_self, true_and, and_true, false_and, and_false, Option.some.injEq, Prod.mk.injEq, l_0, l_1, l_2, l_3, l_4, l_5, l_6, l_7, l_8, l_9, l_10, l_100, l_160, ↓m_1, ↓m_2, ↓m_3, ↓m_4, ↓m_5, ↓m_6, ↓m_7]
    exact (a1.trans g1).trans u1
theorem m_f63 {T hd x0 : Nat} (hc : c < 6) (hn : n ≤ 200) (ha : a ≤ 9) (hx : x0 ≤ n) (hh : hd ≤ 800000) (d : Nat) : ∀ (N j : Nat) (M : XM), d < N → Geo L b1 b2 M → x_i M 87 c = nI x0 → x_i M 89 c = nI hd → j + d = 2010 → (∀ h, h < j → x_i M 101 h = nI 9) →
    ∃ M', lp_X9_fits_63 N 83 (nI c) (nI T) (nI (tn kd a)) (nI j) M = lp_X9_fits_113 x_fuel 83 (nI c) (nI T) (nI (tn kd a)) (nI 0) M' ∧ Geo L b1 b2 M' ∧ C1 n (tn kd a) 101 (fun y h => if y = x0 ∧ h = hd % tn kd a then 0 else 9) M' ∧ Fr PP M M' := by
  have hTT := tn_b (kd := kd) ha
  induction d with
  | zero =>
    intro N j M hN hG q3 q4 hj hh9
    obtain ⟨N, rfl⟩ : ∃ i, N = i + 1 := ⟨N - 1, by omega⟩
    have hm := Nat.mod_lt hd (show tn kd a > 0 by omega)
    have z : nI hd - nI hd / nI (tn kd a) * nI (tn kd a) = nI (hd % tn kd a) := pk_rem (by omega) (by omega) (by omega)
    refine ⟨x_wi M 101 (10 * x0 + hd % tn kd a) (nI 0), ?_, hG, fun y h hy hl => ?_, Fr.rf.wi (by omega)⟩
    · rw [s_lp_X9_fits_63, show j = 2010 by omega]
      generalize hd % tn kd a = r at hm z ⊢
      simp (disch := first | assumption | omega) only [bd_X9_fits_63, gt_83, gr_83_12, gr_83_14, gr_83_35, gt_87, gl_87, gt_89, gl_89, gt_101, gl_101, q3, q4, z, l_2010, pk_mul, nI_add, l_of, n_ltT, n_ltF, n_leT, n_leF, n_eqT, n_eqF, n_neM, n_Mne, n_M0, n_Mlt, n_0leM, nI_clamp, x_in_nI, n_1, nI_add, x_at, x_bd_s, x_bv_s, ↓x_lt, decide_true, decide_false, Bool.and_self, Bool.true_and, Bool.and_true, if_true, if_false, ite_true, ite_false, ↓reduceIte, not_true_eq_false, not_false_eq_true, Nat.reduceAdd, Nat.reduceMul, Nat.reduceEqDiff, eq_self, true_and, and_true, false_and, and_false, Option.some.injEq, Prod.mk.injEq, l_0, l_1, l_2, l_3, l_4, l_5, l_6, l_7, l_8, l_9, l_10, l_100, l_160, ↓m_1, ↓m_2, ↓m_3, ↓m_4, ↓m_5, ↓m_6, ↓m_7]
    · rw [ii_wi]
      by_cases q : y = x0 ∧ h = hd % tn kd a
      · rw [if_pos ⟨rfl, by rw [q.1, q.2]⟩]
        dsimp only
        rw [if_pos q]
      · rw [if_neg (by omega)]
        dsimp only
        rw [if_neg q]
        exact hh9 _ (by omega)
  | succ d ih =>
    intro N j M hN hG q3 q4 hj hh9
    obtain ⟨N, rfl⟩ : ∃ i, N = i + 1 := ⟨N - 1, by omega⟩
    have f0 : Fr PP M (x_wi M 101 j (nI 9)) := Fr.rf.wi (by omega)
    obtain ⟨M2, g1, g2, g3, g4⟩ := ih N (j + 1) (x_wi M 101 j (nI 9)) (by omega) hG ((f0.1 _ _ (by omega)).trans q3) ((f0.1 _ _ (by omega)).trans q4) (by omega) (fun h hl => by
      rw [ii_wi]
      split
      · rfl
      · exact hh9 h (by omega))
    refine ⟨M2, ?_, g2, g3, f0.tr g4⟩
    rw [s_lp_X9_fits_63]
    simp (disch := first | assumption | omega) only [bd_X9_fits_63, gt_83, gr_83_35, gt_101, gl_101, l_2010, l_of, n_ltT, n_ltF, n_leT, n_leF, n_eqT, n_eqF, n_neM, n_Mne, n_M0, n_Mlt, n_0leM, nI_clamp, x_in_nI, n_1, nI_add, x_at, x_bd_s, x_bv_s, ↓x_lt, decide_true, decide_false, Bool.and_self, Bool.true_and, Bool.and_true, if_true, if_false, ite_true, ite_false, ↓reduceIte, not_true_eq_false, not_false_eq_true, Nat.reduceAdd, Nat.reduceMul, Nat.reduceEqDiff, eq_self, true_and, and_true, false_and, and_false, Option.some.injEq, Prod.mk.injEq, l_0, l_1, l_2, l_3, l_4, l_5, l_6, l_7, l_8, l_9, l_10, l_100, l_160, ↓m_1, ↓m_2, ↓m_3, ↓m_4, ↓m_5, ↓m_6, ↓m_7]
    exact g1
end
theorem RP_0 {n p kd a hd x0 : Nat} : RP n (tn kd a) hd (FS n p kd a hd x0 0) (fun y h => if y = x0 ∧ h = hd % tn kd a then 0 else 9) := by
  intro y h hy hh
  dsimp only
  by_cases q : y = x0 ∧ h = hd % tn kd a
  · rw [if_pos q]
    exact ⟨by omega, fun b _ _ _ => Nat.zero_le _, fun _ => ⟨⟨q.1, rfl⟩, q.2.symm⟩⟩
  · rw [if_neg q]
    refine ⟨by omega, fun b hb hs hr => ?_, fun z => by omega⟩
    obtain ⟨s1, s2⟩ := hs
    exact absurd ⟨s1, by rw [← hr, s2]; rfl⟩ q
theorem FS_n {n p kd a hd : Nat} (t : Nat) : ∀ (y b : Nat), ¬ FS n p kd a hd n (t + 1) y b := by
  induction t with
  | zero =>
    rintro y b ⟨x, hx, h | ⟨j, _, h, _⟩⟩
    · exact absurd h.2.1 (by omega)
    · exact absurd h.1 (by omega)
  | succ t ih =>
    rintro y b ⟨x, hx, h | ⟨j, _, h, _⟩⟩
    · exact ih _ _ h.2
    · exact ih _ _ h
noncomputable def sp_fits (σ : XS) (c t : Int32) : Int32 × XS :=
  if c < nI 0 ∨ r_s (s_now σ) 0 ≤ c.toNatClampNeg then (nM 11, u_rf σ 1) else if t < nI 0 ∨ 100 < t.toNatClampNeg then (nM 16, u_rf σ 6) else
    (oI (fw (FS (r_s (s_now σ) 1) (r_s (s_now σ) 2) (r_q (s_now σ) 0 c.toNatClampNeg) (r_q (s_now σ) 1 c.toNatClampNeg) (r_q (s_now σ) 3 c.toNatClampNeg) (r_q (s_now σ) 2 c.toNatClampNeg) t.toNatClampNeg (r_s (s_now σ) 1)) 9 0), σ)
theorem oc_fits {B : Nat} {σ : XS} (hW : WFS B σ) (hB : B ≤ 800000) (c t : Int32) : OpC (f_X8_fits 20 c t) σ (sp_fits σ c t).1 (sp_fits σ c t).2 := by
  intro L b1 b2 M hG hI
  obtain ⟨⟨⟨e0, e1, e2, e3, e4, e5, e6, e7⟩, hc, ht⟩, hi, hsh, hrf, hft, hrn, htr⟩ := id hI
  show EndC L (f_X8_fits 20 c t) M (sp_fits σ c t)
  have hC := c_isC hG hI hW c
  obtain ⟨⟨w0, w1, w2, w3, w4, w5, w6, w7⟩, wc, wl, wt⟩ := id hW.1
  unfold sp_fits
  by_cases hb : c < nI 0 ∨ r_s (s_now σ) 0 ≤ c.toNatClampNeg
  · rw [if_pos hb] at hC ⊢
    exact c_no_end hG hI (by simp (disch := first | assumption | omega) only [f_X8_fits_c37, f_X8_fits_31, f_X8_fits_28, f_X8_fits_13, f_X8_fits_c2, f_X8_fits, gt_20, gr_20_6, gt_51, gl_51, hC, c_refM, n_sub10, l_of, n_ltT, n_ltF, n_leT, n_leF, n_eqT, n_eqF, n_neM, n_Mne, n_M0, n_Mlt, n_0leM, nI_clamp, x_in_nI, n_1, nI_add, x_at, x_bd_s, x_bv_s, ↓x_lt, decide_true, decide_false, Bool.and_self, Bool.true_and, Bool.and_true, if_true, if_false, ite_true, ite_false, ↓reduceIte, not_true_eq_false, not_false_eq_true, Nat.reduceAdd, Nat.reduceMul, Nat.reduceEqDiff, eq_self, true_and, and_true, false_and, and_false, Option.some.injEq, Prod.mk.injEq, l_0, l_1, l_2, l_3, l_4, l_5, l_6, l_7, l_8, l_9, l_10, l_100, l_160, ↓m_1, ↓m_2, ↓m_3, ↓m_4, ↓m_5, ↓m_6, ↓m_7])
  rw [if_neg hb] at hC ⊢
  obtain ⟨j, jb, rfl⟩ := isC_n w0 hb
  rcases i_cs t with h1 | ⟨v, vb, rfl⟩
  · rw [if_pos (Or.inl h1)]
    exact c_no_end hG hI (by simp (disch := first | assumption | omega) only [f_X8_fits_c37, f_X8_fits_31, f_X8_fits_28, f_X8_fits_13, f_X8_fits_c2, f_X8_fits, gt_20, gr_20_6, gt_51, gl_51, hC, h1, c_refM, n_sub10, l_of, n_ltT, n_ltF, n_leT, n_leF, n_eqT, n_eqF, n_neM, n_Mne, n_M0, n_Mlt, n_0leM, nI_clamp, x_in_nI, n_1, nI_add, x_at, x_bd_s, x_bv_s, ↓x_lt, decide_true, decide_false, Bool.and_self, Bool.true_and, Bool.and_true, if_true, if_false, ite_true, ite_false, ↓reduceIte, not_true_eq_false, not_false_eq_true, Nat.reduceAdd, Nat.reduceMul, Nat.reduceEqDiff, eq_self, true_and, and_true, false_and, and_false, Option.some.injEq, Prod.mk.injEq, l_0, l_1, l_2, l_3, l_4, l_5, l_6, l_7, l_8, l_9, l_10, l_100, l_160, ↓m_1, ↓m_2, ↓m_3, ↓m_4, ↓m_5, ↓m_6, ↓m_7])
  rw [nI_clamp (show v < 2 ^ 31 by omega), nI_clamp (show j < 2 ^ 31 by omega)]
  by_cases h2 : 100 < v
  · rw [if_pos (Or.inr h2)]
    exact c_no_end hG hI (by simp (disch := first | assumption | omega) only [f_X8_fits_c37, f_X8_fits_31, f_X8_fits_28, f_X8_fits_13, f_X8_fits_c2, f_X8_fits, gt_20, gr_20_6, gt_51, gl_51, hC, h2, c_refM, n_sub10, l_of, n_ltT, n_ltF, n_leT, n_leF, n_eqT, n_eqF, n_neM, n_Mne, n_M0, n_Mlt, n_0leM, nI_clamp, x_in_nI, n_1, nI_add, x_at, x_bd_s, x_bv_s, ↓x_lt, decide_true, decide_false, Bool.and_self, Bool.true_and, Bool.and_true, if_true, if_false, ite_true, ite_false, ↓reduceIte, not_true_eq_false, not_false_eq_true, Nat.reduceAdd, Nat.reduceMul, Nat.reduceEqDiff, eq_self, true_and, and_true, false_and, and_false, Option.some.injEq, Prod.mk.injEq, l_0, l_1, l_2, l_3, l_4, l_5, l_6, l_7, l_8, l_9, l_10, l_100, l_160, ↓m_1, ↓m_2, ↓m_3, ↓m_4, ↓m_5, ↓m_6, ↓m_7])
  rw [if_neg (fun q => by rcases q with q | q; exact nI_pos (by omega) q; exact h2 q)]
  obtain ⟨q1, q2, q3, q4, q5⟩ := hc j (by omega)
  obtain ⟨y1, y2, y3, y4⟩ := wc j (by omega)
  obtain ⟨M2, b2', g1, g2, g3⟩ := c_fits (c := j) (T := v) (by omega) w2 y1 y2 w3 w4 (show r_q (s_now σ) 3 j ≤ 800000 by omega) (by omega) (wl j jb) hG e1 e2 q1 q2 q3 q5
  generalize fw (FS (r_s (s_now σ) 1) (r_s (s_now σ) 2) (r_q (s_now σ) 0 j) (r_q (s_now σ) 1 j) (r_q (s_now σ) 3 j) (r_q (s_now σ) 2 j) v (r_s (s_now σ) 1)) 9 0 = R at g1 ⊢
  refine c_w_end g2 hI (g3.mono (fun a k q => by omega)) ?_
  simp (disch := first | assumption | omega) only [f_X8_fits_c37, f_X8_fits_31, f_X8_fits_28, f_X8_fits_13, f_X8_fits_c2, f_X8_fits, gt_20, gr_20_0, gr_20_9, gt_59, hC, g1, l_of, n_ltT, n_ltF, n_leT, n_leF, n_eqT, n_eqF, n_neM, n_Mne, n_M0, n_Mlt, n_0leM, nI_clamp, x_in_nI, n_1, nI_add, x_at, x_bd_s, x_bv_s, ↓x_lt, decide_true, decide_false, Bool.and_self, Bool.true_and, Bool.and_true, if_true, if_false, ite_true, ite_false, ↓reduceIte, not_true_eq_false, not_false_eq_true, Nat.reduceAdd, Nat.reduceMul, Nat.reduceEqDiff, eq_self, true_and, and_true, false_and, and_false, Option.some.injEq, Prod.mk.injEq, l_0, l_1, l_2, l_3, l_4, l_5, l_6, l_7, l_8, l_9, l_10, l_100, l_160, ↓m_1, ↓m_2, ↓m_3, ↓m_4, ↓m_5, ↓m_6, ↓m_7]
theorem om_fits {B : Nat} {σ : XS} (hW : WFS B σ) (hB : B ≤ 800000) (c t : Int32) : OpM (f_X9_fits 83 c t) σ (sp_fits σ c t).1 (sp_fits σ c t).2 := by
  intro L b1 b2 M hG hI hMW
  obtain ⟨⟨⟨e0, e1, e2, e3, e4, e5, e6, e7⟩, hc, ht⟩, hi, hsh, hrf, hft, hrn, htr⟩ := id hI
  show EndM L b1 b2 (f_X9_fits 83 c t) M (sp_fits σ c t)
  have hC := m_isC hG hI hW c
  obtain ⟨⟨w0, w1, w2, w3, w4, w5, w6, w7⟩, wc, wl, wt⟩ := id hW.1
  unfold sp_fits
  by_cases hb : c < nI 0 ∨ r_s (s_now σ) 0 ≤ c.toNatClampNeg
  · rw [if_pos hb] at hC ⊢
    exact m_no_end hG hI hMW (by simp (disch := first | assumption | omega) only [f_X9_fits_24, f_X9_fits_377, f_X9_fits_369, bd_X9_fits_319, bd_X9_fits_278, f_X9_fits_263, f_X9_fits_238, f_X9_fits_c204, bd_X9_fits_160, bd_X9_fits_148, bd_X9_fits_122, bd_X9_fits_113, bd_X9_fits_63, f_X9_fits_c56, f_X9_fits_c2, f_X9_fits, gt_83, gr_83_9, gt_84, gl_84, hC, m_noTen, l_of, n_ltT, n_ltF, n_leT, n_leF, n_eqT, n_eqF, n_neM, n_Mne, n_M0, n_Mlt, n_0leM, nI_clamp, x_in_nI, n_1, nI_add, x_at, x_bd_s, x_bv_s, ↓x_lt, decide_true, decide_false, Bool.and_self, Bool.true_and, Bool.and_true, if_true, if_false, ite_true, ite_false, ↓reduceIte, not_true_eq_false, not_false_eq_true, Nat.reduceAdd, Nat.reduceMul, Nat.reduceEqDiff, eq_self, true_and, and_true, false_and, and_false, Option.some.injEq, Prod.mk.injEq, l_0, l_1, l_2, l_3, l_4, l_5, l_6, l_7, l_8, l_9, l_10, l_100, l_160, ↓m_1, ↓m_2, ↓m_3, ↓m_4, ↓m_5, ↓m_6, ↓m_7])
  rw [if_neg hb] at hC ⊢
  obtain ⟨j, jb, rfl⟩ := isC_n w0 hb
  rcases i_cs t with h1 | ⟨v, vb, rfl⟩
  · rw [if_pos (Or.inl h1)]
    exact m_no_end hG hI hMW (by simp (disch := first | assumption | omega) only [f_X9_fits_24, f_X9_fits_377, f_X9_fits_369, bd_X9_fits_319, bd_X9_fits_278, f_X9_fits_263, f_X9_fits_238, f_X9_fits_c204, bd_X9_fits_160, bd_X9_fits_148, bd_X9_fits_122, bd_X9_fits_113, bd_X9_fits_63, f_X9_fits_c56, f_X9_fits_c2, f_X9_fits, gt_83, gr_83_9, gt_84, gl_84, hC, h1, m_noTen, l_of, n_ltT, n_ltF, n_leT, n_leF, n_eqT, n_eqF, n_neM, n_Mne, n_M0, n_Mlt, n_0leM, nI_clamp, x_in_nI, n_1, nI_add, x_at, x_bd_s, x_bv_s, ↓x_lt, decide_true, decide_false, Bool.and_self, Bool.true_and, Bool.and_true, if_true, if_false, ite_true, ite_false, ↓reduceIte, not_true_eq_false, not_false_eq_true, Nat.reduceAdd, Nat.reduceMul, Nat.reduceEqDiff, eq_self, true_and, and_true, false_and, and_false, Option.some.injEq, Prod.mk.injEq, l_0, l_1, l_2, l_3, l_4, l_5, l_6, l_7, l_8, l_9, l_10, l_100, l_160, ↓m_1, ↓m_2, ↓m_3, ↓m_4, ↓m_5, ↓m_6, ↓m_7])
  rw [nI_clamp (show v < 2 ^ 31 by omega), nI_clamp (show j < 2 ^ 31 by omega)]
  by_cases h2 : 100 < v
  · rw [if_pos (Or.inr h2)]
    exact m_no_end hG hI hMW (by simp (disch := first | assumption | omega) only [f_X9_fits_24, f_X9_fits_377, f_X9_fits_369, bd_X9_fits_319, bd_X9_fits_278, f_X9_fits_263, f_X9_fits_238, f_X9_fits_c204, bd_X9_fits_160, bd_X9_fits_148, bd_X9_fits_122, bd_X9_fits_113, bd_X9_fits_63, f_X9_fits_c56, f_X9_fits_c2, f_X9_fits, gt_83, gr_83_9, gt_84, gl_84, hC, h2, l_100, m_noTen, l_of, n_ltT, n_ltF, n_leT, n_leF, n_eqT, n_eqF, n_neM, n_Mne, n_M0, n_Mlt, n_0leM, nI_clamp, x_in_nI, n_1, nI_add, x_at, x_bd_s, x_bv_s, ↓x_lt, decide_true, decide_false, Bool.and_self, Bool.true_and, Bool.and_true, if_true, if_false, ite_true, ite_false, ↓reduceIte, not_true_eq_false, not_false_eq_true, Nat.reduceAdd, Nat.reduceMul, Nat.reduceEqDiff, eq_self, true_and, and_true, false_and, and_false, Option.some.injEq, Prod.mk.injEq, l_0, l_1, l_2, l_3, l_4, l_5, l_6, l_7, l_8, l_9, l_10, l_100, l_160, ↓m_1, ↓m_2, ↓m_3, ↓m_4, ↓m_5, ↓m_6, ↓m_7])
  rw [if_neg (fun q => by rcases q with q | q; exact nI_pos (by omega) q; exact h2 q)]
  obtain ⟨q1, q2, q3, q4, q5⟩ := hc j (by omega)
  obtain ⟨y1, y2, y3, y4⟩ := wc j (by omega)
  have y5 := wl j jb
  have j6 : j < 6 := by omega
  by_cases hx : r_q (s_now σ) 2 j = r_s (s_now σ) 1
  · by_cases hv : v = 0
    · subst hv
      rw [fw_t (show FS _ _ _ _ _ _ 0 _ _ from ⟨hx.symm, rfl⟩)]
      refine m_id_end hG hI hMW ?_
      simp (disch := first | assumption | omega) only [f_X9_fits_24, f_X9_fits_377, f_X9_fits_369, bd_X9_fits_319, bd_X9_fits_278, f_X9_fits_263, f_X9_fits_238, f_X9_fits_c204, bd_X9_fits_160, bd_X9_fits_148, bd_X9_fits_122, bd_X9_fits_113, bd_X9_fits_63, f_X9_fits_c56, f_X9_fits_c2, f_X9_fits, gt_83, gr_83_12, gt_87, gl_87, hC, e1, q3, hx, l_100, oI, l_of, n_ltT, n_ltF, n_leT, n_leF, n_eqT, n_eqF, n_neM, n_Mne, n_M0, n_Mlt, n_0leM, nI_clamp, x_in_nI, n_1, nI_add, x_at, x_bd_s, x_bv_s, ↓x_lt, decide_true, decide_false, Bool.and_self, Bool.true_and, Bool.and_true, if_true, if_false, ite_true, ite_false, ↓reduceIte, not_true_eq_false, not_false_eq_true, Nat.reduceAdd, Nat.reduceMul, Nat.reduceEqDiff, eq_self, true_and, and_true, false_and, and_false, Option.some.injEq, Prod.mk.injEq, l_0, l_1, l_2, l_3, l_4, l_5, l_6, l_7, l_8, l_9, l_10, l_100, l_160, ↓m_1, ↓m_2, ↓m_3, ↓m_4, ↓m_5, ↓m_6, ↓m_7]
    · obtain ⟨u, rfl⟩ : ∃ u, v = u + 1 := ⟨v - 1, by omega⟩
      rw [hx, fw_none 9 0 (fun q _ _ hs => FS_n u _ _ hs)]
      refine m_id_end hG hI hMW ?_
      simp (disch := first | assumption | omega) only [f_X9_fits_24, f_X9_fits_377, f_X9_fits_369, bd_X9_fits_319, bd_X9_fits_278, f_X9_fits_263, f_X9_fits_238, f_X9_fits_c204, bd_X9_fits_160, bd_X9_fits_148, bd_X9_fits_122, bd_X9_fits_113, bd_X9_fits_63, f_X9_fits_c56, f_X9_fits_c2, f_X9_fits, gt_83, gr_83_12, gt_87, gl_87, hC, e1, q3, hx, l_100, oI, l_of, n_ltT, n_ltF, n_leT, n_leF, n_eqT, n_eqF, n_neM, n_Mne, n_M0, n_Mlt, n_0leM, nI_clamp, x_in_nI, n_1, nI_add, x_at, x_bd_s, x_bv_s, ↓x_lt, decide_true, decide_false, Bool.and_self, Bool.true_and, Bool.and_true, if_true, if_false, ite_true, ite_false, ↓reduceIte, not_true_eq_false, not_false_eq_true, Nat.reduceAdd, Nat.reduceMul, Nat.reduceEqDiff, eq_self, true_and, and_true, false_and, and_false, Option.some.injEq, Prod.mk.injEq, l_0, l_1, l_2, l_3, l_4, l_5, l_6, l_7, l_8, l_9, l_10, l_100, l_160, ↓m_1, ↓m_2, ↓m_3, ↓m_4, ↓m_5, ↓m_6, ↓m_7]
  · have hT := m_turns hG j6 q1 q2 y1 y2
    obtain ⟨M1, a1, a2, a3, a4⟩ := m_f63 (L := L) (b1 := b1) (b2 := b2) (n := r_s (s_now σ) 1) (kd := r_q (s_now σ) 0 j) (T := v) j6 w2 y2 y5 (show r_q (s_now σ) 3 j ≤ 800000 by omega) 2010 x_fuel 0 M (fu (by omega)) hG q3 q5 (by omega) (fun h hl => absurd hl (by omega))
    have key : ∃ M', lp_X9_fits_113 x_fuel 83 (nI j) (nI v) (nI (tn (r_q (s_now σ) 0 j) (r_q (s_now σ) 1 j))) (nI 0) M1 = some (oI (fw (FS (r_s (s_now σ) 1) (r_s (s_now σ) 2) (r_q (s_now σ) 0 j) (r_q (s_now σ) 1 j) (r_q (s_now σ) 3 j) (r_q (s_now σ) 2 j) v (r_s (s_now σ) 1)) 9 0), M') ∧ Geo L b1 b2 M' ∧ Fr PP M1 M' := by
      by_cases hv : v = 0
      · subst hv
        refine ⟨M1, ?_, a2, Fr.rf⟩
        rw [fw_none 9 0 (fun q _ _ hs => hx hs.1.symm)]
        have e1' := (a4.1 83 1 (by omega)).trans e1
        have hT1 := tn_b (kd := r_q (s_now σ) 0 j) y2
        have hf : x_fuel = 999999 + 1 := rfl
        rw [hf, s_lp_X9_fits_113]
        generalize tn (r_q (s_now σ) 0 j) (r_q (s_now σ) 1 j) = tt at hT1 ⊢
        simp (disch := first | assumption | omega) only [bd_X9_fits_113, l_of, n_ltT, n_ltF, n_leT, n_leF, n_eqT, n_eqF, n_neM, n_Mne, n_M0, n_Mlt, n_0leM, nI_clamp, x_in_nI, n_1, nI_add, x_at, x_bd_s, x_bv_s, ↓x_lt, decide_true, decide_false, Bool.and_self, Bool.true_and, Bool.and_true, if_true, if_false, ite_true, ite_false, ↓reduceIte, not_true_eq_false, not_false_eq_true, Nat.reduceAdd, Nat.reduceMul, Nat.reduceEqDiff, eq_self, true_and, and_true, false_and, and_false, Option.some.injEq, Prod.mk.injEq, l_0, l_1, l_2, l_3, l_4, l_5, l_6, l_7, l_8, l_9, l_10, l_100, l_160, ↓m_1, ↓m_2, ↓m_3, ↓m_4, ↓m_5, ↓m_6, ↓m_7]
        rw [hf, s_lp_X9_fits_319]
        simp (disch := first | assumption | omega) only [bd_X9_fits_319, f_X9_fits_377, oI, l_of, n_ltT, n_ltF, n_leT, n_leF, n_eqT, n_eqF, n_neM, n_Mne, n_M0, n_Mlt, n_0leM, nI_clamp, x_in_nI, n_1, nI_add, x_at, x_bd_s, x_bv_s, ↓x_lt, decide_true, decide_false, Bool.and_self, Bool.true_and, Bool.and_true, if_true, if_false, ite_true, ite_false, ↓reduceIte, not_true_eq_false, not_false_eq_true, Nat.reduceAdd, Nat.reduceMul, Nat.reduceEqDiff, eq_self, true_and, and_true, false_and, and_false, Option.some.injEq, Prod.mk.injEq, l_0, l_1, l_2, l_3, l_4, l_5, l_6, l_7, l_8, l_9, l_10, l_100, l_160, ↓m_1, ↓m_2, ↓m_3, ↓m_4, ↓m_5, ↓m_6, ↓m_7]
      · exact m_f113 (L := L) (b1 := b1) (b2 := b2) j6 w2 y1 y2 w3 w4 (show 1 ≤ v by omega) (by omega) v x_fuel 0 _ M1 (fu (by omega)) a2 ((a4.1 _ _ (by omega)).trans e1) ((a4.1 _ _ (by omega)).trans q1) ((a4.1 _ _ (by omega)).trans q2) ((a4.1 _ _ (by omega)).trans e2) (by omega) a3 RP_0
    obtain ⟨M2, g1, g2, g3⟩ := key
    generalize fw (FS (r_s (s_now σ) 1) (r_s (s_now σ) 2) (r_q (s_now σ) 0 j) (r_q (s_now σ) 1 j) (r_q (s_now σ) 3 j) (r_q (s_now σ) 2 j) v (r_s (s_now σ) 1)) 9 0 = R at g1 ⊢
    have a5 := a1.trans g1
    refine m_w_end g2 hI hMW ((a4.tr g3).mono (fun a k q => by omega)) ?_
    simp (disch := first | assumption | omega) only [f_X9_fits_24, f_X9_fits_377, f_X9_fits_369, bd_X9_fits_319, bd_X9_fits_278, f_X9_fits_263, f_X9_fits_238, f_X9_fits_c204, bd_X9_fits_160, bd_X9_fits_148, bd_X9_fits_122, bd_X9_fits_113, bd_X9_fits_63, f_X9_fits_c56, f_X9_fits_c2, f_X9_fits, gt_83, gr_83_12, gt_87, gl_87, hC, hT, e1, q3, hx, l_100, l_of, n_ltT, n_ltF, n_leT, n_leF, n_eqT, n_eqF, n_neM, n_Mne, n_M0, n_Mlt, n_0leM, nI_clamp, x_in_nI, n_1, nI_add, x_at, x_bd_s, x_bv_s, ↓x_lt, decide_true, decide_false, Bool.and_self, Bool.true_and, Bool.and_true, if_true, if_false, ite_true, ite_false, ↓reduceIte, not_true_eq_false, not_false_eq_true, Nat.reduceAdd, Nat.reduceMul, Nat.reduceEqDiff, eq_self, true_and, and_true, false_and, and_false, Option.some.injEq, Prod.mk.injEq, l_0, l_1, l_2, l_3, l_4, l_5, l_6, l_7, l_8, l_9, l_10, l_100, l_160, ↓m_1, ↓m_2, ↓m_3, ↓m_4, ↓m_5, ↓m_6, ↓m_7]
    exact a5
