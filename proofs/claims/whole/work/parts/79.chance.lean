section
variable {L : Nat} {b1 b2 : Bool} {n o p kd a : Nat}
def nr (o n p kd a : Nat) (P : Nat → Nat → Nat) (r : Nat) : Nat → Nat → Nat := fun y g => sm (fun h => sm (fun x => ct o p kd a P x h y g) n) r
def ar (o n : Nat) (P : Nat → Nat → Nat) (A r : Nat) : Nat := A + sm (fun h => sm (fun x => cn o n P x h) n) r
theorem nr_s {P : Nat → Nat → Nat} {r : Nat} : ni o p kd a P (nr o n p kd a P r) r n = nr o n p kd a P (r + 1) := rfl
theorem ar_s {P : Nat → Nat → Nat} {A r : Nat} : ai o n P (ar o n P A r) r n = ar o n P A (r + 1) := Nat.add_assoc _ _ _
theorem l_1e6 : (1000000 : Int32) = nI 1000000 := rfl
theorem c_lo {M : XM} {x y : Nat} (hx : x < 2147483648) (hy : 1 ≤ y) (hy2 : y < 2147483648) : f_X8_leftOver (nI x) (nI y) M = some (nI (x % y), M) := by
  have z : nI x - nI x / nI y * nI y = nI (x % y) := pk_rem (by omega) (by omega) (by omega)
  simp (disch := first | assumption | omega) only [f_X8_leftOver, z, l_of, n_ltT, n_ltF, n_leT, n_leF, n_eqT, n_eqF, n_neM, n_Mne, n_M0, n_Mlt, n_0leM, nI_clamp, x_in_nI, n_1, nI_add, x_at, x_bd_s, x_bv_s, ↓x_lt, decide_true, decide_false, Bool.and_self, Bool.true_and, Bool.and_true, if_true, if_false, ite_true, ite_false, ↓reduceIte, not_true_eq_false, not_false_eq_true, Nat.reduceAdd, Nat.reduceMul, Nat.reduceEqDiff, eq_self, true_and, and_true, false_and, and_false, Option.some.injEq, Prod.mk.injEq, l_0, l_1, l_2, l_3, l_4, l_5, l_6, l_7, l_8, l_9, l_10, l_100, l_160, ↓m_1, ↓m_2, ↓m_3, ↓m_4, ↓m_5, ↓m_6, ↓m_7]
theorem c_psl {P : Nat → Nat → Nat} {A lo0 hi0 : Nat} (hn : n ≤ 200) (ho : o ≤ 1000) (ha : a ≤ 9) (hWP : WN n (tn kd a) P lo0 hi0) (hP : ∀ x h, x < n → h < tn kd a → P x h ≤ 1000000) (d : Nat) : ∀ (F r lo hi : Nat) (M : XM), d < F → Geo L b1 b2 M → CH b1 n o (tn kd a) p kd a (pz P r 0) (nr o n p kd a P r) (ar o n P A r) lo hi M → WN n (tn kd a) (nr o n p kd a P r) lo hi → r + d = tn kd a →
    ∃ M' lo' hi', lp_X1_pass_25 F 55 (nI lo0) (iv hi0) (nI r) M = some M' ∧ Geo L (!b1) b2 M' ∧ CH (!b1) n o (tn kd a) p kd a (fl o n p kd a P) (fun _ _ => 0) (A + fn o n kd a P) lo' hi' M' ∧ WN n (tn kd a) (fl o n p kd a P) lo' hi' ∧ Fr PX M M' := by
  have hT := tn_b (kd := kd) ha
  induction d with
  | zero =>
    intro F r lo hi M hF hG hC hW hr
    obtain ⟨F, rfl⟩ : ∃ i, F = i + 1 := ⟨F - 1, by omega⟩
    have e : r = tn kd a := by omega
    have eN : nr o n p kd a P (tn kd a) = fl o n p kd a P := by
      funext y g
      exact fl_c.symm
    have eA : ar o n P A (tn kd a) = A + fn o n kd a P := by
      unfold ar
      rw [fn_c]
    rw [e] at hC hW ⊢
    rw [eN] at hC hW
    rw [eA] at hC
    obtain ⟨h1, h2, h3, h4, h5, h6, h7, h8, h9⟩ := id hC
    have hG' : Geo L (!b1) b2 (x_wr (x_wr M 55 0 (nwc b1)) 55 1 (pwc b1)) := ⟨hG.1, by
      funext c k
      show (if c = 55 ∧ k = 1 then pwc b1 else if c = 55 ∧ k = 0 then nwc b1 else M.2.2.2 c k) = _
      by_cases q1 : c = 55 ∧ k = 1
      · rw [if_pos q1, q1.1, q1.2]
        cases b1 <;> rfl
      · rw [if_neg q1]
        by_cases q0 : c = 55 ∧ k = 0
        · rw [if_pos q0, q0.1, q0.2]
          cases b1 <;> rfl
        · rw [if_neg q0, hG.2]
          exact RR_sw1 _ _ _ _ _ q0 q1⟩
    refine ⟨x_wr (x_wr M 55 0 (nwc b1)) 55 1 (pwc b1), lo, hi, ?_, hG', ⟨h1, h2, h3, h4, h5, h6, fun x h hx hh => ?_, fun x h hx hh => ?_, h9⟩, hW, ⟨fun _ _ _ => rfl, fun _ _ => rfl⟩⟩
    · have q1 := g55_0 hG
      have q2 := g55_1 hG
      have q3 := gt_55 hG
      rw [s_lp_X1_pass_25]
      simp (disch := first | assumption | omega) only [bd_X1_pass_25, gt_55, h3, q1, q2, l_of, n_ltT, n_ltF, n_leT, n_leF, n_eqT, n_eqF, n_neM, n_Mne, n_M0, n_Mlt, n_0leM, nI_clamp, x_in_nI, n_1, nI_add, x_at, x_bd_s, x_bv_s, ↓x_lt, decide_true, decide_false, Bool.and_self, Bool.true_and, Bool.and_true, if_true, if_false, ite_true, ite_false, ↓reduceIte, not_true_eq_false, not_false_eq_true, Nat.reduceAdd, Nat.reduceMul, Nat.reduceEqDiff, eq_self, true_and, and_true, false_and, and_false, Option.some.injEq, Prod.mk.injEq, l_0, l_1, l_2, l_3, l_4, l_5, l_6, l_7, l_8, l_9, l_10, l_100, l_160, ↓m_1, ↓m_2, ↓m_3, ↓m_4, ↓m_5, ↓m_6, ↓m_7]
    · rw [pwc_n]; exact h8 x h hx hh
    · rw [nwc_n]
      refine (h7 x h hx hh).trans ?_
      unfold pz
      rw [if_pos (Or.inl hh)]
  | succ d ih =>
    intro F r lo hi M hF hG hC hW hr
    obtain ⟨F, rfl⟩ : ∃ i, F = i + 1 := ⟨F - 1, by omega⟩
    have hlo := c_lo (M := M) (x := r + 1) (y := tn kd a) (by omega) (by omega) (by omega)
    have h3 := hC.2.2.1
    obtain ⟨M1, lo1, hi1, g1, g2, g3, g4, g5⟩ := c_pr hn ho ha hWP (show r < tn kd a by omega) hP hG hC hW
    rw [nr_s] at g3 g4
    rw [ar_s] at g3
    obtain ⟨M2, lo2, hi2, u1, u2, u3, u4, u5⟩ := ih F (r + 1) lo1 hi1 M1 (by omega) g2 g3 g4 (by omega)
    refine ⟨M2, lo2, hi2, ?_, u2, u3, u4, g5.tr u5⟩
    rw [s_lp_X1_pass_25]
    simp (disch := first | assumption | omega) only [bd_X1_pass_25, f_X1_pass_c46, f_X1_pass_c55, gt_55, h3, hlo, l_200, pk_mul, g1, l_of, n_ltT, n_ltF, n_leT, n_leF, n_eqT, n_eqF, n_neM, n_Mne, n_M0, n_Mlt, n_0leM, nI_clamp, x_in_nI, n_1, nI_add, x_at, x_bd_s, x_bv_s, ↓x_lt, decide_true, decide_false, Bool.and_self, Bool.true_and, Bool.and_true, if_true, if_false, ite_true, ite_false, ↓reduceIte, not_true_eq_false, not_false_eq_true, Nat.reduceAdd, Nat.reduceMul, Nat.reduceEqDiff, eq_self, true_and, and_true, false_and, and_false, Option.some.injEq, Prod.mk.injEq, l_0, l_1, l_2, l_3, l_4, l_5, l_6, l_7, l_8, l_9, l_10, l_100, l_160, ↓m_1, ↓m_2, ↓m_3, ↓m_4, ↓m_5, ↓m_6, ↓m_7]
    exact u1
/-- a SECOND of all parts -/
theorem c_pass {P : Nat → Nat → Nat} {A lo0 hi0 : Nat} {M : XM} (hn : n ≤ 200) (ho : o ≤ 1000) (ha : a ≤ 9) (hWP : WN n (tn kd a) P lo0 hi0) (hP : ∀ x h, x < n → h < tn kd a → P x h ≤ 1000000) (hG : Geo L b1 b2 M) (hC : CH b1 n o (tn kd a) p kd a P (fun _ _ => 0) A lo0 hi0 M) :
    ∃ M' lo' hi', f_X1_pass 55 M = some M' ∧ Geo L (!b1) b2 M' ∧ CH (!b1) n o (tn kd a) p kd a (fl o n p kd a P) (fun _ _ => 0) (A + fn o n kd a P) lo' hi' M' ∧ WN n (tn kd a) (fl o n p kd a P) lo' hi' ∧ Fr PX M M' := by
  have hT := tn_b (kd := kd) ha
  obtain ⟨h1, h2, h3, h4, h5, h6, h7, h8, h9⟩ := id hC
  have c1 := hC.s (k := 7) (v := nI n) (A' := A) (lo' := n) (hi' := hi0) (Or.inr (Or.inl rfl)) (by rw [if_neg (by omega)]) (by rw [if_pos rfl]) (by rw [if_neg (by omega)])
  have c2 := c1.s (k := 8) (v := nM 1) (A' := A) (lo' := n) (hi' := 0) (Or.inr (Or.inr rfl)) (by rw [if_neg (by omega)]) (by rw [if_neg (by omega)]) (by rw [if_pos rfl]; rfl)
  have c3 := c2.c (P' := pz P 0 0) (N' := nr o n p kd a P 0) (A' := ar o n P A 0) (fun x g _ _ => by unfold pz; rw [if_neg (by omega)]) (fun _ _ _ _ => rfl) rfl
  obtain ⟨M1, lo1, hi1, g1, g2, g3, g4, g5⟩ := c_psl (L := L) (b1 := b1) (b2 := b2) hn ho ha hWP hP (tn kd a) x_fuel 0 n 0 (x_wi (x_wi M 55 7 (nI n)) 55 8 (nM 1)) (fu (by omega)) hG c3 ⟨Nat.le_refl _, Nat.zero_le _, fun y g _ _ hz => absurd rfl hz⟩ (by omega)
  refine ⟨M1, lo1, hi1, ?_, g2, g3, g4, ((Fr.rf.wi (by omega)).wi (by omega)).tr g5⟩
  simp (disch := first | assumption | omega) only [f_X1_pass, gt_55, h1, h5, h6, ti_wi, l_of, n_ltT, n_ltF, n_leT, n_leF, n_eqT, n_eqF, n_neM, n_Mne, n_M0, n_Mlt, n_0leM, nI_clamp, x_in_nI, n_1, nI_add, x_at, x_bd_s, x_bv_s, ↓x_lt, decide_true, decide_false, Bool.and_self, Bool.true_and, Bool.and_true, if_true, if_false, ite_true, ite_false, ↓reduceIte, not_true_eq_false, not_false_eq_true, Nat.reduceAdd, Nat.reduceMul, Nat.reduceEqDiff, eq_self, true_and, and_true, false_and, and_false, Option.some.injEq, Prod.mk.injEq, l_0, l_1, l_2, l_3, l_4, l_5, l_6, l_7, l_8, l_9, l_10, l_100, l_160, ↓m_1, ↓m_2, ↓m_3, ↓m_4, ↓m_5, ↓m_6, ↓m_7]
  exact g1
/-- what Chances hold behind so many SECONDS -/
def CK (b : Bool) (n o p kd a x0 hd k : Nat) (M : XM) : Prop := ∃ lo hi, CH b n o (tn kd a) p kd a (fk o n p kd a x0 hd k).1 (fun _ _ => 0) (fk o n p kd a x0 hd k).2 lo hi M ∧ WN n (tn kd a) (fk o n p kd a x0 hd k).1 lo hi
theorem c_ck {x0 hd k : Nat} {M : XM} (hn : n ≤ 200) (ho : o ≤ 1000) (ha : a ≤ 9) (hx : x0 ≤ n) (hG : Geo L b1 b2 M) (hC : CK b1 n o p kd a x0 hd k M) :
    ∃ M', f_X1_pass 55 M = some M' ∧ Geo L (!b1) b2 M' ∧ CK (!b1) n o p kd a x0 hd (k + 1) M' ∧ Fr PX M M' := by
  obtain ⟨lo, hi, hC, hW⟩ := hC
  obtain ⟨M1, lo1, hi1, g1, g2, g3, g4, g5⟩ := c_pass hn ho ha hW (fun x h hx' hh => fk_le ho ha hx hx' hh) hG hC
  exact ⟨M1, g1, g2, ⟨lo1, hi1, g3, g4⟩, g5⟩
theorem c_beh {x0 hd t : Nat} (hn : n ≤ 200) (ho : o ≤ 1000) (ha : a ≤ 9) (hx : x0 ≤ n) (ht : t ≤ 400) (d : Nat) : ∀ (F k : Nat) (b1 : Bool) (M : XM), d < F → Geo L b1 b2 M → CK b1 n o p kd a x0 hd k M → k + d = t →
    ∃ M' b1', lp_X1_behind_13 F 55 (nI t) (nI k) M = some (nI (fk o n p kd a x0 hd t).2, M') ∧ Geo L b1' b2 M' ∧ Fr PX M M' := by
  induction d with
  | zero =>
    intro F k b1 M hF hG hC hk
    obtain ⟨F, rfl⟩ : ∃ i, F = i + 1 := ⟨F - 1, by omega⟩
    have e : k = t := by omega
    subst e
    obtain ⟨lo, hi, hC, hW⟩ := hC
    have h4 := hC.2.2.2.1
    refine ⟨M, b1, ?_, hG, Fr.rf⟩
    rw [s_lp_X1_behind_13]
    simp (disch := first | assumption | omega) only [bd_X1_behind_13, gt_55, h4, l_of, n_ltT, n_ltF, n_leT, n_leF, n_eqT, n_eqF, n_neM, n_Mne, n_M0, n_Mlt, n_0leM, nI_clamp, x_in_nI, n_1, nI_add, x_at, x_bd_s, x_bv_s, ↓x_lt, decide_true, decide_false, Bool.and_self, Bool.true_and, Bool.and_true, if_true, if_false, ite_true, ite_false, ↓reduceIte, not_true_eq_false, not_false_eq_true, Nat.reduceAdd, Nat.reduceMul, Nat.reduceEqDiff, eq_self, true_and, and_true, false_and, and_false, Option.some.injEq, Prod.mk.injEq, l_0, l_1, l_2, l_3, l_4, l_5, l_6, l_7, l_8, l_9, l_10, l_100, l_160, ↓m_1, ↓m_2, ↓m_3, ↓m_4, ↓m_5, ↓m_6, ↓m_7]
  | succ d ih =>
    intro F k b1 M hF hG hC hk
    obtain ⟨F, rfl⟩ : ∃ i, F = i + 1 := ⟨F - 1, by omega⟩
    obtain ⟨M1, g1, g2, g3, g4⟩ := c_ck hn ho ha hx hG hC
    obtain ⟨M2, b1', u1, u2, u3⟩ := ih F (k + 1) (!b1) M1 (by omega) g2 g3 (by omega)
    refine ⟨M2, b1', ?_, u2, g4.tr u3⟩
    rw [s_lp_X1_behind_13]
    simp (disch := first | assumption | omega) only [bd_X1_behind_13, f_X1_behind_c20, gt_55, g1, l_of, n_ltT, n_ltF, n_leT, n_leF, n_eqT, n_eqF, n_neM, n_Mne, n_M0, n_Mlt, n_0leM, nI_clamp, x_in_nI, n_1, nI_add, x_at, x_bd_s, x_bv_s, ↓x_lt, decide_true, decide_false, Bool.and_self, Bool.true_and, Bool.and_true, if_true, if_false, ite_true, ite_false, ↓reduceIte, not_true_eq_false, not_false_eq_true, Nat.reduceAdd, Nat.reduceMul, Nat.reduceEqDiff, eq_self, true_and, and_true, false_and, and_false, Option.some.injEq, Prod.mk.injEq, l_0, l_1, l_2, l_3, l_4, l_5, l_6, l_7, l_8, l_9, l_10, l_100, l_160, ↓m_1, ↓m_2, ↓m_3, ↓m_4, ↓m_5, ↓m_6, ↓m_7]
    exact u1
def um (o n p kd a x0 hd c : Nat) : Nat → Nat → Option Nat
  | 0, _ => none
  | d + 1, s => if c ≤ (fk o n p kd a x0 hd s).2 then some s else um o n p kd a x0 hd c d (s + 1)
theorem c_unt {x0 hd c m : Nat} (hn : n ≤ 200) (ho : o ≤ 1000) (ha : a ≤ 9) (hx : x0 ≤ n) (hm : m ≤ 400) (hc : c ≤ 1000000) (d : Nat) : ∀ (F s : Nat) (b1 : Bool) (M : XM), d < F → Geo L b1 b2 M → CK b1 n o p kd a x0 hd s M → s + d = m + 1 →
    ∃ M' b1', lp_X1_untilAtLeast_11 F 55 (nI c) (nI m) (nI s) M = some (oI (um o n p kd a x0 hd c d s), M') ∧ Geo L b1' b2 M' ∧ Fr PX M M' := by
  induction d with
  | zero =>
    intro F s b1 M hF hG hC hs
    obtain ⟨F, rfl⟩ : ∃ i, F = i + 1 := ⟨F - 1, by omega⟩
    refine ⟨M, b1, ?_, hG, Fr.rf⟩
    rw [s_lp_X1_untilAtLeast_11, show s = m + 1 by omega]
    simp (disch := first | assumption | omega) only [bd_X1_untilAtLeast_11, um, oI, l_of, n_ltT, n_ltF, n_leT, n_leF, n_eqT, n_eqF, n_neM, n_Mne, n_M0, n_Mlt, n_0leM, nI_clamp, x_in_nI, n_1, nI_add, x_at, x_bd_s, x_bv_s, ↓x_lt, decide_true, decide_false, Bool.and_self, Bool.true_and, Bool.and_true, if_true, if_false, ite_true, ite_false, ↓reduceIte, not_true_eq_false, not_false_eq_true, Nat.reduceAdd, Nat.reduceMul, Nat.reduceEqDiff, eq_self, true_and, and_true, false_and, and_false, Option.some.injEq, Prod.mk.injEq, l_0, l_1, l_2, l_3, l_4, l_5, l_6, l_7, l_8, l_9, l_10, l_100, l_160, ↓m_1, ↓m_2, ↓m_3, ↓m_4, ↓m_5, ↓m_6, ↓m_7]
  | succ d ih =>
    intro F s b1 M hF hG hC hs
    obtain ⟨F, rfl⟩ : ∃ i, F = i + 1 := ⟨F - 1, by omega⟩
    obtain ⟨lo, hi, hC1, hW⟩ := id hC
    have h4 := hC1.2.2.2.1
    have hA := fk_A (p := p) (kd := kd) (hd := hd) (k := s) ho ha hx
    rw [s_lp_X1_untilAtLeast_11]
    unfold um
    by_cases q : c ≤ (fk o n p kd a x0 hd s).2
    · rw [if_pos q]
      refine ⟨M, b1, ?_, hG, Fr.rf⟩
      simp (disch := first | assumption | omega) only [bd_X1_untilAtLeast_11, gt_55, h4, oI, l_of, n_ltT, n_ltF, n_leT, n_leF, n_eqT, n_eqF, n_neM, n_Mne, n_M0, n_Mlt, n_0leM, nI_clamp, x_in_nI, n_1, nI_add, x_at, x_bd_s, x_bv_s, ↓x_lt, decide_true, decide_false, Bool.and_self, Bool.true_and, Bool.and_true, if_true, if_false, ite_true, ite_false, ↓reduceIte, not_true_eq_false, not_false_eq_true, Nat.reduceAdd, Nat.reduceMul, Nat.reduceEqDiff, eq_self, true_and, and_true, false_and, and_false, Option.some.injEq, Prod.mk.injEq, l_0, l_1, l_2, l_3, l_4, l_5, l_6, l_7, l_8, l_9, l_10, l_100, l_160, ↓m_1, ↓m_2, ↓m_3, ↓m_4, ↓m_5, ↓m_6, ↓m_7]
    · rw [if_neg q]
      obtain ⟨M1, g1, g2, g3, g4⟩ := c_ck hn ho ha hx hG hC
      obtain ⟨M2, b1', u1, u2, u3⟩ := ih F (s + 1) (!b1) M1 (by omega) g2 g3 (by omega)
      refine ⟨M2, b1', ?_, u2, g4.tr u3⟩
      simp (disch := first | assumption | omega) only [bd_X1_untilAtLeast_11, f_X1_untilAtLeast_c30, gt_55, h4, g1, l_of, n_ltT, n_ltF, n_leT, n_leF, n_eqT, n_eqF, n_neM, n_Mne, n_M0, n_Mlt, n_0leM, nI_clamp, x_in_nI, n_1, nI_add, x_at, x_bd_s, x_bv_s, ↓x_lt, decide_true, decide_false, Bool.and_self, Bool.true_and, Bool.and_true, if_true, if_false, ite_true, ite_false, ↓reduceIte, not_true_eq_false, not_false_eq_true, Nat.reduceAdd, Nat.reduceMul, Nat.reduceEqDiff, eq_self, true_and, and_true, false_and, and_false, Option.some.injEq, Prod.mk.injEq, l_0, l_1, l_2, l_3, l_4, l_5, l_6, l_7, l_8, l_9, l_10, l_100, l_160, ↓m_1, ↓m_2, ↓m_3, ↓m_4, ↓m_5, ↓m_6, ↓m_7]
      exact u1
/-! where breaks leave is noted once -/
theorem c_nl13 {κ : Nat → Nat → Int32 → Int32 → XM → Option XM} {v0 r : Nat} (hv : 24 ≤ v0) (hv2 : v0 < 30) (hn : n ≤ 200) (hk : kd ≤ 6) (ha : a ≤ 9) (hp : 1 ≤ p) (hp2 : p ≤ 200) (hr : r < 10) (d : Nat) : ∀ (F x : Nat) (M : XM), d < F → Geo L b1 b2 M → x_tag M v0 = 12 → x_i M v0 0 = nI kd → x_i M v0 1 = nI a → x_i M 55 3 = nI n → x + d = n → (∀ y, y < x → x_i M 58 (r * 200 + y) = nI (lf p kd a y (r + 1))) →
    ∃ M', lp_X1_noteLefts_13 κ F 55 v0 (nI p) (nI r) (nI x) M = κ 55 v0 (nI p) (nI (r + 1)) M' ∧ Geo L b1 b2 M' ∧ (∀ y, y < n → x_i M' 58 (r * 200 + y) = nI (lf p kd a y (r + 1))) ∧ Fr (fun c k => c = 58 ∧ r * 200 ≤ k ∧ k < r * 200 + 200) M M' := by
  induction d with
  | zero =>
    intro F x M hF hG ht k0 k1 k3 hx hy
    obtain ⟨F, rfl⟩ : ∃ i, F = i + 1 := ⟨F - 1, by omega⟩
    refine ⟨M, ?_, hG, fun y h => hy y (by omega), Fr.rf⟩
    rw [s_lp_X1_noteLefts_13, show x = n by omega]
    simp (disch := first | assumption | omega) only [bd_X1_noteLefts_13, gt_55, k3, l_of, n_ltT, n_ltF, n_leT, n_leF, n_eqT, n_eqF, n_neM, n_Mne, n_M0, n_Mlt, n_0leM, nI_clamp, x_in_nI, n_1, nI_add, x_at, x_bd_s, x_bv_s, ↓x_lt, decide_true, decide_false, Bool.and_self, Bool.true_and, Bool.and_true, if_true, if_false, ite_true, ite_false, ↓reduceIte, not_true_eq_false, not_false_eq_true, Nat.reduceAdd, Nat.reduceMul, Nat.reduceEqDiff, eq_self, true_and, and_true, false_and, and_false, Option.some.injEq, Prod.mk.injEq, l_0, l_1, l_2, l_3, l_4, l_5, l_6, l_7, l_8, l_9, l_10, l_100, l_160, ↓m_1, ↓m_2, ↓m_3, ↓m_4, ↓m_5, ↓m_6, ↓m_7]
  | succ d ih =>
    intro F x M hF hG ht k0 k1 k3 hx hy
    obtain ⟨F, rfl⟩ : ∃ i, F = i + 1 := ⟨F - 1, by omega⟩
    have hl := c_left (M := M) (v0 := v0) (x := x) (h := r + 1) (p := p) ht k0 k1 hk ha (by omega) (by omega) hp hp2
    have f0 : Fr (fun c k => c = 58 ∧ r * 200 ≤ k ∧ k < r * 200 + 200) M (x_wi M 58 (r * 200 + x) (nI (lf p kd a x (r + 1)))) := Fr.rf.wi (by omega)
    obtain ⟨M2, g1, g2, g3, g4⟩ := ih F (x + 1) (x_wi M 58 (r * 200 + x) (nI (lf p kd a x (r + 1)))) (by omega) hG ht ((f0.1 _ _ (by omega)).trans k0) ((f0.1 _ _ (by omega)).trans k1) ((f0.1 _ _ (by omega)).trans k3) (by omega) (fun y h => by
      rw [ii_wi]
      by_cases q : y = x
      · rw [if_pos ⟨rfl, by rw [q]⟩, q]
      · rw [if_neg (by omega)]; exact hy y (by omega))
    refine ⟨M2, ?_, g2, g3, f0.tr g4⟩
    rw [s_lp_X1_noteLefts_13]
    simp (disch := first | assumption | omega) only [bd_X1_noteLefts_13, f_X1_noteLefts_c41, gt_55, gr_55_2, gt_58, gl_58, ht, k3, hl, l_200, pk_mul, nI_add, l_of, n_ltT, n_ltF, n_leT, n_leF, n_eqT, n_eqF, n_neM, n_Mne, n_M0, n_Mlt, n_0leM, nI_clamp, x_in_nI, n_1, nI_add, x_at, x_bd_s, x_bv_s, ↓x_lt, decide_true, decide_false, Bool.and_self, Bool.true_and, Bool.and_true, if_true, if_false, ite_true, ite_false, ↓reduceIte, not_true_eq_false, not_false_eq_true, Nat.reduceAdd, Nat.reduceMul, Nat.reduceEqDiff, eq_self, true_and, and_true, false_and, and_false, Option.some.injEq, Prod.mk.injEq, l_0, l_1, l_2, l_3, l_4, l_5, l_6, l_7, l_8, l_9, l_10, l_100, l_160, ↓m_1, ↓m_2, ↓m_3, ↓m_4, ↓m_5, ↓m_6, ↓m_7]
    exact g1
theorem c_nl2 {v0 : Nat} (hv : 24 ≤ v0) (hv2 : v0 < 30) (hn : n ≤ 200) (hk : kd ≤ 6) (ha : a ≤ 9) (hp : 1 ≤ p) (hp2 : p ≤ 200) (d : Nat) : ∀ (F r : Nat) (M : XM), d < F → Geo L b1 b2 M → x_tag M v0 = 12 → x_i M v0 0 = nI kd → x_i M v0 1 = nI a → x_i M 55 3 = nI n → x_i M 55 5 = nI (tn kd a) → r + d = tn kd a → (∀ y h, y < n → h < r → x_i M 58 (h * 200 + y) = nI (lf p kd a y (h + 1))) →
    ∃ M', lp_X1_noteLefts_2 F 55 v0 (nI p) (nI r) M = some M' ∧ Geo L b1 b2 M' ∧ (∀ y h, y < n → h < tn kd a → x_i M' 58 (h * 200 + y) = nI (lf p kd a y (h + 1))) ∧ Fr (fun c _ => c = 58) M M' := by
  have hT := tn_b (kd := kd) ha
  induction d with
  | zero =>
    intro F r M hF hG ht k0 k1 k3 k5 hr hy
    obtain ⟨F, rfl⟩ : ∃ i, F = i + 1 := ⟨F - 1, by omega⟩
    refine ⟨M, ?_, hG, fun y h h1 h2 => hy y h h1 (by omega), Fr.rf⟩
    rw [s_lp_X1_noteLefts_2, show r = tn kd a by omega]
    simp (disch := first | assumption | omega) only [bd_X1_noteLefts_2, gt_55, k5, l_of, n_ltT, n_ltF, n_leT, n_leF, n_eqT, n_eqF, n_neM, n_Mne, n_M0, n_Mlt, n_0leM, nI_clamp, x_in_nI, n_1, nI_add, x_at, x_bd_s, x_bv_s, ↓x_lt, decide_true, decide_false, Bool.and_self, Bool.true_and, Bool.and_true, if_true, if_false, ite_true, ite_false, ↓reduceIte, not_true_eq_false, not_false_eq_true, Nat.reduceAdd, Nat.reduceMul, Nat.reduceEqDiff, eq_self, true_and, and_true, false_and, and_false, Option.some.injEq, Prod.mk.injEq, l_0, l_1, l_2, l_3, l_4, l_5, l_6, l_7, l_8, l_9, l_10, l_100, l_160, ↓m_1, ↓m_2, ↓m_3, ↓m_4, ↓m_5, ↓m_6, ↓m_7]
  | succ d ih =>
    intro F r M hF hG ht k0 k1 k3 k5 hr hy
    obtain ⟨F, rfl⟩ : ∃ i, F = i + 1 := ⟨F - 1, by omega⟩
    obtain ⟨M1, g1, g2, g3, g4⟩ := c_nl13 (L := L) (b1 := b1) (b2 := b2) (κ := lp_X1_noteLefts_2 F) hv hv2 hn hk ha hp hp2 (show r < 10 by omega) n x_fuel 0 M (fu (by omega)) hG ht k0 k1 k3 (by omega) (fun y h => absurd h (by omega))
    obtain ⟨M2, u1, u2, u3, u4⟩ := ih F (r + 1) M1 (by omega) g2 (((ge_tag g2).trans (ge_tag hG).symm).trans ht) ((g4.1 _ _ (by omega)).trans k0) ((g4.1 _ _ (by omega)).trans k1) ((g4.1 _ _ (by omega)).trans k3) ((g4.1 _ _ (by omega)).trans k5) (by omega) (fun y h h1 h2 => by
      by_cases q : h = r
      · rw [q]; exact g3 y h1
      · exact (g4.1 _ _ (by omega)).trans (hy y h h1 (by omega)))
    refine ⟨M2, ?_, u2, u3, (g4.mono (fun c k q => q.1)).tr u4⟩
    rw [s_lp_X1_noteLefts_2]
    simp (disch := first | assumption | omega) only [bd_X1_noteLefts_2, gt_55, k5, l_of, n_ltT, n_ltF, n_leT, n_leF, n_eqT, n_eqF, n_neM, n_Mne, n_M0, n_Mlt, n_0leM, nI_clamp, x_in_nI, n_1, nI_add, x_at, x_bd_s, x_bv_s, ↓x_lt, decide_true, decide_false, Bool.and_self, Bool.true_and, Bool.and_true, if_true, if_false, ite_true, ite_false, ↓reduceIte, not_true_eq_false, not_false_eq_true, Nat.reduceAdd, Nat.reduceMul, Nat.reduceEqDiff, eq_self, true_and, and_true, false_and, and_false, Option.some.injEq, Prod.mk.injEq, l_0, l_1, l_2, l_3, l_4, l_5, l_6, l_7, l_8, l_9, l_10, l_100, l_160, ↓m_1, ↓m_2, ↓m_3, ↓m_4, ↓m_5, ↓m_6, ↓m_7]
    exact g1.trans u1
end
