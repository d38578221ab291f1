section
variable {L : Nat} {b1 b2 : Bool} {n o T p kd a : Nat}
def pz (P : Nat → Nat → Nat) (r i : Nat) : Nat → Nat → Nat := fun x h => if h < r ∨ (h = r ∧ x < i) then 0 else P x h
def ni (o p kd a : Nat) (P N : Nat → Nat → Nat) (r i : Nat) : Nat → Nat → Nat := fun y g => N y g + sm (fun x => ct o p kd a P x r y g) i
def ai (o n : Nat) (P : Nat → Nat → Nat) (A r i : Nat) : Nat := A + sm (fun x => cn o n P x r) i
theorem pz_s {P : Nat → Nat → Nat} {r i : Nat} : (fun x g => if x = i ∧ g = r then 0 else pz P r i x g) = pz P r (i + 1) := by
  funext x h
  unfold pz
  by_cases q : x = i ∧ h = r
  · rw [if_pos q, if_pos (by omega)]
  · rw [if_neg q]
    by_cases z : h < r ∨ (h = r ∧ x < i)
    · rw [if_pos z, if_pos (by omega)]
    · rw [if_neg z, if_neg (by omega)]
theorem pz_0 {P : Nat → Nat → Nat} {r i : Nat} (h : P i r = 0) : pz P r (i + 1) = pz P r i := by
  funext x g
  unfold pz
  by_cases z : g < r ∨ (g = r ∧ x < i)
  · rw [if_pos z, if_pos (by omega)]
  · rw [if_neg z]
    by_cases q : g < r ∨ (g = r ∧ x < i + 1)
    · rw [if_pos q, show x = i by omega, show g = r by omega, h]
    · rw [if_neg q]
theorem ni_s {P N : Nat → Nat → Nat} {r i : Nat} : ni o p kd a P N r (i + 1) = fun y g => (ni o p kd a P N r i y g + if y = lf p kd a i (r + 1) ∧ g = (r + 1) % tn kd a then br o (P i r) else 0) + if y = i + 1 ∧ g = r then P i r - br o (P i r) else 0 := by
  funext y g
  show N y g + (sm (fun x => ct o p kd a P x r y g) i + ct o p kd a P i r y g) = _
  unfold ni ct
  omega
theorem ni_0 {P N : Nat → Nat → Nat} {r i : Nat} (h : P i r = 0) : ni o p kd a P N r (i + 1) = ni o p kd a P N r i := by
  funext y g
  show N y g + (sm (fun x => ct o p kd a P x r y g) i + ct o p kd a P i r y g) = _
  rw [ct_0 h]
  rfl
theorem ai_s {P : Nat → Nat → Nat} {A r i : Nat} : ai o n P A r (i + 1) = ai o n P A r i + if i + 1 = n then P i r - br o (P i r) else 0 := by
  show A + (sm (fun x => cn o n P x r) i + cn o n P i r) = _
  unfold ai cn
  omega
theorem ai_0 {P : Nat → Nat → Nat} {A r i : Nat} (h : P i r = 0) : ai o n P A r (i + 1) = ai o n P A r i := by
  show A + (sm (fun x => cn o n P x r) i + cn o n P i r) = _
  rw [cn_0 h]
  rfl
set_option maxHeartbeats 1000000 in
theorem c_one {M : XM} {P N : Nat → Nat → Nat} {A lo hi hi0 i r F : Nat} (hG : Geo L b1 b2 M) (hC : CH b1 n o (tn kd a) p kd a (pz P r i) (ni o p kd a P N r i) (ai o n P A r i) lo hi M) (hW : WN n (tn kd a) (ni o p kd a P N r i) lo hi) (hn : n ≤ 200) (ho : o ≤ 1000) (ha : a ≤ 9) (hi' : i < hi0) (hi0n : hi0 ≤ n) (hr : r < tn kd a) (hP : P i r ≤ 1000000) :
    ∃ M' lo' hi', lp_X1_passRest_3 (F + 1) 55 (nI (r * 200)) (nI ((r + 1) % tn kd a * 200)) (iv hi0) (nI i) M = lp_X1_passRest_3 F 55 (nI (r * 200)) (nI ((r + 1) % tn kd a * 200)) (iv hi0) (nI (i + 1)) M' ∧ Geo L b1 b2 M' ∧ CH b1 n o (tn kd a) p kd a (pz P r (i + 1)) (ni o p kd a P N r (i + 1)) (ai o n P A r (i + 1)) lo' hi' M' ∧ WN n (tn kd a) (ni o p kd a P N r (i + 1)) lo' hi' ∧ Fr PX M M' := by
  have hT := tn_b (kd := kd) ha
  have hb := pwc_b b1
  have hle := lf_le p kd a i (r + 1)
  have hm := Nat.mod_lt (r + 1) (show tn kd a > 0 by omega)
  obtain ⟨h1, h2, h3, h4, h5, h6, h7, h8, h9⟩ := id hC
  obtain ⟨w1, w2, w3⟩ := id hW
  have y := h7 i r (by omega) hr
  rw [show pz P r i i r = P i r by unfold pz; rw [if_neg (by omega)]] at y
  have e0 := iv_ltF hi' (show hi0 < 2147483648 by omega)
  rw [s_lp_X1_passRest_3]
  by_cases hz : P i r = 0
  · rw [pz_0 hz, ni_0 hz, ai_0 hz]
    refine ⟨M, lo, hi, ?_, hG, hC, hW, Fr.rf⟩
    rw [hz] at y
    simp (disch := first | assumption | omega) only [bd_X1_passRest_3, f_X1_passRest_204, gt_55, g55_0, gpt, gpl, e0, y, nI_add, l_of, n_ltT, n_ltF, n_leT, n_leF, n_eqT, n_eqF, n_neM, n_Mne, n_M0, n_Mlt, n_0leM, nI_clamp, x_in_nI, n_1, nI_add, x_at, x_bd_s, x_bv_s, ↓x_lt, decide_true, decide_false, Bool.and_self, Bool.true_and, Bool.and_true, if_true, if_false, ite_true, ite_false, ↓reduceIte, not_true_eq_false, not_false_eq_true, Nat.reduceAdd, Nat.reduceMul, Nat.reduceEqDiff, eq_self, true_and, and_true, false_and, and_false, Option.some.injEq, Prod.mk.injEq, l_0, l_1, l_2, l_3, l_4, l_5, l_6, l_7, l_8, l_9, l_10, l_100, l_160, ↓m_1, ↓m_2, ↓m_3, ↓m_4, ↓m_5, ↓m_6, ↓m_7]
  · have hCz := hC.z (r := r) (show i < n by omega) hn
    rw [pz_s] at hCz
    have hGz : Geo L b1 b2 (x_wi M (pwc b1) (r * 200 + i) (nI 0)) := hG
    have fz : Fr PX M (x_wi M (pwc b1) (r * 200 + i) (nI 0)) := Fr.rf.wi (by omega)
    have k4 := hCz.2.1
    have k58 := hCz.2.2.2.2.2.2.2.2 i r (by omega) hr
    have hvo : P i r * o ≤ 1000000 * 1000 := Nat.mul_le_mul hP ho
    have zb : nI (P i r * o) / nI 1000 = nI (br o (P i r)) := pk_div (by omega) (by omega) (by omega)
    have hbl := br_le (v := P i r) ho
    rw [ni_s, ai_s]
    generalize hBR : br o (P i r) = w at hbl zb ⊢
    by_cases hb0 : w = 0
    · subst hb0
      obtain ⟨M2, lo2, hi2, s1, s2, s3, s4, s5⟩ := c_112 (κ := lp_X1_passRest_3 F) (v2 := nI ((r + 1) % tn kd a * 200)) (v4 := iv hi0) (v := P i r) (w := 0) hGz hCz hW hn (show i < n by omega) hr (by omega) hP (by omega)
      have eN : (fun y g => ni o p kd a P N r i y g + if y = i + 1 ∧ g = r then P i r - 0 else 0) = fun y g => (ni o p kd a P N r i y g + if y = lf p kd a i (r + 1) ∧ g = (r + 1) % tn kd a then 0 else 0) + if y = i + 1 ∧ g = r then P i r - 0 else 0 := by
        funext y g
        show _ = (ni o p kd a P N r i y g + if y = lf p kd a i (r + 1) ∧ g = (r + 1) % tn kd a then 0 else 0) + _
        rw [show (if y = lf p kd a i (r + 1) ∧ g = (r + 1) % tn kd a then (0 : Nat) else 0) = 0 from ite_self 0]
        rfl
      rw [eN] at s3 s4
      refine ⟨M2, lo2, hi2, ?_, s2, s3, s4, fz.tr s5⟩
      simp (disch := first | assumption | omega) only [bd_X1_passRest_3, gt_55, g55_0, gpt, gpl, e0, y, hz, k4, zb, l_1000, pk_mul, nI_add, ti_wi, li_wi, ri_wi, l_of, n_ltT, n_ltF, n_leT, n_leF, n_eqT, n_eqF, n_neM, n_Mne, n_M0, n_Mlt, n_0leM, nI_clamp, x_in_nI, n_1, nI_add, x_at, x_bd_s, x_bv_s, ↓x_lt, decide_true, decide_false, Bool.and_self, Bool.true_and, Bool.and_true, if_true, if_false, ite_true, ite_false, ↓reduceIte, not_true_eq_false, not_false_eq_true, Nat.reduceAdd, Nat.reduceMul, Nat.reduceEqDiff, eq_self, true_and, and_true, false_and, and_false, Option.some.injEq, Prod.mk.injEq, l_0, l_1, l_2, l_3, l_4, l_5, l_6, l_7, l_8, l_9, l_10, l_100, l_160, ↓m_1, ↓m_2, ↓m_3, ↓m_4, ↓m_5, ↓m_6, ↓m_7]
      exact s1
    · have l200 : lf p kd a i (r + 1) < 200 := by omega
      have k8 := hCz.2.2.2.2.2.2.2.1 (lf p kd a i (r + 1)) ((r + 1) % tn kd a) (by omega) hm
      have hCn := hCz.na (v := w) (show lf p kd a i (r + 1) < n by omega) hm hn
      have fn' : Fr PX M (x_wi (x_wi M (pwc b1) (r * 200 + i) (nI 0)) (nwc b1) ((r + 1) % tn kd a * 200 + lf p kd a i (r + 1)) (nI (ni o p kd a P N r i (lf p kd a i (r + 1)) ((r + 1) % tn kd a) + w))) := fz.wi (by omega)
      have hGn : Geo L b1 b2 (x_wi (x_wi M (pwc b1) (r * 200 + i) (nI 0)) (nwc b1) ((r + 1) % tn kd a * 200 + lf p kd a i (r + 1)) (nI (ni o p kd a P N r i (lf p kd a i (r + 1)) ((r + 1) % tn kd a) + w))) := hG
      have klo := hCn.2.2.2.2.1
      have wn : ∀ lo' hi', lo' ≤ lo → lo' ≤ lf p kd a i (r + 1) → hi ≤ hi' → lf p kd a i (r + 1) < hi' → hi' ≤ n → WN n (tn kd a) (fun y g => ni o p kd a P N r i y g + if y = lf p kd a i (r + 1) ∧ g = (r + 1) % tn kd a then w else 0) lo' hi' := fun lo' hi' c1 c2 c4 c5 c6 => ⟨by omega, c6, fun y g hy hg hzz => by
        by_cases z : ni o p kd a P N r i y g = 0
        · dsimp only at hzz
          rw [z] at hzz
          by_cases z2 : y = lf p kd a i (r + 1) ∧ g = (r + 1) % tn kd a
          · omega
          · rw [if_neg z2] at hzz; exact absurd rfl hzz
        · have := w3 y g hy hg z
          omega⟩
      have fin : ∀ (M1 : XM) (lo1 : Nat), Geo L b1 b2 M1 → CH b1 n o (tn kd a) p kd a (pz P r (i + 1)) (fun y g => ni o p kd a P N r i y g + if y = lf p kd a i (r + 1) ∧ g = (r + 1) % tn kd a then w else 0) (ai o n P A r i) lo1 hi M1 → lo1 ≤ lo → lo1 ≤ lf p kd a i (r + 1) → Fr PX M M1 →
          ∃ M' lo' hi', f_X1_passRest_97 (lp_X1_passRest_3 F) 55 (nI (r * 200)) (nI ((r + 1) % tn kd a * 200)) (iv hi0) (nI i) (nI (P i r)) (nI w) (nI (lf p kd a i (r + 1))) M1 = lp_X1_passRest_3 F 55 (nI (r * 200)) (nI ((r + 1) % tn kd a * 200)) (iv hi0) (nI (i + 1)) M' ∧ Geo L b1 b2 M' ∧ CH b1 n o (tn kd a) p kd a (pz P r (i + 1)) (fun y g => (ni o p kd a P N r i y g + if y = lf p kd a i (r + 1) ∧ g = (r + 1) % tn kd a then w else 0) + if y = i + 1 ∧ g = r then P i r - w else 0) (ai o n P A r i + if i + 1 = n then P i r - w else 0) lo' hi' M' ∧ WN n (tn kd a) (fun y g => (ni o p kd a P N r i y g + if y = lf p kd a i (r + 1) ∧ g = (r + 1) % tn kd a then w else 0) + if y = i + 1 ∧ g = r then P i r - w else 0) lo' hi' ∧ Fr PX M M' := fun M1 lo1 hG1 hC1 c1 c2 f1 => by
        obtain ⟨M2, hi2, s1, s2, s3, s4, s5⟩ := c_hi (κ := lp_X1_passRest_3 F) (v1 := nI (r * 200)) (v2 := nI ((r + 1) % tn kd a * 200)) (v4 := iv hi0) (v5 := nI i) (v6 := nI (P i r)) (v7 := nI w) hG1 hC1 (show hi ≤ 200 by omega) l200
        obtain ⟨M3, lo3, hi3, t1, t2, t3, t4, t5⟩ := c_112 (κ := lp_X1_passRest_3 F) (v2 := nI ((r + 1) % tn kd a * 200)) (v4 := iv hi0) (v := P i r) (w := w) s2 s3 (wn lo1 hi2 c1 c2 s4.1 s4.2.1 (by omega)) hn (show i < n by omega) hr (by omega) hP hbl
        exact ⟨M3, lo3, hi3, s1.trans t1, t2, t3, t4, (f1.tr s5).tr t5⟩
      by_cases ql : lo ≤ lf p kd a i (r + 1)
      · obtain ⟨M3, lo3, hi3, t1, t2, t3, t4, t5⟩ := fin _ lo hGn hCn (Nat.le_refl _) ql fn'
        refine ⟨M3, lo3, hi3, ?_, t2, t3, t4, t5⟩
        simp (disch := first | assumption | omega) only [bd_X1_passRest_3, gt_55, g55_0, g55_1, gr_55_2, gt_58, gl_58, gpt, gpl, gwt, gwl, e0, y, hz, k4, k58, k8, klo, zb, l_1000, pk_mul, nI_add, ti_wi, li_wi, ri_wi, l_of, n_ltT, n_ltF, n_leT, n_leF, n_eqT, n_eqF, n_neM, n_Mne, n_M0, n_Mlt, n_0leM, nI_clamp, x_in_nI, n_1, nI_add, x_at, x_bd_s, x_bv_s, ↓x_lt, decide_true, decide_false, Bool.and_self, Bool.true_and, Bool.and_true, if_true, if_false, ite_true, ite_false, ↓reduceIte, not_true_eq_false, not_false_eq_true, Nat.reduceAdd, Nat.reduceMul, Nat.reduceEqDiff, eq_self, true_and, and_true, false_and, and_false, Option.some.injEq, Prod.mk.injEq, l_0, l_1, l_2, l_3, l_4, l_5, l_6, l_7, l_8, l_9, l_10, l_100, l_160, ↓m_1, ↓m_2, ↓m_3, ↓m_4, ↓m_5, ↓m_6, ↓m_7]
        exact t1
      · have hCl := hCn.s (k := 7) (v := nI (lf p kd a i (r + 1))) (A' := ai o n P A r i) (lo' := lf p kd a i (r + 1)) (hi' := hi) (Or.inr (Or.inl rfl)) (by rw [if_neg (by omega)]) (by rw [if_pos rfl]) (by rw [if_neg (by omega)])
        obtain ⟨M3, lo3, hi3, t1, t2, t3, t4, t5⟩ := fin (x_wi (x_wi (x_wi M (pwc b1) (r * 200 + i) (nI 0)) (nwc b1) ((r + 1) % tn kd a * 200 + lf p kd a i (r + 1)) (nI (ni o p kd a P N r i (lf p kd a i (r + 1)) ((r + 1) % tn kd a) + w))) 55 7 (nI (lf p kd a i (r + 1)))) (lf p kd a i (r + 1)) hGn hCl (by omega) (Nat.le_refl _) (fn'.wi (by omega))
        refine ⟨M3, lo3, hi3, ?_, t2, t3, t4, t5⟩
        simp (disch := first | assumption | omega) only [bd_X1_passRest_3, gt_55, g55_0, g55_1, gr_55_2, gt_58, gl_58, gpt, gpl, gwt, gwl, e0, y, hz, k4, k58, k8, klo, zb, l_1000, pk_mul, nI_add, ti_wi, li_wi, ri_wi, l_of, n_ltT, n_ltF, n_leT, n_leF, n_eqT, n_eqF, n_neM, n_Mne, n_M0, n_Mlt, n_0leM, nI_clamp, x_in_nI, n_1, nI_add, x_at, x_bd_s, x_bv_s, ↓x_lt, decide_true, decide_false, Bool.and_self, Bool.true_and, Bool.and_true, if_true, if_false, ite_true, ite_false, ↓reduceIte, not_true_eq_false, not_false_eq_true, Nat.reduceAdd, Nat.reduceMul, Nat.reduceEqDiff, eq_self, true_and, and_true, false_and, and_false, Option.some.injEq, Prod.mk.injEq, l_0, l_1, l_2, l_3, l_4, l_5, l_6, l_7, l_8, l_9, l_10, l_100, l_160, ↓m_1, ↓m_2, ↓m_3, ↓m_4, ↓m_5, ↓m_6, ↓m_7]
        exact t1
theorem c_prl {P N : Nat → Nat → Nat} {A hi0 r : Nat} (hn : n ≤ 200) (ho : o ≤ 1000) (ha : a ≤ 9) (hi0n : hi0 ≤ n) (hr : r < tn kd a) (hP : ∀ x, x < n → P x r ≤ 1000000) (d : Nat) : ∀ (F i lo hi : Nat) (M : XM), d < F → Geo L b1 b2 M → CH b1 n o (tn kd a) p kd a (pz P r i) (ni o p kd a P N r i) (ai o n P A r i) lo hi M → WN n (tn kd a) (ni o p kd a P N r i) lo hi → i + d = hi0 →
    ∃ M' lo' hi', lp_X1_passRest_3 F 55 (nI (r * 200)) (nI ((r + 1) % tn kd a * 200)) (iv hi0) (nI i) M = some M' ∧ Geo L b1 b2 M' ∧ CH b1 n o (tn kd a) p kd a (pz P r hi0) (ni o p kd a P N r hi0) (ai o n P A r hi0) lo' hi' M' ∧ WN n (tn kd a) (ni o p kd a P N r hi0) lo' hi' ∧ Fr PX M M' := by
  induction d with
  | zero =>
    intro F i lo hi M hF hG hC hW hi
    obtain ⟨F, rfl⟩ : ∃ i, F = i + 1 := ⟨F - 1, by omega⟩
    have e : i = hi0 := by omega
    subst e
    refine ⟨M, lo, _, ?_, hG, hC, hW, Fr.rf⟩
    have e0 := iv_ltT (Nat.le_refl i) (show i < 2147483648 by omega)
    rw [s_lp_X1_passRest_3]
    simp (disch := first | assumption | omega) only [bd_X1_passRest_3, e0, l_of, n_ltT, n_ltF, n_leT, n_leF, n_eqT, n_eqF, n_neM, n_Mne, n_M0, n_Mlt, n_0leM, nI_clamp, x_in_nI, n_1, nI_add, x_at, x_bd_s, x_bv_s, ↓x_lt, decide_true, decide_false, Bool.and_self, Bool.true_and, Bool.and_true, if_true, if_false, ite_true, ite_false, ↓reduceIte, not_true_eq_false, not_false_eq_true, Nat.reduceAdd, Nat.reduceMul, Nat.reduceEqDiff, eq_self, true_and, and_true, false_and, and_false, Option.some.injEq, Prod.mk.injEq, l_0, l_1, l_2, l_3, l_4, l_5, l_6, l_7, l_8, l_9, l_10, l_100, l_160, ↓m_1, ↓m_2, ↓m_3, ↓m_4, ↓m_5, ↓m_6, ↓m_7]
  | succ d ih =>
    intro F i lo hi M hF hG hC hW hi
    obtain ⟨F, rfl⟩ : ∃ i, F = i + 1 := ⟨F - 1, by omega⟩
    obtain ⟨M1, lo1, hi1, g1, g2, g3, g4, g5⟩ := c_one (F := F) hG hC hW hn ho ha (show i < hi0 by omega) hi0n hr (hP i (by omega))
    obtain ⟨M2, lo2, hi2, u1, u2, u3, u4, u5⟩ := ih F (i + 1) lo1 hi1 M1 (by omega) g2 g3 g4 (by omega)
    exact ⟨M2, lo2, hi2, g1.trans u1, u2, u3, u4, g5.tr u5⟩
/-- a SECOND of the parts with one residue -/
theorem c_pr {P N : Nat → Nat → Nat} {A lo0 hi0 r lo hi : Nat} {M : XM} (hn : n ≤ 200) (ho : o ≤ 1000) (ha : a ≤ 9) (hWP : WN n (tn kd a) P lo0 hi0) (hr : r < tn kd a) (hP : ∀ x h, x < n → h < tn kd a → P x h ≤ 1000000) (hG : Geo L b1 b2 M) (hC : CH b1 n o (tn kd a) p kd a (pz P r 0) N A lo hi M) (hW : WN n (tn kd a) N lo hi) :
    ∃ M' lo' hi', f_X1_passRest 55 (nI (r * 200)) (nI ((r + 1) % tn kd a * 200)) (nI lo0) (iv hi0) M = some M' ∧ Geo L b1 b2 M' ∧ CH b1 n o (tn kd a) p kd a (pz P (r + 1) 0) (ni o p kd a P N r n) (ai o n P A r n) lo' hi' M' ∧ WN n (tn kd a) (ni o p kd a P N r n) lo' hi' ∧ Fr PX M M' := by
  obtain ⟨v1, v2, v3⟩ := hWP
  have hz : ∀ x, x < n → (x < lo0 ∨ hi0 ≤ x) → P x r = 0 := fun x hx h => by
    rcases Nat.eq_zero_or_pos (P x r) with z | z
    · exact z
    · have := v3 x r hx hr (by omega); omega
  have eP : ∀ i, (∀ x, i ≤ x → x < n → P x r = 0) → ∀ x h, x < n → h < tn kd a → pz P (r + 1) 0 x h = pz P r i x h := fun i hzi x h hx hh => by
    unfold pz
    by_cases q : h < r + 1 ∨ (h = r + 1 ∧ x < 0)
    · rw [if_pos q]
      by_cases z : h < r ∨ (h = r ∧ x < i)
      · rw [if_pos z]
      · rw [if_neg z, show h = r by omega, hzi x (by omega) hx]
    · rw [if_neg q, if_neg (by omega)]
  have eN : ∀ i, i ≤ n → (∀ x, i ≤ x → x < n → P x r = 0) → ni o p kd a P N r n = ni o p kd a P N r i := fun i hin hzi => by
    funext y g
    unfold ni
    rw [sm_ext hin (fun x h1 h2 => ct_0 (hzi x h1 h2))]
  have eA : ∀ i, i ≤ n → (∀ x, i ≤ x → x < n → P x r = 0) → ai o n P A r n = ai o n P A r i := fun i hin hzi => by
    unfold ai
    rw [sm_ext hin (fun x h1 h2 => cn_0 (hzi x h1 h2))]
  have sN : ∀ i, (∀ x, x < i → P x r = 0) → ni o p kd a P N r i = N := fun i hzi => by
    funext y g
    unfold ni
    rw [sm_z i (fun x h1 => ct_0 (hzi x h1))]
    rfl
  have sA : ∀ i, (∀ x, x < i → P x r = 0) → ai o n P A r i = A := fun i hzi => by
    unfold ai
    rw [sm_z i (fun x h1 => cn_0 (hzi x h1))]
    rfl
  by_cases hlo : hi0 ≤ lo0
  · have h0 : ∀ x, x < n → P x r = 0 := fun x hx => hz x hx (by omega)
    rw [eN 0 (by omega) (fun x _ hx => h0 x hx), eA 0 (by omega) (fun x _ hx => h0 x hx), sN 0 (fun x hx => absurd hx (by omega)), sA 0 (fun x hx => absurd hx (by omega))]
    refine ⟨M, lo, hi, ?_, hG, hC.c (eP 0 (fun x _ hx => h0 x hx)) (fun _ _ _ _ => rfl) rfl, hW, Fr.rf⟩
    have e0 := iv_ltT hlo (show lo0 < 2147483648 by omega)
    have hf : x_fuel = 999999 + 1 := rfl
    rw [f_X1_passRest, hf, s_lp_X1_passRest_3]
    simp (disch := first | assumption | omega) only [bd_X1_passRest_3, e0, l_of, n_ltT, n_ltF, n_leT, n_leF, n_eqT, n_eqF, n_neM, n_Mne, n_M0, n_Mlt, n_0leM, nI_clamp, x_in_nI, n_1, nI_add, x_at, x_bd_s, x_bv_s, ↓x_lt, decide_true, decide_false, Bool.and_self, Bool.true_and, Bool.and_true, if_true, if_false, ite_true, ite_false, ↓reduceIte, not_true_eq_false, not_false_eq_true, Nat.reduceAdd, Nat.reduceMul, Nat.reduceEqDiff, eq_self, true_and, and_true, false_and, and_false, Option.some.injEq, Prod.mk.injEq, l_0, l_1, l_2, l_3, l_4, l_5, l_6, l_7, l_8, l_9, l_10, l_100, l_160, ↓m_1, ↓m_2, ↓m_3, ↓m_4, ↓m_5, ↓m_6, ↓m_7]
  · have hl : ∀ x, x < lo0 → P x r = 0 := fun x hx => hz x (by omega) (by omega)
    have hC' : CH b1 n o (tn kd a) p kd a (pz P r lo0) (ni o p kd a P N r lo0) (ai o n P A r lo0) lo hi M := by
      rw [sN lo0 hl, sA lo0 hl]
      refine hC.c (fun x h hx hh => ?_) (fun _ _ _ _ => rfl) rfl
      unfold pz
      by_cases z : h < r ∨ (h = r ∧ x < lo0)
      · rw [if_pos z]
        by_cases q : h < r
        · rw [if_pos (Or.inl q)]
        · rw [if_neg (by omega), show h = r by omega, hl x (by omega)]
      · rw [if_neg z, if_neg (by omega)]
    have hW' : WN n (tn kd a) (ni o p kd a P N r lo0) lo hi := by rw [sN lo0 hl]; exact hW
    obtain ⟨M1, lo1, hi1, g1, g2, g3, g4, g5⟩ := c_prl (L := L) (b1 := b1) (b2 := b2) hn ho ha v2 hr (fun x hx => hP x r hx hr) (hi0 - lo0) x_fuel lo0 lo hi M (fu (by omega)) hG hC' hW' (by omega)
    have hh : ∀ x, hi0 ≤ x → x < n → P x r = 0 := fun x h1 h2 => hz x h2 (Or.inr h1)
    rw [eN hi0 v2 hh, eA hi0 v2 hh]
    exact ⟨M1, lo1, hi1, g1, g2, g3.c (eP hi0 hh) (fun _ _ _ _ => rfl) rfl, g4, g5⟩
end
