section
variable {L : Nat} {b1 b2 : Bool} {M : XM} {T : Nat → Int32} {n κ : Nat} {ρ : XR} {Q : Nat}
theorem m_item {p : Nat} (hG : Geo L b1 b2 M) (hMW : MW M) (hQ : QS T n κ p M) (hR : MR ρ M) (hV : WF Q ρ) (hQ8 : Q ≤ 810000) (hn : n ≤ 160) (hκ : κ < 8) (hp : p ≤ n) :
    ∃ M', f_X9_item 83 M = some (rV (it T n p ρ), M') ∧ ME L b1 b2 T n κ M (it T n p ρ) M' := by
  obtain ⟨r0, r1, r2, r3⟩ := id hQ
  obtain ⟨i0, i5⟩ := m_iw hG hMW hQ hn hκ hp
  have e0 := hR.1.1
  have e6 := hR.1.2.2.2.2.2.1
  have w0 := hV.1.1
  have w7 := hV.1.2.2.2.2.2.2.2
  have hz := wz_b (T := T) (n := n) (p := p) 7 0 0 rfl
  have hm := mw_it (T := T) hp
  have hwz : ∀ k, k < 7 → (A T n p k = nl k ↔ (wz T n p 7 0 0).1 = k) := fun k hk => ⟨fun h => wz_k hk h, fun h => by rw [← h]; exact hz.2 (by omega)⟩
  have hw := m_word hG hMW hQ hn hκ hp 7 x_fuel 0 0 0 (fu (by omega)) rfl (by omega) (fun _ => rfl)
  have hw : f_X9_word 83 M = some (mV (mw T n p 7 0 0), mM p (mw T n p 7 0 0) M) := by
    simp (disch := first | assumption | omega) only [f_X9_word, gt_83, r1, l_of, n_ltT, n_ltF, n_leT, n_leF, n_eqT, n_eqF, n_neM, n_Mne, n_M0, n_Mlt, n_0leM, nI_clamp, x_in_nI, n_1, nI_add, x_at, x_bd_s, x_bv_s, ↓x_lt, decide_true, decide_false, Bool.and_self, Bool.true_and, Bool.and_true, if_true, if_false, ite_true, ite_false, ↓reduceIte, not_true_eq_false, not_false_eq_true, Nat.reduceAdd, Nat.reduceMul, Nat.reduceEqDiff, eq_self, true_and, and_true, false_and, and_false, Option.some.injEq, Prod.mk.injEq, l_0, l_1, l_2, l_3, l_4, l_5, l_6, l_7, l_8, l_9, l_10, l_100, l_160, ↓m_1, ↓m_2, ↓m_3, ↓m_4, ↓m_5, ↓m_6, ↓m_7]
    exact hw
  by_cases hf : ((wz T n p 7 0 0).1 = 5 ∧ 6 ≤ r_s ρ 0) ∨ ((wz T n p 7 0 0).1 = 4 ∧ 8 ≤ r_s ρ 5)
  · have e : it T n p ρ = (some p, p, ρ) := by
      unfold it
      rw [if_neg (by omega), if_pos hf]
    rw [e]
    have hG1 : Geo L b1 b2 (x_wi M 83 28 (nI p)) := hG
    refine ⟨x_wi M 83 28 (nI p), ?_, ME.no hG1 (Fr.rf.wi (by omega)) (by rw [ii_wi, if_pos ⟨rfl, rfl⟩])⟩
    rcases hf with ⟨h1, h2⟩ | ⟨h1, h2⟩
    · rw [if_pos ((hwz 5 (by omega)).mpr h1)] at i0
      have h6 : r_s ρ 0 = 6 := by omega
      rw [h6] at e0
      simp (disch := first | assumption | omega) only [f_X9_item, f_X9_item_c2, f_X9_item_34, f_X9_wrong, gt_83, i0, e0, r1, true_or, or_true, rV, l_of, n_ltT, n_ltF, n_leT, n_leF, n_eqT, n_eqF, n_neM, n_Mne, n_M0, n_Mlt, n_0leM, nI_clamp, x_in_nI, n_1, nI_add, x_at, x_bd_s, x_bv_s, ↓x_lt, decide_true, decide_false, Bool.and_self, Bool.true_and, Bool.and_true, if_true, if_false, ite_true, ite_false, ↓reduceIte, not_true_eq_false, not_false_eq_true, Nat.reduceAdd, Nat.reduceMul, Nat.reduceEqDiff, eq_self, true_and, and_true, false_and, and_false, Option.some.injEq, Prod.mk.injEq, l_0, l_1, l_2, l_3, l_4, l_5, l_6, l_7, l_8, l_9, l_10, l_100, l_160, ↓m_1, ↓m_2, ↓m_3, ↓m_4, ↓m_5, ↓m_6, ↓m_7]
    · rw [if_pos ((hwz 4 (by omega)).mpr h1)] at i5
      rw [if_neg (fun z => by have := (hwz 5 (by omega)).mp z; omega)] at i0
      have h6 : r_s ρ 5 = 8 := by omega
      rw [h6] at e6
      simp (disch := first | assumption | omega) only [f_X9_item, f_X9_item_c2, f_X9_item_17, f_X9_item_c19, f_X9_item_34, f_X9_wrong, gt_83, i0, i5, e6, l_8, r1, true_or, or_true, rV, l_of, n_ltT, n_ltF, n_leT, n_leF, n_eqT, n_eqF, n_neM, n_Mne, n_M0, n_Mlt, n_0leM, nI_clamp, x_in_nI, n_1, nI_add, x_at, x_bd_s, x_bv_s, ↓x_lt, decide_true, decide_false, Bool.and_self, Bool.true_and, Bool.and_true, if_true, if_false, ite_true, ite_false, ↓reduceIte, not_true_eq_false, not_false_eq_true, Nat.reduceAdd, Nat.reduceMul, Nat.reduceEqDiff, eq_self, true_and, and_true, false_and, and_false, Option.some.injEq, Prod.mk.injEq, l_0, l_1, l_2, l_3, l_4, l_5, l_6, l_7, l_8, l_9, l_10, l_100, l_160, ↓m_1, ↓m_2, ↓m_3, ↓m_4, ↓m_5, ↓m_6, ↓m_7]
  have st : f_X9_item 83 M = x_bd (f_X9_word 83 M) (f_X9_item_c44 83) := by
    by_cases q5 : A T n p 5 = nl 5
    · have k5 := (hwz 5 (by omega)).mp q5
      rw [if_pos q5] at i0
      rw [if_neg (fun z => by have := (hwz 4 (by omega)).mp z; omega)] at i5
      have n6 : r_s ρ 0 ≠ 6 := fun z => hf (Or.inl ⟨k5, by omega⟩)
      simp (disch := first | assumption | omega) only [f_X9_item, f_X9_item_c2, f_X9_item_17, f_X9_item_c19, f_X9_item_43, gt_83, i0, i5, e0, n6, l_of, n_ltT, n_ltF, n_leT, n_leF, n_eqT, n_eqF, n_neM, n_Mne, n_M0, n_Mlt, n_0leM, nI_clamp, x_in_nI, n_1, nI_add, x_at, x_bd_s, x_bv_s, ↓x_lt, decide_true, decide_false, Bool.and_self, Bool.true_and, Bool.and_true, if_true, if_false, ite_true, ite_false, ↓reduceIte, not_true_eq_false, not_false_eq_true, Nat.reduceAdd, Nat.reduceMul, Nat.reduceEqDiff, eq_self, true_and, and_true, false_and, and_false, Option.some.injEq, Prod.mk.injEq, l_0, l_1, l_2, l_3, l_4, l_5, l_6, l_7, l_8, l_9, l_10, l_100, l_160, ↓m_1, ↓m_2, ↓m_3, ↓m_4, ↓m_5, ↓m_6, ↓m_7]
    · rw [if_neg q5] at i0
      by_cases q4 : A T n p 4 = nl 4
      · have k4 := (hwz 4 (by omega)).mp q4
        rw [if_pos q4] at i5
        have n8 : r_s ρ 5 ≠ 8 := fun z => hf (Or.inr ⟨k4, by omega⟩)
        simp (disch := first | assumption | omega) only [f_X9_item, f_X9_item_c2, f_X9_item_17, f_X9_item_c19, f_X9_item_43, gt_83, i0, i5, e6, l_8, n8, l_of, n_ltT, n_ltF, n_leT, n_leF, n_eqT, n_eqF, n_neM, n_Mne, n_M0, n_Mlt, n_0leM, nI_clamp, x_in_nI, n_1, nI_add, x_at, x_bd_s, x_bv_s, ↓x_lt, decide_true, decide_false, Bool.and_self, Bool.true_and, Bool.and_true, if_true, if_false, ite_true, ite_false, ↓reduceIte, not_true_eq_false, not_false_eq_true, Nat.reduceAdd, Nat.reduceMul, Nat.reduceEqDiff, eq_self, true_and, and_true, false_and, and_false, Option.some.injEq, Prod.mk.injEq, l_0, l_1, l_2, l_3, l_4, l_5, l_6, l_7, l_8, l_9, l_10, l_100, l_160, ↓m_1, ↓m_2, ↓m_3, ↓m_4, ↓m_5, ↓m_6, ↓m_7]
      · rw [if_neg q4] at i5
        simp (disch := first | assumption | omega) only [f_X9_item, f_X9_item_c2, f_X9_item_17, f_X9_item_c19, f_X9_item_43, gt_83, i0, i5, l_of, n_ltT, n_ltF, n_leT, n_leF, n_eqT, n_eqF, n_neM, n_Mne, n_M0, n_Mlt, n_0leM, nI_clamp, x_in_nI, n_1, nI_add, x_at, x_bd_s, x_bv_s, ↓x_lt, decide_true, decide_false, Bool.and_self, Bool.true_and, Bool.and_true, if_true, if_false, ite_true, ite_false, ↓reduceIte, not_true_eq_false, not_false_eq_true, Nat.reduceAdd, Nat.reduceMul, Nat.reduceEqDiff, eq_self, true_and, and_true, false_and, and_false, Option.some.injEq, Prod.mk.injEq, l_0, l_1, l_2, l_3, l_4, l_5, l_6, l_7, l_8, l_9, l_10, l_100, l_160, ↓m_1, ↓m_2, ↓m_3, ↓m_4, ↓m_5, ↓m_6, ↓m_7]
  rw [st, hw]
  show ∃ M', f_X9_item_c44 83 (mV (mw T n p 7 0 0)) (mM p (mw T n p 7 0 0) M) = _ ∧ _
  unfold it
  obtain ⟨m1, m2⟩ := hm
  have hA := hz.2
  have hzl := hz.1
  clear hw st hwz i0 i5
  generalize wz T n p 7 0 0 = z at *
  generalize mw T n p 7 0 0 = r at *
  obtain ⟨k, mm⟩ := z
  obtain ⟨w, rm⟩ := r
  dsimp only at *
  by_cases h7 : k = 7
  · rw [if_pos h7]
    obtain ⟨a1, a2⟩ := m1 h7
    subst a1 a2
    refine ⟨x_wi M 83 28 (nI (p + rm)), ?_, ME.no hG (Fr.rf.wi (by omega)) (by rw [ii_wi, if_pos ⟨rfl, rfl⟩])⟩
    show f_X9_item_c44 83 (nM 1) (x_wi M 83 28 (nI (p + rm))) = _
    simp (disch := first | assumption | omega) only [f_X9_item_c44, rV, l_of, n_ltT, n_ltF, n_leT, n_leF, n_eqT, n_eqF, n_neM, n_Mne, n_M0, n_Mlt, n_0leM, nI_clamp, x_in_nI, n_1, nI_add, x_at, x_bd_s, x_bv_s, ↓x_lt, decide_true, decide_false, Bool.and_self, Bool.true_and, Bool.and_true, if_true, if_false, ite_true, ite_false, ↓reduceIte, not_true_eq_false, not_false_eq_true, Nat.reduceAdd, Nat.reduceMul, Nat.reduceEqDiff, eq_self, true_and, and_true, false_and, and_false, Option.some.injEq, Prod.mk.injEq, l_0, l_1, l_2, l_3, l_4, l_5, l_6, l_7, l_8, l_9, l_10, l_100, l_160, ↓m_1, ↓m_2, ↓m_3, ↓m_4, ↓m_5, ↓m_6, ↓m_7]
  rw [if_neg h7, if_neg hf]
  obtain ⟨m3, m4⟩ := m2 (by omega)
  by_cases ok : ok1 T n (p + nl k) 32
  · rw [if_pos ok]
    obtain ⟨a1, a2⟩ := m3 ok
    subst a2
    have hw7 : ¬ w = 7 := by omega
    have v1 : mV (w, rm) = nI w := if_neg hw7
    have v2 : mM p (w, rm) M = x_wi M 83 25 (nI (p + nl (kw w) + 1)) := if_neg hw7
    rw [v1, v2]
    have okn := ok.1
    have f1 : Fr PI M (x_wi M 83 25 (nI (p + nl (kw w) + 1))) := Fr.rf.wi (by omega)
    have hG1 : Geo L b1 b2 (x_wi M 83 25 (nI (p + nl (kw w) + 1))) := hG
    have hQ1 : QS T n κ (p + nl (kw w) + 1) (x_wi M 83 25 (nI (p + nl (kw w) + 1))) := hQ.fr (P := PR) (Fr.rf.wi (by omega)) (by omega) (by rw [ii_wi, if_pos ⟨rfl, rfl⟩])
    have hR1 : MR ρ (x_wi M 83 25 (nI (p + nl (kw w) + 1))) := hR.ag2 (fun a j h => by rw [ii_wi, if_neg (by omega)])
    have st : ∀ V, f_X9_item_c44 83 (nI w) V = lp_X9_item_57 x_fuel 83 (nI w) (nI 0) V := fun V => by
      simp (disch := first | assumption | omega) only [f_X9_item_c44, l_of, n_ltT, n_ltF, n_leT, n_leF, n_eqT, n_eqF, n_neM, n_Mne, n_M0, n_Mlt, n_0leM, nI_clamp, x_in_nI, n_1, nI_add, x_at, x_bd_s, x_bv_s, ↓x_lt, decide_true, decide_false, Bool.and_self, Bool.true_and, Bool.and_true, if_true, if_false, ite_true, ite_false, ↓reduceIte, not_true_eq_false, not_false_eq_true, Nat.reduceAdd, Nat.reduceMul, Nat.reduceEqDiff, eq_self, true_and, and_true, false_and, and_false, Option.some.injEq, Prod.mk.injEq, l_0, l_1, l_2, l_3, l_4, l_5, l_6, l_7, l_8, l_9, l_10, l_100, l_160, ↓m_1, ↓m_2, ↓m_3, ↓m_4, ↓m_5, ↓m_6, ↓m_7]
    rw [st]
    by_cases h0 : w = 0
    · subst h0
      have k5 : kw 0 = 5 := rfl
      obtain ⟨M2, g1, g2⟩ := m_itb0 (F := 999997) hG1 hQ1 hR1 hV hn hκ (by omega) (by rw [k5] at hf; omega)
      exact ⟨M2, g1, g2.mono f1⟩
    · obtain ⟨M2, g1, g2⟩ := m_itb1 (F := 999998) hG1 hQ1 hR1 hV hQ8 hn hκ (by omega) a1 h0 (fun z => by
        subst z
        have k4 : kw 5 = 4 := rfl
        rw [k4] at hf; omega)
      exact ⟨M2, g1, g2.mono f1⟩
  · rw [if_neg ok]
    obtain ⟨a1, a2⟩ := m4 ok
    subst a1 a2
    refine ⟨x_wi M 83 28 (nI (p + nl k)), ?_, ME.no hG (Fr.rf.wi (by omega)) (by rw [ii_wi, if_pos ⟨rfl, rfl⟩])⟩
    show f_X9_item_c44 83 (nM 1) (x_wi M 83 28 (nI (p + nl k))) = _
    simp (disch := first | assumption | omega) only [f_X9_item_c44, rV, l_of, n_ltT, n_ltF, n_leT, n_leF, n_eqT, n_eqF, n_neM, n_Mne, n_M0, n_Mlt, n_0leM, nI_clamp, x_in_nI, n_1, nI_add, x_at, x_bd_s, x_bv_s, ↓x_lt, decide_true, decide_false, Bool.and_self, Bool.true_and, Bool.and_true, if_true, if_false, ite_true, ite_false, ↓reduceIte, not_true_eq_false, not_false_eq_true, Nat.reduceAdd, Nat.reduceMul, Nat.reduceEqDiff, eq_self, true_and, and_true, false_and, and_false, Option.some.injEq, Prod.mk.injEq, l_0, l_1, l_2, l_3, l_4, l_5, l_6, l_7, l_8, l_9, l_10, l_100, l_160, ↓m_1, ↓m_2, ↓m_3, ↓m_4, ↓m_5, ↓m_6, ↓m_7]
end
