/-! the reference's item -/
abbrev PI : Nat → Nat → Prop := fun a k => a = 83 ∧ (k < 8 ∨ 25 ≤ k ∧ k < 29 ∧ k ≠ 26) ∨ 85 ≤ a ∧ a < 91 ∨ a = 98
abbrev PJ (i : Nat) : Nat → Nat → Prop := fun a k => a = 83 ∧ 25 ≤ k ∧ k < 29 ∧ k ≠ 26 ∨ a = 98 ∧ k = i
def rV (r : Option Nat × Nat × XR) : Int32 := match r.1 with
  | none => nI 1
  | some _ => nI 0
section
variable {L : Nat} {b1 b2 : Bool} {M : XM} {T : Nat → Int32} {n κ : Nat} {ρ : XR} {Q : Nat}
def ME (L : Nat) (b1 b2 : Bool) (T : Nat → Int32) (n κ : Nat) (M : XM) (r : Option Nat × Nat × XR) (M' : XM) : Prop :=
  Geo L b1 b2 M' ∧ Fr PI M M' ∧ (r.1 = none → QS T n κ r.2.1 M' ∧ MR r.2.2 M') ∧ ∀ f, r.1 = some f → x_i M' 83 28 = nI f
theorem ME.mono {M1 M' : XM} {r : Option Nat × Nat × XR} (h : ME L b1 b2 T n κ M1 r M') (f : Fr PI M M1) : ME L b1 b2 T n κ M r M' := ⟨h.1, f.tr h.2.1, h.2.2⟩
theorem ME.no {M' : XM} {f p : Nat} {ρ : XR} (hG : Geo L b1 b2 M') (hF : Fr PI M M') (e : x_i M' 83 28 = nI f) : ME L b1 b2 T n κ M (some f, p, ρ) M' :=
  ⟨hG, hF, fun h => no_s h, fun g h => by rw [e, Option.some.inj h]⟩
theorem ME.ok {M' : XM} {p : Nat} {ρ : XR} (hG : Geo L b1 b2 M') (hF : Fr PI M M') (hQ : QS T n κ p M') (hR : MR ρ M') : ME L b1 b2 T n κ M (none, p, ρ) M' :=
  ⟨hG, hF, fun _ => ⟨hQ, hR⟩, fun g h => no_s h.symm⟩
theorem m_124 {K : Nat → Int32 → Int32 → XM → Option (Int32 × XM)} {p w i : Nat} (hG : Geo L b1 b2 M) (hQ : QS T n κ p M) (hR : MR ρ M) (hV : WF Q ρ) (hn : n ≤ 160) (hκ : κ < 8) (hp : p ≤ n) (hw : w < 7) (hi : i < 2) :
    (¬ (ne T n p = p ∨ sob ρ w i (nv T n p) = false) → ∃ M', f_X9_item_124 K 83 (nI w) (nI i) M = K 83 (nI w) (nI (i + 1)) M' ∧ Geo L b1 b2 M' ∧ QS T n κ (ne T n p) M' ∧ MR ρ M' ∧ x_i M' 98 i = nI (nv T n p) ∧ Fr (PJ i) M M') ∧
    ((ne T n p = p ∨ sob ρ w i (nv T n p) = false) → ∃ M', f_X9_item_124 K 83 (nI w) (nI i) M = some (nI 0, M') ∧ Geo L b1 b2 M' ∧ Fr (PJ i) M M' ∧ x_i M' 83 28 = nI p) := by
  have hb := ne_n (T := T) hp
  obtain ⟨M1, g1, g2, g3, g4, g5, g6⟩ := m_number hG hQ hn hκ hp
  have r1 := hQ.2.1
  have hR1 : MR ρ M1 := hR.ag2 (fun a j h => g4.1 _ _ (by omega))
  have f1 : Fr (PJ i) M M1 := g4.mono (fun a k q => by omega)
  by_cases q : ne T n p = p
  · rw [if_pos q] at g1
    refine ⟨fun h => absurd (Or.inl q) h, fun _ => ⟨M1, ?_, g2, f1, g5 q⟩⟩
    simp (disch := first | assumption | omega) only [f_X9_item_124, f_X9_item_c130, gt_83, r1, g1, l_of, n_ltT, n_ltF, n_leT, n_leF, n_eqT, n_eqF, n_neM, n_Mne, n_M0, n_Mlt, n_0leM, nI_clamp, x_in_nI, n_1, nI_add, x_at, x_bd_s, x_bv_s, ↓x_lt, decide_true, decide_false, Bool.and_self, Bool.true_and, Bool.and_true, if_true, if_false, ite_true, ite_false, ↓reduceIte, not_true_eq_false, not_false_eq_true, Nat.reduceAdd, Nat.reduceMul, Nat.reduceEqDiff, eq_self, true_and, and_true, false_and, and_false, Option.some.injEq, Prod.mk.injEq, l_0, l_1, l_2, l_3, l_4, l_5, l_6, l_7, l_8, l_9, l_10, l_100, l_160, ↓m_1, ↓m_2, ↓m_3, ↓m_4, ↓m_5, ↓m_6, ↓m_7]
  rw [if_neg q] at g1
  have hs := m_isSo (i := i) g2 hR1 hV hw hi hb.2.2 (g6 q)
  by_cases s : sob ρ w i (nv T n p) = true
  · rw [if_pos s] at hs
    refine ⟨fun _ => ?_, fun h => by rcases h with h | h; exact absurd h q; rw [s] at h; cases h⟩
    have f2 : Fr (PJ i) M (x_wi M1 98 i (nI (nv T n p))) := f1.wi (by omega)
    refine ⟨x_wi M1 98 i (nI (nv T n p)), ?_, g2, g3.fr (P := PJ i) (Fr.rf.wi (by omega)) (by omega) (by rw [ii_wi, if_neg (by omega)]; exact g3.2.1), hR1.ag2 (fun a j h => by rw [ii_wi, if_neg (by omega)]), by rw [ii_wi, if_pos ⟨rfl, rfl⟩], f2⟩
    have z := g6 q
    simp (disch := first | assumption | omega) only [f_X9_item_124, f_X9_item_c130, f_X9_item_c141, gt_83, gr_83_23, gt_98, gl_98, r1, g1, hs, z, l_of, n_ltT, n_ltF, n_leT, n_leF, n_eqT, n_eqF, n_neM, n_Mne, n_M0, n_Mlt, n_0leM, nI_clamp, x_in_nI, n_1, nI_add, x_at, x_bd_s, x_bv_s, ↓x_lt, decide_true, decide_false, Bool.and_self, Bool.true_and, Bool.and_true, if_true, if_false, ite_true, ite_false, ↓reduceIte, not_true_eq_false, not_false_eq_true, Nat.reduceAdd, Nat.reduceMul, Nat.reduceEqDiff, eq_self, true_and, and_true, false_and, and_false, Option.some.injEq, Prod.mk.injEq, l_0, l_1, l_2, l_3, l_4, l_5, l_6, l_7, l_8, l_9, l_10, l_100, l_160, ↓m_1, ↓m_2, ↓m_3, ↓m_4, ↓m_5, ↓m_6, ↓m_7]
  · rw [if_neg s] at hs
    refine ⟨fun h => absurd (Or.inr (Bool.eq_false_iff.mpr s)) h, fun _ => ⟨x_wi M1 83 28 (nI p), ?_, g2, f1.wi (by omega), by rw [ii_wi, if_pos ⟨rfl, rfl⟩]⟩⟩
    simp (disch := first | assumption | omega) only [f_X9_item_124, f_X9_item_c130, f_X9_item_c141, f_X9_wrong, gt_83, r1, g1, hs, true_or, or_true, l_of, n_ltT, n_ltF, n_leT, n_leF, n_eqT, n_eqF, n_neM, n_Mne, n_M0, n_Mlt, n_0leM, nI_clamp, x_in_nI, n_1, nI_add, x_at, x_bd_s, x_bv_s, ↓x_lt, decide_true, decide_false, Bool.and_self, Bool.true_and, Bool.and_true, if_true, if_false, ite_true, ite_false, ↓reduceIte, not_true_eq_false, not_false_eq_true, Nat.reduceAdd, Nat.reduceMul, Nat.reduceEqDiff, eq_self, true_and, and_true, false_and, and_false, Option.some.injEq, Prod.mk.injEq, l_0, l_1, l_2, l_3, l_4, l_5, l_6, l_7, l_8, l_9, l_10, l_100, l_160, ↓m_1, ↓m_2, ↓m_3, ↓m_4, ↓m_5, ↓m_6, ↓m_7]
theorem PJ_I {i a k : Nat} (h : PJ i a k) : PI a k := by
  show a = 83 ∧ (k < 8 ∨ 25 ≤ k ∧ k < 29 ∧ k ≠ 26) ∨ 85 ≤ a ∧ a < 91 ∨ a = 98
  have h : a = 83 ∧ 25 ≤ k ∧ k < 29 ∧ k ≠ 26 ∨ a = 98 ∧ k = i := h
  omega
theorem PM_I {a k : Nat} (h : PM a k) : PI a k := by
  show a = 83 ∧ (k < 8 ∨ 25 ≤ k ∧ k < 29 ∧ k ≠ 26) ∨ 85 ≤ a ∧ a < 91 ∨ a = 98
  have h : 85 ≤ a ∧ a < 91 ∨ a = 83 ∧ k < 8 := h
  omega
theorem QS.pm {p : Nat} {M' : XM} (h : QS T n κ p M) (f : Fr PM M M') : QS T n κ p M' := h.fr f (by omega) ((f.1 _ _ (by omega)).trans h.2.1)
theorem nb_iff {lo hi p : Nat} : nbad T n lo hi p ↔ (ne T n p = p ∨ nv T n p < lo ∨ hi ≤ nv T n p) := Iff.rfl
/-- one number, and what is done with it -/
theorem m_itb1 {p w F : Nat} (hG : Geo L b1 b2 M) (hQ : QS T n κ p M) (hR : MR ρ M) (hV : WF Q ρ) (hQ8 : Q ≤ 810000) (hn : n ≤ 160) (hκ : κ < 8) (hp : p ≤ n) (hw : w < 7) (h0 : w ≠ 0) (h5 : w = 5 → r_s ρ 5 < 8) :
    ∃ M', lp_X9_item_57 (F + 2) 83 (nI w) (nI 0) M = some (rV (itb T n (kw w) p ρ), M') ∧ ME L b1 b2 T n κ M (itb T n (kw w) p ρ) M' := by
  have hb := ne_n (T := T) hp
  obtain ⟨g1, g2⟩ := m_124 (K := lp_X9_item_57 (F + 1)) (i := 0) hG hQ hR hV hn hκ hp hw (by omega)
  have st : lp_X9_item_57 (F + 2) 83 (nI w) (nI 0) M = f_X9_item_124 (lp_X9_item_57 (F + 1)) 83 (nI w) (nI 0) M := by
    rw [s_lp_X9_item_57]
    simp (disch := first | assumption | omega) only [bd_X9_item_57, f_X9_item_67, h0, l_of, n_ltT, n_ltF, n_leT, n_leF, n_eqT, n_eqF, n_neM, n_Mne, n_M0, n_Mlt, n_0leM, nI_clamp, x_in_nI, n_1, nI_add, x_at, x_bd_s, x_bv_s, ↓x_lt, decide_true, decide_false, Bool.and_self, Bool.true_and, Bool.and_true, if_true, if_false, ite_true, ite_false, ↓reduceIte, not_true_eq_false, not_false_eq_true, Nat.reduceAdd, Nat.reduceMul, Nat.reduceEqDiff, eq_self, true_and, and_true, false_and, and_false, Option.some.injEq, Prod.mk.injEq, l_0, l_1, l_2, l_3, l_4, l_5, l_6, l_7, l_8, l_9, l_10, l_100, l_160, ↓m_1, ↓m_2, ↓m_3, ↓m_4, ↓m_5, ↓m_6, ↓m_7]
  rw [st]
  have nt : ∀ (M' : XM), Geo L b1 b2 M' → lp_X9_item_57 (F + 1) 83 (nI w) (nI (0 + 1)) M' = f_X9_item_67 (lp_X9_item_57 F) 83 (nI w) (nI 1) (nI 1) (nI 1) M' := fun M' _ => by
    rw [s_lp_X9_item_57]
    simp (disch := first | assumption | omega) only [bd_X9_item_57, h0, l_of, n_ltT, n_ltF, n_leT, n_leF, n_eqT, n_eqF, n_neM, n_Mne, n_M0, n_Mlt, n_0leM, nI_clamp, x_in_nI, n_1, nI_add, x_at, x_bd_s, x_bv_s, ↓x_lt, decide_true, decide_false, Bool.and_self, Bool.true_and, Bool.and_true, if_true, if_false, ite_true, ite_false, ↓reduceIte, not_true_eq_false, not_false_eq_true, Nat.reduceAdd, Nat.reduceMul, Nat.reduceEqDiff, eq_self, true_and, and_true, false_and, and_false, Option.some.injEq, Prod.mk.injEq, l_0, l_1, l_2, l_3, l_4, l_5, l_6, l_7, l_8, l_9, l_10, l_100, l_160, ↓m_1, ↓m_2, ↓m_3, ↓m_4, ↓m_5, ↓m_6, ↓m_7]
  unfold itb
  by_cases e5 : w = 5
  · subst e5
    have k4 : kw 5 = 4 := rfl
    rw [k4, if_neg (by omega), if_pos rfl]
    have hs : sob ρ 5 0 (nv T n p) = true := rfl
    by_cases q : nbad T n 0 10000 p
    · rw [if_pos q]
      obtain ⟨M2, t1, t2, t3, t4⟩ := g2 (Or.inl (by
        rcases nb_iff.mp q with z | z | z
        · exact z
        · omega
        · omega))
      exact ⟨M2, t1, ME.no t2 (t3.mono (fun a k z => PJ_I z)) t4⟩
    · rw [if_neg q]
      obtain ⟨M2, t1, t2, t3, t4, t5, t6⟩ := g1 (fun z => by
        rcases z with z | z
        · exact q (Or.inl z)
        · rw [hs] at z; cases z)
      have e6 := t4.1.2.2.2.2.2.1
      have h8 := h5 rfl
      have f3 : Fr PM M2 (x_wi (x_wi M2 90 (r_s ρ 5) (nI (nv T n p))) 83 6 (nI (r_s ρ 5 + 1))) := (Fr.rf.wi (by omega)).wi (by omega)
      refine ⟨x_wi (x_wi M2 90 (r_s ρ 5) (nI (nv T n p))) 83 6 (nI (r_s ρ 5 + 1)), ?_, ME.ok t2 ((t6.mono (fun a k z => PJ_I z)).tr (f3.mono (fun a k z => PM_I z))) (t3.pm f3) ((t4.t (r_s ρ 5) _).s5 _)⟩
      rw [t1, nt M2 t2]
      simp (disch := first | assumption | omega) only [f_X9_item_67, gt_83, gr_83_23, gt_98, gl_98, gr_83_15, gt_90, gl_90, e6, t5, rV, l_of, n_ltT, n_ltF, n_leT, n_leF, n_eqT, n_eqF, n_neM, n_Mne, n_M0, n_Mlt, n_0leM, nI_clamp, x_in_nI, n_1, nI_add, x_at, x_bd_s, x_bv_s, ↓x_lt, decide_true, decide_false, Bool.and_self, Bool.true_and, Bool.and_true, if_true, if_false, ite_true, ite_false, ↓reduceIte, not_true_eq_false, not_false_eq_true, Nat.reduceAdd, Nat.reduceMul, Nat.reduceEqDiff, eq_self, true_and, and_true, false_and, and_false, Option.some.injEq, Prod.mk.injEq, l_0, l_1, l_2, l_3, l_4, l_5, l_6, l_7, l_8, l_9, l_10, l_100, l_160, ↓m_1, ↓m_2, ↓m_3, ↓m_4, ↓m_5, ↓m_6, ↓m_7, ii_wi, ji_wi, ri_wi, ti_wi, li_wi, ii_wj, ji_wj, ri_wj, ti_wj, li_wj]
  by_cases e6 : w = 6
  · subst e6
    have k6 : kw 6 = 6 := rfl
    rw [k6, if_neg (by omega), if_neg (by omega), if_pos rfl]
    have hs : sob ρ 6 0 (nv T n p) = decide (nv T n p < r_s ρ 0 ∧ r_q ρ 2 (nv T n p) < r_s ρ 1) := rfl
    by_cases q : nbad T n 0 (r_s ρ 0) p
    · rw [if_pos q]
      obtain ⟨M2, t1, t2, t3, t4⟩ := g2 (by
        rcases nb_iff.mp q with z | z | z
        · exact Or.inl z
        · omega
        · exact Or.inr (by rw [hs]; exact decide_eq_false (fun y => by omega)))
      exact ⟨M2, t1, ME.no t2 (t3.mono (fun a k z => PJ_I z)) t4⟩
    rw [if_neg q]
    by_cases q2 : r_s ρ 1 ≤ r_q ρ 2 (nv T n p)
    · rw [if_pos q2]
      obtain ⟨M2, t1, t2, t3, t4⟩ := g2 (Or.inr (by rw [hs]; exact decide_eq_false (fun y => by omega)))
      exact ⟨M2, t1, ME.no t2 (t3.mono (fun a k z => PJ_I z)) t4⟩
    · rw [if_neg q2]
      have q3 : nv T n p < r_s ρ 0 := Nat.lt_of_not_le (fun z => q (Or.inr (Or.inr z)))
      obtain ⟨M2, t1, t2, t3, t4, t5, t6⟩ := g1 (fun z => by
        rcases z with z | z
        · exact q (Or.inl z)
        · rw [hs] at z; exact of_decide_eq_false z ⟨q3, by omega⟩)
      obtain ⟨M3, u1, u2, u3, u4⟩ := m_pass1 t2 t4 hV hQ8 (show nv T n p < 6 by have := hV.1.1; omega)
      refine ⟨M3, ?_, ME.ok u2 ((t6.mono (fun a k z => PJ_I z)).tr (u4.mono (fun a k z => PM_I z))) (t3.pm u4) u3⟩
      rw [t1, nt M2 t2]
      simp (disch := first | assumption | omega) only [f_X9_item_67, gt_83, gr_83_23, gt_98, gl_98, t5, u1, rV, l_of, n_ltT, n_ltF, n_leT, n_leF, n_eqT, n_eqF, n_neM, n_Mne, n_M0, n_Mlt, n_0leM, nI_clamp, x_in_nI, n_1, nI_add, x_at, x_bd_s, x_bv_s, ↓x_lt, decide_true, decide_false, Bool.and_self, Bool.true_and, Bool.and_true, if_true, if_false, ite_true, ite_false, ↓reduceIte, not_true_eq_false, not_false_eq_true, Nat.reduceAdd, Nat.reduceMul, Nat.reduceEqDiff, eq_self, true_and, and_true, false_and, and_false, Option.some.injEq, Prod.mk.injEq, l_0, l_1, l_2, l_3, l_4, l_5, l_6, l_7, l_8, l_9, l_10, l_100, l_160, ↓m_1, ↓m_2, ↓m_3, ↓m_4, ↓m_5, ↓m_6, ↓m_7]
  · have hk : kw w = w - 1 ∧ w - 1 < 4 := by
      rcases (by omega : w = 1 ∨ w = 2 ∨ w = 3 ∨ w = 4) with e | e | e | e <;> subst e <;> decide
    obtain ⟨hk, hk4⟩ := hk
    rw [hk, if_neg (by omega), if_neg (by omega), if_neg (by omega)]
    have hs : sob ρ w 0 (nv T n p) = decide (tlo (w - 1) ≤ nv T n p ∧ nv T n p ≤ thi (w - 1)) := by unfold sob; rw [if_neg h0, if_neg e5, if_neg e6]
    by_cases q : nbad T n (tlo (w - 1)) (thi (w - 1) + 1) p
    · rw [if_pos q]
      obtain ⟨M2, t1, t2, t3, t4⟩ := g2 (by
        rcases nb_iff.mp q with z | z | z
        · exact Or.inl z
        · exact Or.inr (by rw [hs]; exact decide_eq_false (fun y => by omega))
        · exact Or.inr (by rw [hs]; exact decide_eq_false (fun y => by omega)))
      exact ⟨M2, t1, ME.no t2 (t3.mono (fun a k z => PJ_I z)) t4⟩
    · rw [if_neg q]
      have q1 : tlo (w - 1) ≤ nv T n p := Nat.le_of_not_lt (fun z => q (Or.inr (Or.inl z)))
      have q2 : nv T n p < thi (w - 1) + 1 := Nat.lt_of_not_le (fun z => q (Or.inr (Or.inr z)))
      obtain ⟨M2, t1, t2, t3, t4, t5, t6⟩ := g1 (fun z => by
        rcases z with z | z
        · exact q (Or.inl z)
        · rw [hs] at z; exact of_decide_eq_false z ⟨q1, by omega⟩)
      obtain ⟨M3, v, u1, u2, u3, u4⟩ := m_set t2 t4 hV hk4 q1 (by omega)
      refine ⟨M3, ?_, ME.ok u2 ((t6.mono (fun a k z => PJ_I z)).tr (u4.mono (fun a k z => PM_I z))) (t3.pm u4) u3⟩
      rw [t1, nt M2 t2]
      have z1 : nI w - nI 1 = nI (w - 1) := pk_sub (by omega)
      simp (disch := first | assumption | omega) only [f_X9_item_67, gt_83, gr_83_23, gt_98, gl_98, h0, e5, e6, t5, z1, u1, rV, l_of, n_ltT, n_ltF, n_leT, n_leF, n_eqT, n_eqF, n_neM, n_Mne, n_M0, n_Mlt, n_0leM, nI_clamp, x_in_nI, n_1, nI_add, x_at, x_bd_s, x_bv_s, ↓x_lt, decide_true, decide_false, Bool.and_self, Bool.true_and, Bool.and_true, if_true, if_false, ite_true, ite_false, ↓reduceIte, not_true_eq_false, not_false_eq_true, Nat.reduceAdd, Nat.reduceMul, Nat.reduceEqDiff, eq_self, true_and, and_true, false_and, and_false, Option.some.injEq, Prod.mk.injEq, l_0, l_1, l_2, l_3, l_4, l_5, l_6, l_7, l_8, l_9, l_10, l_100, l_160, ↓m_1, ↓m_2, ↓m_3, ↓m_4, ↓m_5, ↓m_6, ↓m_7]
theorem m_itb0 {p F : Nat} (hG : Geo L b1 b2 M) (hQ : QS T n κ p M) (hR : MR ρ M) (hV : WF Q ρ) (hn : n ≤ 160) (hκ : κ < 8) (hp : p ≤ n) (h6 : r_s ρ 0 < 6) :
    ∃ M', lp_X9_item_57 (F + 3) 83 (nI 0) (nI 0) M = some (rV (itb T n 5 p ρ), M') ∧ ME L b1 b2 T n κ M (itb T n 5 p ρ) M' := by
  have hb := ne_n (T := T) hp
  obtain ⟨g1, g2⟩ := m_124 (K := lp_X9_item_57 (F + 2)) (w := 0) (i := 0) hG hQ hR hV hn hκ hp (by omega) (by omega)
  have st : lp_X9_item_57 (F + 3) 83 (nI 0) (nI 0) M = f_X9_item_124 (lp_X9_item_57 (F + 2)) 83 (nI 0) (nI 0) M := by
    rw [s_lp_X9_item_57]
    simp (disch := first | assumption | omega) only [bd_X9_item_57, f_X9_item_67, l_of, n_ltT, n_ltF, n_leT, n_leF, n_eqT, n_eqF, n_neM, n_Mne, n_M0, n_Mlt, n_0leM, nI_clamp, x_in_nI, n_1, nI_add, x_at, x_bd_s, x_bv_s, ↓x_lt, decide_true, decide_false, Bool.and_self, Bool.true_and, Bool.and_true, if_true, if_false, ite_true, ite_false, ↓reduceIte, not_true_eq_false, not_false_eq_true, Nat.reduceAdd, Nat.reduceMul, Nat.reduceEqDiff, eq_self, true_and, and_true, false_and, and_false, Option.some.injEq, Prod.mk.injEq, l_0, l_1, l_2, l_3, l_4, l_5, l_6, l_7, l_8, l_9, l_10, l_100, l_160, ↓m_1, ↓m_2, ↓m_3, ↓m_4, ↓m_5, ↓m_6, ↓m_7]
  rw [st]
  unfold itb
  rw [if_pos rfl]
  have hs : ∀ v, sob ρ 0 0 v = decide (v ≤ 6) := fun v => rfl
  have hs1 : ∀ v, sob ρ 0 1 v = decide (v ≤ 9) := fun v => rfl
  by_cases q : nbad T n 0 7 p
  · rw [if_pos q]
    obtain ⟨M2, t1, t2, t3, t4⟩ := g2 (by
      rcases nb_iff.mp q with z | z | z
      · exact Or.inl z
      · omega
      · exact Or.inr (by rw [hs]; exact decide_eq_false (fun y => by omega)))
    exact ⟨M2, t1, ME.no t2 (t3.mono (fun a k z => PJ_I z)) t4⟩
  rw [if_neg q]
  have q2 : nv T n p < 7 := Nat.lt_of_not_le (fun z => q (Or.inr (Or.inr z)))
  obtain ⟨M2, t1, t2, t3, t4, t5, t6⟩ := g1 (fun z => by
    rcases z with z | z
    · exact q (Or.inl z)
    · rw [hs] at z; exact of_decide_eq_false z (by omega))
  rw [t1]
  obtain ⟨r0, r1, r2, r3⟩ := id t3
  have fI : Fr PI M M2 := t6.mono (fun a k z => PJ_I z)
  by_cases w : ok1 T n (ne T n p) 32
  · rw [if_pos w]
    obtain ⟨w1, w2⟩ := id w
    have y := r3 (ne T n p) w1
    rw [w2] at y
    have hG3 : Geo L b1 b2 (x_wi M2 83 25 (nI (ne T n p + 1))) := t2
    have f3 : Fr (PJ 1) M2 (x_wi M2 83 25 (nI (ne T n p + 1))) := Fr.rf.wi (by omega)
    have hQ3 : QS T n κ (ne T n p + 1) (x_wi M2 83 25 (nI (ne T n p + 1))) := t3.fr f3 (by omega) (by rw [ii_wi, if_pos ⟨rfl, rfl⟩])
    have hR3 : MR ρ (x_wi M2 83 25 (nI (ne T n p + 1))) := t4.ag2 (fun a j h => f3.1 _ _ (by omega))
    obtain ⟨v1, v2⟩ := m_124 (K := lp_X9_item_57 (F + 1)) (w := 0) (i := 1) hG3 hQ3 hR3 hV hn hκ (show ne T n p + 1 ≤ n by omega) (by omega) (by omega)
    have st2 : lp_X9_item_57 (F + 2) 83 (nI 0) (nI (0 + 1)) M2 = f_X9_item_124 (lp_X9_item_57 (F + 1)) 83 (nI 0) (nI 1) (x_wi M2 83 25 (nI (ne T n p + 1))) := by
      rw [s_lp_X9_item_57]
      simp (disch := first | assumption | omega) only [bd_X9_item_57, f_X9_item_67, gt_83, gr_83_20, gt_95, gl_95, r0, r1, r2, nI_add, y, l_32, l_of, n_ltT, n_ltF, n_leT, n_leF, n_eqT, n_eqF, n_neM, n_Mne, n_M0, n_Mlt, n_0leM, nI_clamp, x_in_nI, n_1, nI_add, x_at, x_bd_s, x_bv_s, ↓x_lt, decide_true, decide_false, Bool.and_self, Bool.true_and, Bool.and_true, if_true, if_false, ite_true, ite_false, ↓reduceIte, not_true_eq_false, not_false_eq_true, Nat.reduceAdd, Nat.reduceMul, Nat.reduceEqDiff, eq_self, true_and, and_true, false_and, and_false, Option.some.injEq, Prod.mk.injEq, l_0, l_1, l_2, l_3, l_4, l_5, l_6, l_7, l_8, l_9, l_10, l_100, l_160, ↓m_1, ↓m_2, ↓m_3, ↓m_4, ↓m_5, ↓m_6, ↓m_7]
    rw [st2]
    have hb2 := ne_n (T := T) (n := n) (p := ne T n p + 1) (by omega)
    have fJ := f3.mono (fun a k z => PJ_I z)
    by_cases q3 : nbad T n 0 10 (ne T n p + 1)
    · rw [if_pos q3]
      obtain ⟨M4, s1, s2, s3, s4⟩ := v2 (by
        rcases nb_iff.mp q3 with z | z | z
        · exact Or.inl z
        · omega
        · exact Or.inr (by rw [hs1]; exact decide_eq_false (fun y => by omega)))
      exact ⟨M4, s1, ME.no s2 ((fI.tr fJ).tr (s3.mono (fun a k z => PJ_I z))) s4⟩
    · rw [if_neg q3]
      have q4 : nv T n (ne T n p + 1) < 10 := Nat.lt_of_not_le (fun z => q3 (Or.inr (Or.inr z)))
      obtain ⟨M4, s1, s2, s3, s4, s5, s6⟩ := v1 (fun z => by
        rcases z with z | z
        · exact q3 (Or.inl z)
        · rw [hs1] at z; exact of_decide_eq_false z (by omega))
      have y0 : x_i M4 98 0 = nI (nv T n p) := (s6.1 _ _ (by omega)).trans ((f3.1 98 0 (by omega) |> fun _ => by rw [ii_wi, if_neg (by omega)]; exact t5))
      obtain ⟨M5, v, u1, u2, u3, u4⟩ := m_add (k := nv T n p) (j := nv T n (ne T n p + 1)) s2 s4 h6
      refine ⟨M5, ?_, ME.ok u2 (((fI.tr fJ).tr (s6.mono (fun a k z => PJ_I z))).tr (u4.mono (fun a k z => PM_I z))) (s3.pm u4) u3⟩
      rw [s1, s_lp_X9_item_57]
      simp (disch := first | assumption | omega) only [bd_X9_item_57, f_X9_item_67, gt_83, gr_83_23, gt_98, gl_98, y0, s5, u1, rV, l_of, n_ltT, n_ltF, n_leT, n_leF, n_eqT, n_eqF, n_neM, n_Mne, n_M0, n_Mlt, n_0leM, nI_clamp, x_in_nI, n_1, nI_add, x_at, x_bd_s, x_bv_s, ↓x_lt, decide_true, decide_false, Bool.and_self, Bool.true_and, Bool.and_true, if_true, if_false, ite_true, ite_false, ↓reduceIte, not_true_eq_false, not_false_eq_true, Nat.reduceAdd, Nat.reduceMul, Nat.reduceEqDiff, eq_self, true_and, and_true, false_and, and_false, Option.some.injEq, Prod.mk.injEq, l_0, l_1, l_2, l_3, l_4, l_5, l_6, l_7, l_8, l_9, l_10, l_100, l_160, ↓m_1, ↓m_2, ↓m_3, ↓m_4, ↓m_5, ↓m_6, ↓m_7]
  · rw [if_neg w]
    have st2 : lp_X9_item_57 (F + 2) 83 (nI 0) (nI (0 + 1)) M2 = some (nI 0, x_wi M2 83 28 (nI (ne T n p))) := by
      rw [s_lp_X9_item_57]
      by_cases w1 : ne T n p < n
      · have y := r3 (ne T n p) w1
        have w2 : ¬ T (ne T n p) = nI 32 := fun z => w ⟨w1, z⟩
        simp (disch := first | assumption | omega) only [bd_X9_item_57, f_X9_item_67, f_X9_item_105, f_X9_wrong, gt_83, gr_83_20, gt_95, gl_95, r0, r1, r2, nI_add, y, w2, l_32, true_or, or_true, l_of, n_ltT, n_ltF, n_leT, n_leF, n_eqT, n_eqF, n_neM, n_Mne, n_M0, n_Mlt, n_0leM, nI_clamp, x_in_nI, n_1, nI_add, x_at, x_bd_s, x_bv_s, ↓x_lt, decide_true, decide_false, Bool.and_self, Bool.true_and, Bool.and_true, if_true, if_false, ite_true, ite_false, ↓reduceIte, not_true_eq_false, not_false_eq_true, Nat.reduceAdd, Nat.reduceMul, Nat.reduceEqDiff, eq_self, true_and, and_true, false_and, and_false, Option.some.injEq, Prod.mk.injEq, l_0, l_1, l_2, l_3, l_4, l_5, l_6, l_7, l_8, l_9, l_10, l_100, l_160, ↓m_1, ↓m_2, ↓m_3, ↓m_4, ↓m_5, ↓m_6, ↓m_7]
      · simp (disch := first | assumption | omega) only [bd_X9_item_57, f_X9_item_67, f_X9_item_105, f_X9_wrong, gt_83, r1, r2, true_or, or_true, l_of, n_ltT, n_ltF, n_leT, n_leF, n_eqT, n_eqF, n_neM, n_Mne, n_M0, n_Mlt, n_0leM, nI_clamp, x_in_nI, n_1, nI_add, x_at, x_bd_s, x_bv_s, ↓x_lt, decide_true, decide_false, Bool.and_self, Bool.true_and, Bool.and_true, if_true, if_false, ite_true, ite_false, ↓reduceIte, not_true_eq_false, not_false_eq_true, Nat.reduceAdd, Nat.reduceMul, Nat.reduceEqDiff, eq_self, true_and, and_true, false_and, and_false, Option.some.injEq, Prod.mk.injEq, l_0, l_1, l_2, l_3, l_4, l_5, l_6, l_7, l_8, l_9, l_10, l_100, l_160, ↓m_1, ↓m_2, ↓m_3, ↓m_4, ↓m_5, ↓m_6, ↓m_7]
    rw [st2]
    exact ⟨_, rfl, ME.no t2 (fI.wi (by omega)) (by rw [ii_wi, if_pos ⟨rfl, rfl⟩])⟩
end
