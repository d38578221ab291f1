/-! what the shelves hold changes, all else stays -/
def u_shl (σ : XS) (h : Nat → Nat → Nat) (e : Nat → Nat → Int64) : XS := (σ.1, σ.2.1, h, e, σ.2.2.2.2)
section
variable {M M' : XM} {σ : XS}
theorem CInv.shl {h : Nat → Nat → Nat} {e : Nat → Nat → Int64} (hI : CInv σ M) (g : Agr 20 67 M M') (hS : CSh (u_shl σ h e) M') : CInv (u_shl σ h e) M' := by
  obtain ⟨h1, h2, h3, h4, h5, h6, h7⟩ := hI
  refine ⟨h1.ag (g.mono (by omega) (by omega)), ?_, hS, fun k hk => (g.i _ (by omega) (by omega)).trans (h4 k hk), (g.i _ (by omega) (by omega)).trans h5, (g.i _ (by omega) (by omega)).trans h6, fun i hi hr => (g.i _ (by omega) (by omega)).trans (h7 i hi hr)⟩
  unfold CI at h2 ⊢
  show match s_img σ with | none => _ | some κ => _
  cases hm : s_img σ with
  | none => rw [hm] at h2; exact (g.i _ (by omega) (by omega)).trans h2
  | some κ => rw [hm] at h2; exact ⟨(g.i _ (by omega) (by omega)).trans h2.1, h2.2.ag (g.mono (by omega) (by omega))⟩
theorem MInv.shl {h : Nat → Nat → Nat} {e : Nat → Nat → Int64} (hI : MInv σ M) (g1 : Agr 83 91 M M') (g2 : Agr 100 105 M M') (hS : MSh (u_shl σ h e) M') : MInv (u_shl σ h e) M' := by
  have h3' := hI.2.2.1
  obtain ⟨h1, h2, -, h4, h5, h6, h7⟩ := hI
  refine ⟨h1.ag (fun a j ha => g1.i _ ha.1 ha.2), ?_, hS, fun k hk => (g1.i _ (by omega) (by omega)).trans (h4 k hk), (g1.i _ (by omega) (by omega)).trans h5, (g1.i _ (by omega) (by omega)).trans h6, fun i hi hr => (g2.i _ (by omega) (by omega)).trans (h7 i hi hr)⟩
  unfold MI at h2 ⊢
  show match s_img σ with | none => _ | some κ => _
  cases hm : s_img σ with
  | none => rw [hm] at h2; exact (g1.i _ (by omega) (by omega)).trans h2
  | some κ =>
    rw [hm] at h2
    obtain ⟨e1, ⟨d1, d2, d3, d4, d5, d6, d7, d8⟩, dc, dt⟩ := h2
    refine ⟨(g1.i _ (by omega) (by omega)).trans e1, ⟨(g2.i _ (by omega) (by omega)).trans d1, (g2.i _ (by omega) (by omega)).trans d2, (g2.i _ (by omega) (by omega)).trans d3, (g2.i _ (by omega) (by omega)).trans d4, (g2.i _ (by omega) (by omega)).trans d5, (g2.i _ (by omega) (by omega)).trans d6, (g2.i _ (by omega) (by omega)).trans d7, (g2.i _ (by omega) (by omega)).trans d8⟩, fun c hc' => ?_, fun i hi => (g2.i _ (by omega) (by omega)).trans (dt i hi)⟩
    obtain ⟨q1, q2, q3, q4, q5⟩ := dc c hc'
    exact ⟨(g2.i _ (by omega) (by omega)).trans q1, (g2.i _ (by omega) (by omega)).trans q2, (g2.i _ (by omega) (by omega)).trans q3, (g2.i _ (by omega) (by omega)).trans q4, (g2.i _ (by omega) (by omega)).trans q5⟩
theorem ss_u (f s v g t : Nat) : s_sh (u_sh σ f s v) g t = if g = f ∧ t = s then v else s_sh σ g t := rfl
theorem se_u (f s v : Nat) : s_el (u_sh σ f s v) = s_el σ := rfl
theorem ss_e (s : Nat) (h : Nat → Int64) : s_sh (u_el σ s h) = s_sh σ := rfl
theorem se_e (s t : Nat) (h : Nat → Int64) : s_el (u_el σ s h) t = if t = s then h else s_el σ t := rfl
theorem CSh.el {s j : Nat} {v : Int64} (h : CSh σ M) (hs : s < 8) : CSh (u_el σ s (fun q => if q = j then v else s_el σ s q)) (x_wj M (68 + 2 * s) j v) := by
  intro t ht
  obtain ⟨h0, h1, h2⟩ := h t ht
  refine ⟨h0, fun e => ?_, h2⟩
  obtain ⟨q1, q2, q3, q4⟩ := h1 e
  refine ⟨q1, q2, q3, fun i hi => ?_⟩
  rw [ji_wj, se_e]
  by_cases hts : t = s
  · subst hts
    rw [if_pos rfl]
    by_cases hij : i = j
    · rw [if_pos ⟨rfl, hij⟩, if_pos hij]
    · rw [if_neg (fun q => hij q.2), if_neg hij]; exact q4 i hi
  · rw [if_neg (by omega), if_neg hts]; exact q4 i hi
theorem MSh.el {s j : Nat} {v : Int64} (h : MSh σ M) (hs : s < 8) (hj : j < 160) : MSh (u_el σ s (fun q => if q = j then v else s_el σ s q)) (x_wj M 95 (160 * s + j) v) := by
  intro t ht
  obtain ⟨h0, h1, h2⟩ := h t ht
  refine ⟨h0, fun e => ?_, h2⟩
  obtain ⟨q1, q2, q3⟩ := h1 e
  refine ⟨q1, q2, fun i hi => ?_⟩
  rw [ji_wj, se_e]
  by_cases hts : t = s
  · subst hts
    rw [if_pos rfl]
    by_cases hij : i = j
    · rw [if_pos ⟨rfl, by omega⟩, if_pos hij]
    · rw [if_neg (by omega), if_neg hij]; exact q3 i hi
  · rw [if_neg (by omega), if_neg hts]; exact q3 i hi
theorem CSh.cl {s : Nat} (h : CSh σ M) (hs : s < 8) : CSh (u_sh σ 0 s 0) (x_wi (x_wi (x_wi M (67 + 2 * s) 0 (nM 1)) (67 + 2 * s) 1 (nM 1)) (67 + 2 * s) 2 (nI 0)) := by
  intro t ht
  obtain ⟨h0, h1, h2⟩ := h t ht
  by_cases hts : t = s
  · subst hts
    simp only [ss_u, if_true, and_self]
    refine ⟨fun _ => ⟨?_, ?_, ?_⟩, fun e => absurd e (by omega), fun e => absurd e (by omega)⟩
    · simp (disch := first | assumption | omega) only [ii_wi, ji_wi, ri_wi, ti_wi, li_wi, ii_wj, ji_wj, ri_wj, ti_wj, li_wj, l_of, n_ltT, n_ltF, n_leT, n_leF, n_eqT, n_eqF, n_neM, n_Mne, n_M0, n_Mlt, n_0leM, nI_clamp, x_in_nI, n_1, nI_add, x_at, x_bd_s, x_bv_s, ↓x_lt, decide_true, decide_false, Bool.and_self, Bool.true_and, Bool.and_true, if_true, if_false, ite_true, ite_false, ↓reduceIte, not_true_eq_false, not_false_eq_true, Nat.reduceAdd, Nat.reduceMul, Nat.reduceEqDiff, eq_self, true_and, and_true, false_and, and_false, Option.some.injEq, Prod.mk.injEq, l_0, l_1, l_2, l_3, l_4, l_5, l_6, l_7, l_8, l_9, l_10, l_100, l_160, ↓m_1, ↓m_2, ↓m_3, ↓m_4, ↓m_5, ↓m_6, ↓m_7]
    · simp (disch := first | assumption | omega) only [ii_wi, ji_wi, ri_wi, ti_wi, li_wi, ii_wj, ji_wj, ri_wj, ti_wj, li_wj, l_of, n_ltT, n_ltF, n_leT, n_leF, n_eqT, n_eqF, n_neM, n_Mne, n_M0, n_Mlt, n_0leM, nI_clamp, x_in_nI, n_1, nI_add, x_at, x_bd_s, x_bv_s, ↓x_lt, decide_true, decide_false, Bool.and_self, Bool.true_and, Bool.and_true, if_true, if_false, ite_true, ite_false, ↓reduceIte, not_true_eq_false, not_false_eq_true, Nat.reduceAdd, Nat.reduceMul, Nat.reduceEqDiff, eq_self, true_and, and_true, false_and, and_false, Option.some.injEq, Prod.mk.injEq, l_0, l_1, l_2, l_3, l_4, l_5, l_6, l_7, l_8, l_9, l_10, l_100, l_160, ↓m_1, ↓m_2, ↓m_3, ↓m_4, ↓m_5, ↓m_6, ↓m_7]
    · simp (disch := first | assumption | omega) only [ii_wi, ji_wi, ri_wi, ti_wi, li_wi, ii_wj, ji_wj, ri_wj, ti_wj, li_wj, l_of, n_ltT, n_ltF, n_leT, n_leF, n_eqT, n_eqF, n_neM, n_Mne, n_M0, n_Mlt, n_0leM, nI_clamp, x_in_nI, n_1, nI_add, x_at, x_bd_s, x_bv_s, ↓x_lt, decide_true, decide_false, Bool.and_self, Bool.true_and, Bool.and_true, if_true, if_false, ite_true, ite_false, ↓reduceIte, not_true_eq_false, not_false_eq_true, Nat.reduceAdd, Nat.reduceMul, Nat.reduceEqDiff, eq_self, true_and, and_true, false_and, and_false, Option.some.injEq, Prod.mk.injEq, l_0, l_1, l_2, l_3, l_4, l_5, l_6, l_7, l_8, l_9, l_10, l_100, l_160, ↓m_1, ↓m_2, ↓m_3, ↓m_4, ↓m_5, ↓m_6, ↓m_7]
  · have hx : ∀ j, x_i (x_wi (x_wi (x_wi M (67 + 2 * s) 0 (nM 1)) (67 + 2 * s) 1 (nM 1)) (67 + 2 * s) 2 (nI 0)) (67 + 2 * t) j = x_i M (67 + 2 * t) j := fun j => by
      simp only [ii_wi]; repeat rw [if_neg (by omega)]
    have hy : ∀ g, s_sh (u_sh σ 0 s 0) g t = s_sh σ g t := fun g => by rw [ss_u, if_neg (by omega)]
    simp only [hx, hy]
    exact ⟨h0, h1, h2⟩
theorem CSh.co {s c : Nat} (h : CSh σ M) (hs : s < 8) : CSh (u_sh (u_sh σ 3 s c) 0 s 2) (x_wi (x_wi (x_wi M (67 + 2 * s) 0 (nI c)) (67 + 2 * s) 1 (nM 1)) (67 + 2 * s) 2 (nI 0)) := by
  intro t ht
  obtain ⟨h0, h1, h2⟩ := h t ht
  by_cases hts : t = s
  · subst hts
    simp only [ss_u, if_true, and_self]
    refine ⟨fun e => absurd e (by omega), fun e => absurd e (by omega), fun _ => ⟨?_, ?_, ?_⟩⟩
    · simp (disch := first | assumption | omega) only [ii_wi, ji_wi, ri_wi, ti_wi, li_wi, ii_wj, ji_wj, ri_wj, ti_wj, li_wj, l_of, n_ltT, n_ltF, n_leT, n_leF, n_eqT, n_eqF, n_neM, n_Mne, n_M0, n_Mlt, n_0leM, nI_clamp, x_in_nI, n_1, nI_add, x_at, x_bd_s, x_bv_s, ↓x_lt, decide_true, decide_false, Bool.and_self, Bool.true_and, Bool.and_true, if_true, if_false, ite_true, ite_false, ↓reduceIte, not_true_eq_false, not_false_eq_true, Nat.reduceAdd, Nat.reduceMul, Nat.reduceEqDiff, eq_self, true_and, and_true, false_and, and_false, Option.some.injEq, Prod.mk.injEq, l_0, l_1, l_2, l_3, l_4, l_5, l_6, l_7, l_8, l_9, l_10, l_100, l_160, ↓m_1, ↓m_2, ↓m_3, ↓m_4, ↓m_5, ↓m_6, ↓m_7]
    · simp (disch := first | assumption | omega) only [ii_wi, ji_wi, ri_wi, ti_wi, li_wi, ii_wj, ji_wj, ri_wj, ti_wj, li_wj, l_of, n_ltT, n_ltF, n_leT, n_leF, n_eqT, n_eqF, n_neM, n_Mne, n_M0, n_Mlt, n_0leM, nI_clamp, x_in_nI, n_1, nI_add, x_at, x_bd_s, x_bv_s, ↓x_lt, decide_true, decide_false, Bool.and_self, Bool.true_and, Bool.and_true, if_true, if_false, ite_true, ite_false, ↓reduceIte, not_true_eq_false, not_false_eq_true, Nat.reduceAdd, Nat.reduceMul, Nat.reduceEqDiff, eq_self, true_and, and_true, false_and, and_false, Option.some.injEq, Prod.mk.injEq, l_0, l_1, l_2, l_3, l_4, l_5, l_6, l_7, l_8, l_9, l_10, l_100, l_160, ↓m_1, ↓m_2, ↓m_3, ↓m_4, ↓m_5, ↓m_6, ↓m_7]
    · simp (disch := first | assumption | omega) only [ii_wi, ji_wi, ri_wi, ti_wi, li_wi, ii_wj, ji_wj, ri_wj, ti_wj, li_wj, l_of, n_ltT, n_ltF, n_leT, n_leF, n_eqT, n_eqF, n_neM, n_Mne, n_M0, n_Mlt, n_0leM, nI_clamp, x_in_nI, n_1, nI_add, x_at, x_bd_s, x_bv_s, ↓x_lt, decide_true, decide_false, Bool.and_self, Bool.true_and, Bool.and_true, if_true, if_false, ite_true, ite_false, ↓reduceIte, not_true_eq_false, not_false_eq_true, Nat.reduceAdd, Nat.reduceMul, Nat.reduceEqDiff, eq_self, true_and, and_true, false_and, and_false, Option.some.injEq, Prod.mk.injEq, l_0, l_1, l_2, l_3, l_4, l_5, l_6, l_7, l_8, l_9, l_10, l_100, l_160, ↓m_1, ↓m_2, ↓m_3, ↓m_4, ↓m_5, ↓m_6, ↓m_7]
  · have hx : ∀ j, x_i (x_wi (x_wi (x_wi M (67 + 2 * s) 0 (nI c)) (67 + 2 * s) 1 (nM 1)) (67 + 2 * s) 2 (nI 0)) (67 + 2 * t) j = x_i M (67 + 2 * t) j := fun j => by
      simp only [ii_wi]; repeat rw [if_neg (by omega)]
    have hy : ∀ g, s_sh (u_sh (u_sh σ 3 s c) 0 s 2) g t = s_sh σ g t := fun g => by rw [ss_u, if_neg (by omega), ss_u, if_neg (by omega)]
    simp only [hx, hy]
    exact ⟨h0, h1, h2⟩
theorem MSh.cl {s : Nat} {v : Int32} (h : MSh σ M) (hs : s < 8) : MSh (u_sh σ 0 s 0) (x_wi (x_wi M 91 s (nI 0)) 94 s v) := by
  intro t ht
  obtain ⟨h0, h1, h2⟩ := h t ht
  by_cases hts : t = s
  · subst hts
    simp only [ss_u, if_true, and_self]
    refine ⟨?_, fun e => absurd e (by omega), fun e => absurd e (by omega)⟩
    simp (disch := first | assumption | omega) only [ii_wi, ji_wi, ri_wi, ti_wi, li_wi, ii_wj, ji_wj, ri_wj, ti_wj, li_wj, l_of, n_ltT, n_ltF, n_leT, n_leF, n_eqT, n_eqF, n_neM, n_Mne, n_M0, n_Mlt, n_0leM, nI_clamp, x_in_nI, n_1, nI_add, x_at, x_bd_s, x_bv_s, ↓x_lt, decide_true, decide_false, Bool.and_self, Bool.true_and, Bool.and_true, if_true, if_false, ite_true, ite_false, ↓reduceIte, not_true_eq_false, not_false_eq_true, Nat.reduceAdd, Nat.reduceMul, Nat.reduceEqDiff, eq_self, true_and, and_true, false_and, and_false, Option.some.injEq, Prod.mk.injEq, l_0, l_1, l_2, l_3, l_4, l_5, l_6, l_7, l_8, l_9, l_10, l_100, l_160, ↓m_1, ↓m_2, ↓m_3, ↓m_4, ↓m_5, ↓m_6, ↓m_7]
  · have hx : ∀ a, x_i (x_wi (x_wi M 91 s (nI 0)) 94 s v) a t = x_i M a t := fun a => by
      simp only [ii_wi]; repeat rw [if_neg (by omega)]
    have hy : ∀ g, s_sh (u_sh σ 0 s 0) g t = s_sh σ g t := fun g => by rw [ss_u, if_neg (by omega)]
    simp only [hx, hy]
    exact ⟨h0, h1, h2⟩
theorem MSh.co {s c : Nat} (h : MSh σ M) (hs : s < 8) : MSh (u_sh (u_sh σ 3 s c) 0 s 2) (x_wi (x_wi M 91 s (nI 2)) 94 s (nI c)) := by
  intro t ht
  obtain ⟨h0, h1, h2⟩ := h t ht
  by_cases hts : t = s
  · subst hts
    simp only [ss_u, if_true, and_self]
    refine ⟨?_, fun e => absurd e (by omega), fun _ => ?_⟩
    · simp (disch := first | assumption | omega) only [ii_wi, ji_wi, ri_wi, ti_wi, li_wi, ii_wj, ji_wj, ri_wj, ti_wj, li_wj, l_of, n_ltT, n_ltF, n_leT, n_leF, n_eqT, n_eqF, n_neM, n_Mne, n_M0, n_Mlt, n_0leM, nI_clamp, x_in_nI, n_1, nI_add, x_at, x_bd_s, x_bv_s, ↓x_lt, decide_true, decide_false, Bool.and_self, Bool.true_and, Bool.and_true, if_true, if_false, ite_true, ite_false, ↓reduceIte, not_true_eq_false, not_false_eq_true, Nat.reduceAdd, Nat.reduceMul, Nat.reduceEqDiff, eq_self, true_and, and_true, false_and, and_false, Option.some.injEq, Prod.mk.injEq, l_0, l_1, l_2, l_3, l_4, l_5, l_6, l_7, l_8, l_9, l_10, l_100, l_160, ↓m_1, ↓m_2, ↓m_3, ↓m_4, ↓m_5, ↓m_6, ↓m_7]
    · simp (disch := first | assumption | omega) only [ii_wi, ji_wi, ri_wi, ti_wi, li_wi, ii_wj, ji_wj, ri_wj, ti_wj, li_wj, l_of, n_ltT, n_ltF, n_leT, n_leF, n_eqT, n_eqF, n_neM, n_Mne, n_M0, n_Mlt, n_0leM, nI_clamp, x_in_nI, n_1, nI_add, x_at, x_bd_s, x_bv_s, ↓x_lt, decide_true, decide_false, Bool.and_self, Bool.true_and, Bool.and_true, if_true, if_false, ite_true, ite_false, ↓reduceIte, not_true_eq_false, not_false_eq_true, Nat.reduceAdd, Nat.reduceMul, Nat.reduceEqDiff, eq_self, true_and, and_true, false_and, and_false, Option.some.injEq, Prod.mk.injEq, l_0, l_1, l_2, l_3, l_4, l_5, l_6, l_7, l_8, l_9, l_10, l_100, l_160, ↓m_1, ↓m_2, ↓m_3, ↓m_4, ↓m_5, ↓m_6, ↓m_7]
  · have hx : ∀ a, x_i (x_wi (x_wi M 91 s (nI 2)) 94 s (nI c)) a t = x_i M a t := fun a => by
      simp only [ii_wi]; repeat rw [if_neg (by omega)]
    have hy : ∀ g, s_sh (u_sh (u_sh σ 3 s c) 0 s 2) g t = s_sh σ g t := fun g => by rw [ss_u, if_neg (by omega), ss_u, if_neg (by omega)]
    simp only [hx, hy]
    exact ⟨h0, h1, h2⟩
end
