section
variable {B B' : Nat} {σ : XS} {ρ : XR}
theorem wf_set (hW : WFS B σ) (s i : Int32) (v : Int64) : WFS B (sp_set σ s i v).2 := by
  unfold sp_set; repeat' split
  all_goals exact hW
theorem WFS.sh0 (h : WFS B σ) (s : Nat) : WFS B (u_sh σ 0 s 0) := by
  obtain ⟨h1, h2, h3, h4⟩ := h
  refine ⟨h1, h2, fun t ht => ?_, h4⟩
  obtain ⟨y1, y2, y3⟩ := h3 t ht
  by_cases hts : t = s
  · subst hts
    have z : s_sh (u_sh σ 0 t 0) 0 t = 0 := by rw [ss_u, if_pos ⟨rfl, rfl⟩]
    exact ⟨by omega, fun e => absurd e (by omega), fun e => absurd e (by omega)⟩
  · have z : ∀ g, s_sh (u_sh σ 0 s 0) g t = s_sh σ g t := fun g => by rw [ss_u, if_neg (by omega)]
    rw [z, z, z, z]
    exact ⟨y1, y2, y3⟩
theorem WFS.shc (h : WFS B σ) (s c : Nat) (hc : c < r_s (s_now σ) 0) : WFS B (u_sh (u_sh σ 3 s c) 0 s 2) := by
  obtain ⟨h1, h2, h3, h4⟩ := h
  refine ⟨h1, h2, fun t ht => ?_, h4⟩
  obtain ⟨y1, y2, y3⟩ := h3 t ht
  by_cases hts : t = s
  · subst hts
    have z : s_sh (u_sh (u_sh σ 3 t c) 0 t 2) 0 t = 2 := by rw [ss_u, if_pos ⟨rfl, rfl⟩]
    have z3 : s_sh (u_sh (u_sh σ 3 t c) 0 t 2) 3 t = c := by rw [ss_u, if_neg (by omega), ss_u, if_pos ⟨rfl, rfl⟩]
    exact ⟨by omega, fun e => absurd e (by omega), fun _ => by rw [z3]; exact hc⟩
  · have z : ∀ g, s_sh (u_sh (u_sh σ 3 s c) 0 s 2) g t = s_sh σ g t := fun g => by rw [ss_u, if_neg (by omega), ss_u, if_neg (by omega)]
    rw [z, z, z, z]
    exact ⟨y1, y2, y3⟩
theorem WFS.row (h : WFS B σ) (s t n : Nat) (ht : t ≤ 3) (hn : n ≤ 160) : WFS B (u_row σ s t n) := by
  obtain ⟨h1, h2, h3, h4⟩ := h
  refine ⟨h1, h2, fun q hq => ?_, h4⟩
  obtain ⟨y1, y2, y3⟩ := h3 q hq
  by_cases hts : q = s
  · subst hts
    have y0 : s_sh (u_row σ q t n) 0 q = 1 := by unfold u_row; rw [ss_e, ss_u, if_pos ⟨rfl, rfl⟩]
    have y1 : s_sh (u_row σ q t n) 1 q = t := by unfold u_row; rw [ss_e, ss_u, if_neg (by omega), ss_u, if_neg (by omega), ss_u, if_pos ⟨rfl, rfl⟩]
    have y2 : s_sh (u_row σ q t n) 2 q = n := by unfold u_row; rw [ss_e, ss_u, if_neg (by omega), ss_u, if_pos ⟨rfl, rfl⟩]
    exact ⟨by omega, fun _ => ⟨by omega, by omega⟩, fun e => absurd e (by omega)⟩
  · have hy : ∀ g, s_sh (u_row σ s t n) g q = s_sh σ g q := fun g => by unfold u_row; rw [ss_e, ss_u, if_neg (by omega), ss_u, if_neg (by omega), ss_u, if_neg (by omega)]
    rw [hy, hy, hy, hy]
    exact ⟨y1, y2, y3⟩
theorem wf_show (hW : WFS B σ) (s v : Int32) : WFS B (sp_show σ s v).2 := by
  unfold sp_show; repeat' split
  · exact hW
  · exact hW.sh0 _
  · exact hW
  · exact hW.shc _ _ (by omega)
theorem wf_row (hW : WFS B σ) (s t n : Int32) : WFS B (sp_row σ s t n).2 := by
  unfold sp_row; repeat' split
  · exact hW
  · exact hW
  · exact hW
  · exact hW
  · exact hW.row _ _ _ (by omega) (by omega)
theorem ra_s (ρ : XR) (k j i : Nat) : r_s (r_add ρ k j) i = if i = 0 then r_s ρ 0 + 1 else r_s ρ i := by
  unfold r_add
  simp only [rs_ws, rs_wq, rs_wo]
theorem ra_q (ρ : XR) (k j g d : Nat) : r_q (r_add ρ k j) g d = if g = 3 ∧ d = r_s ρ 0 then 0 else if g = 2 ∧ d = r_s ρ 0 then 0 else if g = 1 ∧ d = r_s ρ 0 then j else if g = 0 ∧ d = r_s ρ 0 then k else r_q ρ g d := by
  unfold r_add
  simp only [rq_ws, rq_wq, rq_wo]
theorem WF.add (h : WF B ρ) (k j : Nat) (hk : k ≤ 6) (hj : j ≤ 9) (hn : r_s ρ 0 < 6) : WF B (r_add ρ k j) := by
  obtain ⟨⟨w0, w1, w2, w3, w4, w5, w6, w7⟩, k2, k3, k4⟩ := h
  refine ⟨?_, fun d hd => ?_, fun d hd => ?_, fun i hi => ?_⟩
  · simp only [ra_s]
    refine ⟨?_, ?_, ?_, ?_, ?_, ?_, ?_, ?_⟩ <;> first | assumption | exact hn
  · obtain ⟨y1, y2, y3, y4⟩ := k2 d hd
    simp only [ra_q]
    by_cases hdn : d = r_s ρ 0
    · simp (disch := first | assumption | omega) only [hdn, l_of, n_ltT, n_ltF, n_leT, n_leF, n_eqT, n_eqF, n_neM, n_Mne, n_M0, n_Mlt, n_0leM, nI_clamp, x_in_nI, n_1, nI_add, x_at, x_bd_s, x_bv_s, ↓x_lt, decide_true, decide_false, Bool.and_self, Bool.true_and, Bool.and_true, if_true, if_false, ite_true, ite_false, ↓reduceIte, not_true_eq_false, not_false_eq_true, Nat.reduceAdd, Nat.reduceMul, Nat.reduceEqDiff, eq_self, true_and, and_true, false_and, and_false, Option.some.injEq, Prod.mk.injEq, l_0, l_1, l_2, l_3, l_4, l_5, l_6, l_7, l_8, l_9, l_10, l_100, l_160, ↓m_1, ↓m_2, ↓m_3, ↓m_4, ↓m_5, ↓m_6, ↓m_7]
      exact ⟨hk, hj, Nat.zero_le _, Nat.zero_le _⟩
    · simp only [hdn, and_false, if_false]
      exact ⟨y1, y2, y3, y4⟩
  · rw [ra_s, if_pos rfl] at hd
    rw [ra_s ρ k j 1, if_neg (by omega), ra_q]
    by_cases hdn : d = r_s ρ 0
    · rw [if_neg (by omega), if_pos ⟨rfl, hdn⟩]
      exact Nat.zero_le _
    · rw [if_neg (by omega), if_neg (fun q => hdn q.2), if_neg (by omega), if_neg (by omega)]
      exact k3 d (by omega)
  · rw [ra_q, if_neg (by omega), if_neg (by omega), if_neg (by omega), if_neg (by omega)]
    exact k4 i hi
theorem wf_counter (hW : WFS B σ) (t a : Int32) : WFS B (sp_counter σ t a).2 := by
  unfold sp_counter; repeat' split
  · exact hW
  · exact hW
  · exact hW
  · exact hW.now (Nat.le_refl _) (hW.1.add _ _ (by omega) (by omega) (by omega)) (by rw [ra_s, if_pos rfl]; omega)
end
