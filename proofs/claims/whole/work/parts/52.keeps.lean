section
variable {B B' : Nat} {σ : XS} {ρ : XR}
theorem cl_s (m : Nat) : ∀ (ρ : XR) (j i : Nat), r_s (r_cl m ρ j) i = r_s ρ i := by
  induction m with
  | zero => intro ρ j i; rfl
  | succ m ih => intro ρ j i; exact (ih _ (j + 1) i).trans (rs_wq _ _ _ _ _)
/-- all but that the counters from j on stand within N -/
def WG (B : Nat) (ρ : XR) (j : Nat) : Prop :=
  (r_s ρ 0 ≤ 6 ∧ 1 ≤ r_s ρ 1 ∧ r_s ρ 1 ≤ 200 ∧ 1 ≤ r_s ρ 2 ∧ r_s ρ 2 ≤ 200 ∧ r_s ρ 3 ≤ 1000 ∧ r_s ρ 4 ≤ 99 ∧ r_s ρ 5 ≤ 8) ∧
  (∀ c, c < 6 → r_q ρ 0 c ≤ 6 ∧ r_q ρ 1 c ≤ 9 ∧ r_q ρ 2 c ≤ 200 ∧ r_q ρ 3 c ≤ B) ∧ (∀ c, c < j → r_q ρ 2 c ≤ r_s ρ 1) ∧ ∀ i, i < 8 → r_q ρ 4 i ≤ 9999
theorem mn_le2 (a b : Nat) : mn a b ≤ b := by unfold mn; split <;> omega
theorem WG.cl (m : Nat) : ∀ (ρ : XR) (j : Nat), WG B ρ j → WG B (r_cl m ρ j) (j + m) := by
  induction m with
  | zero => intro ρ j h; exact h
  | succ m ih =>
    intro ρ j h
    obtain ⟨h1, h2, h3, h4⟩ := h
    have hl := mn_le (r_q ρ 2 j) (r_s ρ 1)
    have hl2 := mn_le2 (r_q ρ 2 j) (r_s ρ 1)
    have q := ih (w_q ρ 2 j (mn (r_q ρ 2 j) (r_s ρ 1))) (j + 1) ⟨h1, fun d hd => by
        obtain ⟨y1, y2, y3, y4⟩ := h2 d hd
        refine ⟨?_, ?_, ?_, ?_⟩ <;> rw [rq_wq] <;> split <;> first | assumption | omega, fun d hd => by
        rw [rq_wq, rs_wq]
        split
        · exact hl2
        · exact h3 d (by omega), fun i hi => by rw [rq_wq, if_neg (by omega)]; exact h4 i hi⟩
    rw [show j + (m + 1) = j + 1 + m by omega]
    exact q
theorem wf_ask (hW : WFS B σ) (w v : Int32) : WFS B (sp_ask σ w v).2 := by
  obtain ⟨⟨w0, w1, w2, w3, w4, w5, w6, w7⟩, k2, k3, k4⟩ := id hW.1
  unfold sp_ask; repeat' split
  · exact hW
  · refine hW.now (Nat.le_refl _) ?_ (by rw [cl_s]; exact Nat.le_refl _)
    have q := WG.cl (B := B) (r_s (s_now σ) 0) (w_s (s_now σ) 1 v.toNatClampNeg) 0 ⟨⟨w0, by rw [rs_ws, if_pos rfl]; omega, by rw [rs_ws, if_pos rfl]; omega, w3, w4, w5, w6, w7⟩, k2, fun c hc => absurd hc (by omega), k4⟩
    rw [Nat.zero_add] at q
    obtain ⟨q1, q2, q3, q4⟩ := q
    exact ⟨q1, q2, fun c hc => q3 c (by rw [cl_s] at hc; exact hc), q4⟩
  · exact hW
  · refine hW.now (Nat.le_refl _) ⟨⟨w0, w1, w2, ?_, ?_, w5, w6, w7⟩, k2, k3, k4⟩ (Nat.le_refl _)
    · rw [rs_ws, if_pos rfl]; omega
    · rw [rs_ws, if_pos rfl]; omega
  · exact hW
  · refine hW.now (Nat.le_refl _) ⟨⟨w0, w1, w2, w3, w4, ?_, w6, w7⟩, k2, k3, k4⟩ (Nat.le_refl _)
    rw [rs_ws, if_pos rfl]; omega
  · exact hW
  · refine hW.now (Nat.le_refl _) ⟨⟨w0, w1, w2, w3, w4, w5, ?_, w7⟩, k2, k3, k4⟩ (Nat.le_refl _)
    rw [rs_ws, if_pos rfl]; omega
  · exact hW
end
