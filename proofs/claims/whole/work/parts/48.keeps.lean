/-! bounds are kept -/
section
variable {B B' : Nat} {σ : XS} {ρ : XR}
theorem WFS.rf (h : WFS B σ) (k : Nat) : WFS B (u_rf σ k) := h
theorem WF.mono (h : WF B ρ) (hb : B ≤ B') : WF B' ρ := ⟨h.1, fun c hc => ⟨(h.2.1 c hc).1, (h.2.1 c hc).2.1, (h.2.1 c hc).2.2.1, Nat.le_trans (h.2.1 c hc).2.2.2 hb⟩, h.2.2⟩
theorem WFS.mono (h : WFS B σ) (hb : B ≤ B') : WFS B' σ := ⟨h.1.mono hb, fun κ hκ => (h.2.1 κ hκ).mono hb, h.2.2⟩
theorem WFS.now (h : WFS B σ) (hb : B ≤ B') (hR : WF B' ρ) (h0 : r_s (s_now σ) 0 ≤ r_s ρ 0) : WFS B' (u_now σ ρ) :=
  ⟨hR, fun κ hκ => (h.2.1 κ hκ).mono hb, fun s hs => ⟨(h.2.2.1 s hs).1, (h.2.2.1 s hs).2.1, fun e => Nat.lt_of_lt_of_le ((h.2.2.1 s hs).2.2 e) h0⟩, h.2.2.2⟩
theorem WF.q2 (h : WF B ρ) (c v : Nat) (hv : v ≤ 200) (hn : v ≤ r_s ρ 1) : WF B (w_q ρ 2 c v) := by
  obtain ⟨h1, h2, h3, h4⟩ := h
  refine ⟨h1, fun d hd => ?_, fun d hd => ?_, fun i hi => ?_⟩
  · obtain ⟨y1, y2, y3, y4⟩ := h2 d hd
    refine ⟨?_, ?_, ?_, ?_⟩ <;> rw [rq_wq] <;> split <;> first | assumption | omega
  · rw [rq_wq]
    split
    · exact hn
    · exact h3 d hd
  · rw [rq_wq, if_neg (by omega)]; exact h4 i hi
theorem WF.q3 (h : WF B ρ) (c v : Nat) (hv : v ≤ B) : WF B (w_q ρ 3 c v) := by
  obtain ⟨h1, h2, h3, h4⟩ := h
  refine ⟨h1, fun d hd => ?_, fun d hd => ?_, fun i hi => ?_⟩
  · obtain ⟨y1, y2, y3, y4⟩ := h2 d hd
    refine ⟨?_, ?_, ?_, ?_⟩ <;> rw [rq_wq] <;> split <;> first | assumption | omega
  · rw [rq_wq, if_neg (by omega)]; exact h3 d hd
  · rw [rq_wq, if_neg (by omega)]; exact h4 i hi
theorem WF.q4 (h : WF B ρ) (c v : Nat) (hv : v ≤ 9999) : WF B (w_q ρ 4 c v) := by
  obtain ⟨h1, h2, h3, h4⟩ := h
  refine ⟨h1, fun d hd => ?_, fun d hd => ?_, fun i hi => ?_⟩
  · obtain ⟨y1, y2, y3, y4⟩ := h2 d hd
    refine ⟨?_, ?_, ?_, ?_⟩ <;> rw [rq_wq, if_neg (by omega)] <;> assumption
  · rw [rq_wq, if_neg (by omega)]; exact h3 d hd
  · rw [rq_wq]
    split
    · exact hv
    · exact h4 i hi
theorem WF.o (h : WF B ρ) (c : Nat) (v : Int32) : WF B (w_off ρ c v) := h
theorem WF.d (h : WF B ρ) (v : Int32) : WF B (w_done ρ v) := h
theorem WF.e (h : WF B ρ) (v : Int32) : WF B (w_seed ρ v) := h
theorem WF.s5 (h : WF B ρ) (v : Nat) (hv : v ≤ 8) : WF B (w_s ρ 5 v) := by
  obtain ⟨⟨w0, w1, w2, w3, w4, w5, w6, w7⟩, h2, h3, h4⟩ := h
  exact ⟨⟨w0, w1, w2, w3, w4, w5, w6, hv⟩, h2, h3, h4⟩
theorem WF.cnt (h : WF B ρ) (k : Nat) : WF B (r_cnt ρ k) := by
  have hn := h.1.2.2.1
  unfold r_cnt
  split
  · exact h
  · split
    · exact (h.q2 k _ (by omega) (by omega)).d _
    · exact h.q2 k _ (by omega) (by omega)
theorem cn_s (m : Nat) : ∀ (ρ : XR) (k j : Nat), r_s (r_cn m ρ k) j = r_s ρ j := by
  induction m with
  | zero => intro ρ k j; rfl
  | succ m ih => intro ρ k j; exact (ih (r_cnt ρ k) k j).trans (cnt_s ρ k j)
theorem WF.cn (m : Nat) : ∀ (ρ : XR) (k : Nat), WF B ρ → WF B (r_cn m ρ k) := by
  induction m with
  | zero => intro ρ k h; exact h
  | succ m ih => intro ρ k h; exact ih _ k (h.cnt k)
theorem wf_counterOf (hW : WFS B σ) (c w : Int32) : WFS B (sp_counterOf σ c w).2 := by
  unfold sp_counterOf; repeat' split
  all_goals exact hW
theorem wf_trace (hW : WFS B σ) (i : Int32) : WFS B (sp_trace σ i).2 := by
  unfold sp_trace; repeat' split
  all_goals exact hW
theorem wf_holds (hW : WFS B σ) (s : Int32) : WFS B (sp_holds σ s).2 := by
  unfold sp_holds; repeat' split
  all_goals exact hW
theorem wf_element (hW : WFS B σ) (s i : Int32) : WFS B (sp_element σ s i).2 := by
  unfold sp_element; repeat' split
  all_goals exact hW
theorem wf_back (hW : WFS B σ) (c : Int32) : WFS B (sp_back σ c).2 := by
  unfold sp_back; repeat' split
  all_goals exact hW
theorem wf_status (hW : WFS B σ) (v : Int32) : WFS B (sp_status σ v).2 := by
  unfold sp_status; repeat' split
  all_goals exact hW
theorem wf_says (hW : WFS B σ) (s t : Int32) : WFS B (sp_says σ s t).2 := by
  unfold sp_says; repeat' split
  all_goals exact hW
theorem wf_put (hW : WFS B σ) (c v : Int32) : WFS B (sp_put σ c v).2 := by
  have w2 := hW.1.1.2.2.1
  unfold sp_put; repeat' split
  · exact hW
  · exact hW
  · exact hW.now (Nat.le_refl _) (hW.1.q2 _ _ (by omega) (by omega)) (Nat.le_refl _)
theorem wf_tally (hW : WFS B σ) (v : Int32) : WFS B (sp_tally σ v).2 := by
  unfold sp_tally; repeat' split
  · exact hW
  · exact hW
  · exact hW.now (Nat.le_refl _) ((hW.1.q4 _ _ (by omega)).s5 _ (by omega)) (Nat.le_refl _)
theorem wf_forget (hW : WFS B σ) : WFS B (sp_forget σ).2 := hW.now (Nat.le_refl _) (hW.1.s5 _ (by omega)) (Nat.le_refl _)
theorem wf_seed (hW : WFS B σ) (v : Int32) : WFS B (sp_seed σ v).2 := hW.now (Nat.le_refl _) (hW.1.e _) (Nat.le_refl _)
theorem wf_again (hW : WFS B σ) (c : Int32) : WFS B (sp_again σ c).2 := by
  unfold sp_again; repeat' split
  · exact hW
  · exact hW.now (Nat.le_refl _) (((hW.1.q2 _ 0 (by omega) (by omega)).o _ _).q3 _ 0 (by omega)) (Nat.le_refl _)
theorem wf_asks (hW : WFS B σ) (c : Int32) : WFS (B + 400) (sp_asks σ c).2 := by
  unfold sp_asks; repeat' split
  · exact hW.mono (by omega)
  · exact hW.mono (by omega)
  · next h1 h2 =>
    obtain ⟨y1, y2, y3, y4⟩ := hW.1.2.1 c.toNatClampNeg (by have := hW.1.1.1; omega)
    have hf := lf_le (r_s (s_now σ) 2) (r_q (s_now σ) 0 c.toNatClampNeg) (r_q (s_now σ) 1 c.toNatClampNeg) (r_q (s_now σ) 2 c.toNatClampNeg) (r_q (s_now σ) 3 c.toNatClampNeg + 1)
    have hm : WF (B + 400) (s_now σ) := hW.1.mono (by omega)
    exact hW.now (by omega) (((hm.q3 _ _ (by omega)).q2 _ _ (by omega) (show _ ≤ r_s (s_now σ) 1 by omega)).o _ _) (Nat.le_refl _)
theorem wf_knits (hW : WFS B σ) (c v : Int32) : WFS B (sp_knits σ c v).2 := by
  unfold sp_knits; repeat' split
  · exact hW
  · exact hW
  · exact hW.now (Nat.le_refl _) (WF.cn _ _ _ hW.1) (by rw [cn_s]; exact Nat.le_refl _)
end
