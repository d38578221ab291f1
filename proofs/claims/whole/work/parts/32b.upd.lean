theorem rs_ws (ρ : XR) (k v j : Nat) : r_s (w_s ρ k v) j = if j = k then v else r_s ρ j := rfl
theorem rs_wq (ρ : XR) (f c v j : Nat) : r_s (w_q ρ f c v) j = r_s ρ j := rfl
theorem rs_wo (ρ : XR) (c j : Nat) (v : Int32) : r_s (w_off ρ c v) j = r_s ρ j := rfl
theorem rs_wd (ρ : XR) (j : Nat) (v : Int32) : r_s (w_done ρ v) j = r_s ρ j := rfl
theorem rs_we (ρ : XR) (j : Nat) (v : Int32) : r_s (w_seed ρ v) j = r_s ρ j := rfl
theorem rq_ws (ρ : XR) (k v f j : Nat) : r_q (w_s ρ k v) f j = r_q ρ f j := rfl
theorem rq_wq (ρ : XR) (f c v g j : Nat) : r_q (w_q ρ f c v) g j = if g = f ∧ j = c then v else r_q ρ g j := rfl
theorem rq_wo (ρ : XR) (c f j : Nat) (v : Int32) : r_q (w_off ρ c v) f j = r_q ρ f j := rfl
theorem rq_wd (ρ : XR) (f j : Nat) (v : Int32) : r_q (w_done ρ v) f j = r_q ρ f j := rfl
theorem rq_we (ρ : XR) (f j : Nat) (v : Int32) : r_q (w_seed ρ v) f j = r_q ρ f j := rfl
theorem ro_ws (ρ : XR) (k v j : Nat) : r_off (w_s ρ k v) j = r_off ρ j := rfl
theorem ro_wq (ρ : XR) (f c v j : Nat) : r_off (w_q ρ f c v) j = r_off ρ j := rfl
theorem ro_wo (ρ : XR) (c j : Nat) (v : Int32) : r_off (w_off ρ c v) j = if j = c then v else r_off ρ j := rfl
theorem ro_wd (ρ : XR) (j : Nat) (v : Int32) : r_off (w_done ρ v) j = r_off ρ j := rfl
theorem ro_we (ρ : XR) (j : Nat) (v : Int32) : r_off (w_seed ρ v) j = r_off ρ j := rfl
theorem rd_ws (ρ : XR) (k v : Nat) : r_done (w_s ρ k v) = r_done ρ := rfl
theorem rd_wq (ρ : XR) (f c v : Nat) : r_done (w_q ρ f c v) = r_done ρ := rfl
theorem rd_wo (ρ : XR) (c : Nat) (v : Int32) : r_done (w_off ρ c v) = r_done ρ := rfl
theorem rd_wd (ρ : XR) (v : Int32) : r_done (w_done ρ v) = v := rfl
theorem rd_we (ρ : XR) (v : Int32) : r_done (w_seed ρ v) = r_done ρ := rfl
theorem re_ws (ρ : XR) (k v : Nat) : r_seed (w_s ρ k v) = r_seed ρ := rfl
theorem re_wq (ρ : XR) (f c v : Nat) : r_seed (w_q ρ f c v) = r_seed ρ := rfl
theorem re_wo (ρ : XR) (c : Nat) (v : Int32) : r_seed (w_off ρ c v) = r_seed ρ := rfl
theorem re_wd (ρ : XR) (v : Int32) : r_seed (w_done ρ v) = r_seed ρ := rfl
theorem re_we (ρ : XR) (v : Int32) : r_seed (w_seed ρ v) = v := rfl
theorem CR.s0 {r : Nat} {ρ : XR} {M : XM} (h : CR r ρ M) (v : Nat) : CR r (w_s ρ 0 v) (x_wi M r 1 (nI v)) := by
  obtain ⟨⟨h1, h2, h3, h4, h5, h6, h7, h8⟩, hc, ht⟩ := h
  refine ⟨⟨?_, ?_, ?_, ?_, ?_, ?_, ?_, ?_⟩, fun d hd => ?_, fun i hi => ?_⟩
  · rw [ii_wi, if_pos ⟨rfl, rfl⟩, rs_ws, if_pos rfl]
  · rw [ii_wi, if_neg (by omega), rs_ws, if_neg (by omega)]; exact h2
  · rw [ii_wi, if_neg (by omega), rs_ws, if_neg (by omega)]; exact h3
  · rw [ii_wi, if_neg (by omega), rs_ws, if_neg (by omega)]; exact h4
  · rw [ii_wi, if_neg (by omega), rs_ws, if_neg (by omega)]; exact h5
  · rw [ii_wi, if_neg (by omega), rs_ws, if_neg (by omega)]; exact h6
  · rw [ii_wi, if_neg (by omega), rd_ws]; exact h7
  · rw [ii_wi, if_neg (by omega), re_ws]; exact h8
  · obtain ⟨q1, q2, q3, q4, q5⟩ := hc d hd
    refine ⟨?_, ?_, ?_, ?_, ?_⟩
    · rw [ii_wi, if_neg (by omega), rq_ws]; exact q1
    · rw [ii_wi, if_neg (by omega), rq_ws]; exact q2
    · rw [ii_wi, if_neg (by omega), rq_ws]; exact q3
    · rw [ii_wi, if_neg (by omega), ro_ws]; exact q4
    · rw [ii_wi, if_neg (by omega), rq_ws]; exact q5
  · rw [ii_wi, if_neg (by omega), rq_ws]; exact ht i hi

theorem MR.s0 {ρ : XR} {M : XM} (h : MR ρ M) (v : Nat) : MR (w_s ρ 0 v) (x_wi M 83 0 (nI v)) := by
  obtain ⟨⟨h1, h2, h3, h4, h5, h6, h7, h8⟩, hc, ht⟩ := h
  refine ⟨⟨?_, ?_, ?_, ?_, ?_, ?_, ?_, ?_⟩, fun d hd => ?_, fun i hi => ?_⟩
  · rw [ii_wi, if_pos ⟨rfl, rfl⟩, rs_ws, if_pos rfl]
  · rw [ii_wi, if_neg (by omega), rs_ws, if_neg (by omega)]; exact h2
  · rw [ii_wi, if_neg (by omega), rs_ws, if_neg (by omega)]; exact h3
  · rw [ii_wi, if_neg (by omega), rs_ws, if_neg (by omega)]; exact h4
  · rw [ii_wi, if_neg (by omega), rs_ws, if_neg (by omega)]; exact h5
  · rw [ii_wi, if_neg (by omega), rs_ws, if_neg (by omega)]; exact h6
  · rw [ii_wi, if_neg (by omega), rd_ws]; exact h7
  · rw [ii_wi, if_neg (by omega), re_ws]; exact h8
  · obtain ⟨q1, q2, q3, q4, q5⟩ := hc d hd
    refine ⟨?_, ?_, ?_, ?_, ?_⟩
    · rw [ii_wi, if_neg (by omega), rq_ws]; exact q1
    · rw [ii_wi, if_neg (by omega), rq_ws]; exact q2
    · rw [ii_wi, if_neg (by omega), rq_ws]; exact q3
    · rw [ii_wi, if_neg (by omega), ro_ws]; exact q4
    · rw [ii_wi, if_neg (by omega), rq_ws]; exact q5
  · rw [ii_wi, if_neg (by omega), rq_ws]; exact ht i hi

theorem CR.s1 {r : Nat} {ρ : XR} {M : XM} (h : CR r ρ M) (v : Nat) : CR r (w_s ρ 1 v) (x_wi M r 2 (nI v)) := by
  obtain ⟨⟨h1, h2, h3, h4, h5, h6, h7, h8⟩, hc, ht⟩ := h
  refine ⟨⟨?_, ?_, ?_, ?_, ?_, ?_, ?_, ?_⟩, fun d hd => ?_, fun i hi => ?_⟩
  · rw [ii_wi, if_neg (by omega), rs_ws, if_neg (by omega)]; exact h1
  · rw [ii_wi, if_pos ⟨rfl, rfl⟩, rs_ws, if_pos rfl]
  · rw [ii_wi, if_neg (by omega), rs_ws, if_neg (by omega)]; exact h3
  · rw [ii_wi, if_neg (by omega), rs_ws, if_neg (by omega)]; exact h4
  · rw [ii_wi, if_neg (by omega), rs_ws, if_neg (by omega)]; exact h5
  · rw [ii_wi, if_neg (by omega), rs_ws, if_neg (by omega)]; exact h6
  · rw [ii_wi, if_neg (by omega), rd_ws]; exact h7
  · rw [ii_wi, if_neg (by omega), re_ws]; exact h8
  · obtain ⟨q1, q2, q3, q4, q5⟩ := hc d hd
    refine ⟨?_, ?_, ?_, ?_, ?_⟩
    · rw [ii_wi, if_neg (by omega), rq_ws]; exact q1
    · rw [ii_wi, if_neg (by omega), rq_ws]; exact q2
    · rw [ii_wi, if_neg (by omega), rq_ws]; exact q3
    · rw [ii_wi, if_neg (by omega), ro_ws]; exact q4
    · rw [ii_wi, if_neg (by omega), rq_ws]; exact q5
  · rw [ii_wi, if_neg (by omega), rq_ws]; exact ht i hi

theorem MR.s1 {ρ : XR} {M : XM} (h : MR ρ M) (v : Nat) : MR (w_s ρ 1 v) (x_wi M 83 1 (nI v)) := by
  obtain ⟨⟨h1, h2, h3, h4, h5, h6, h7, h8⟩, hc, ht⟩ := h
  refine ⟨⟨?_, ?_, ?_, ?_, ?_, ?_, ?_, ?_⟩, fun d hd => ?_, fun i hi => ?_⟩
  · rw [ii_wi, if_neg (by omega), rs_ws, if_neg (by omega)]; exact h1
  · rw [ii_wi, if_pos ⟨rfl, rfl⟩, rs_ws, if_pos rfl]
  · rw [ii_wi, if_neg (by omega), rs_ws, if_neg (by omega)]; exact h3
  · rw [ii_wi, if_neg (by omega), rs_ws, if_neg (by omega)]; exact h4
  · rw [ii_wi, if_neg (by omega), rs_ws, if_neg (by omega)]; exact h5
  · rw [ii_wi, if_neg (by omega), rs_ws, if_neg (by omega)]; exact h6
  · rw [ii_wi, if_neg (by omega), rd_ws]; exact h7
  · rw [ii_wi, if_neg (by omega), re_ws]; exact h8
  · obtain ⟨q1, q2, q3, q4, q5⟩ := hc d hd
    refine ⟨?_, ?_, ?_, ?_, ?_⟩
    · rw [ii_wi, if_neg (by omega), rq_ws]; exact q1
    · rw [ii_wi, if_neg (by omega), rq_ws]; exact q2
    · rw [ii_wi, if_neg (by omega), rq_ws]; exact q3
    · rw [ii_wi, if_neg (by omega), ro_ws]; exact q4
    · rw [ii_wi, if_neg (by omega), rq_ws]; exact q5
  · rw [ii_wi, if_neg (by omega), rq_ws]; exact ht i hi

theorem CR.s2 {r : Nat} {ρ : XR} {M : XM} (h : CR r ρ M) (v : Nat) : CR r (w_s ρ 2 v) (x_wi M r 3 (nI v)) := by
  obtain ⟨⟨h1, h2, h3, h4, h5, h6, h7, h8⟩, hc, ht⟩ := h
  refine ⟨⟨?_, ?_, ?_, ?_, ?_, ?_, ?_, ?_⟩, fun d hd => ?_, fun i hi => ?_⟩
  · rw [ii_wi, if_neg (by omega), rs_ws, if_neg (by omega)]; exact h1
  · rw [ii_wi, if_neg (by omega), rs_ws, if_neg (by omega)]; exact h2
  · rw [ii_wi, if_pos ⟨rfl, rfl⟩, rs_ws, if_pos rfl]
  · rw [ii_wi, if_neg (by omega), rs_ws, if_neg (by omega)]; exact h4
  · rw [ii_wi, if_neg (by omega), rs_ws, if_neg (by omega)]; exact h5
  · rw [ii_wi, if_neg (by omega), rs_ws, if_neg (by omega)]; exact h6
  · rw [ii_wi, if_neg (by omega), rd_ws]; exact h7
  · rw [ii_wi, if_neg (by omega), re_ws]; exact h8
  · obtain ⟨q1, q2, q3, q4, q5⟩ := hc d hd
    refine ⟨?_, ?_, ?_, ?_, ?_⟩
    · rw [ii_wi, if_neg (by omega), rq_ws]; exact q1
    · rw [ii_wi, if_neg (by omega), rq_ws]; exact q2
    · rw [ii_wi, if_neg (by omega), rq_ws]; exact q3
    · rw [ii_wi, if_neg (by omega), ro_ws]; exact q4
    · rw [ii_wi, if_neg (by omega), rq_ws]; exact q5
  · rw [ii_wi, if_neg (by omega), rq_ws]; exact ht i hi

theorem MR.s2 {ρ : XR} {M : XM} (h : MR ρ M) (v : Nat) : MR (w_s ρ 2 v) (x_wi M 83 2 (nI v)) := by
  obtain ⟨⟨h1, h2, h3, h4, h5, h6, h7, h8⟩, hc, ht⟩ := h
  refine ⟨⟨?_, ?_, ?_, ?_, ?_, ?_, ?_, ?_⟩, fun d hd => ?_, fun i hi => ?_⟩
  · rw [ii_wi, if_neg (by omega), rs_ws, if_neg (by omega)]; exact h1
  · rw [ii_wi, if_neg (by omega), rs_ws, if_neg (by omega)]; exact h2
  · rw [ii_wi, if_pos ⟨rfl, rfl⟩, rs_ws, if_pos rfl]
  · rw [ii_wi, if_neg (by omega), rs_ws, if_neg (by omega)]; exact h4
  · rw [ii_wi, if_neg (by omega), rs_ws, if_neg (by omega)]; exact h5
  · rw [ii_wi, if_neg (by omega), rs_ws, if_neg (by omega)]; exact h6
  · rw [ii_wi, if_neg (by omega), rd_ws]; exact h7
  · rw [ii_wi, if_neg (by omega), re_ws]; exact h8
  · obtain ⟨q1, q2, q3, q4, q5⟩ := hc d hd
    refine ⟨?_, ?_, ?_, ?_, ?_⟩
    · rw [ii_wi, if_neg (by omega), rq_ws]; exact q1
    · rw [ii_wi, if_neg (by omega), rq_ws]; exact q2
    · rw [ii_wi, if_neg (by omega), rq_ws]; exact q3
    · rw [ii_wi, if_neg (by omega), ro_ws]; exact q4
    · rw [ii_wi, if_neg (by omega), rq_ws]; exact q5
  · rw [ii_wi, if_neg (by omega), rq_ws]; exact ht i hi

theorem CR.s3 {r : Nat} {ρ : XR} {M : XM} (h : CR r ρ M) (v : Nat) : CR r (w_s ρ 3 v) (x_wi M r 4 (nI v)) := by
  obtain ⟨⟨h1, h2, h3, h4, h5, h6, h7, h8⟩, hc, ht⟩ := h
  refine ⟨⟨?_, ?_, ?_, ?_, ?_, ?_, ?_, ?_⟩, fun d hd => ?_, fun i hi => ?_⟩
  · rw [ii_wi, if_neg (by omega), rs_ws, if_neg (by omega)]; exact h1
  · rw [ii_wi, if_neg (by omega), rs_ws, if_neg (by omega)]; exact h2
  · rw [ii_wi, if_neg (by omega), rs_ws, if_neg (by omega)]; exact h3
  · rw [ii_wi, if_pos ⟨rfl, rfl⟩, rs_ws, if_pos rfl]
  · rw [ii_wi, if_neg (by omega), rs_ws, if_neg (by omega)]; exact h5
  · rw [ii_wi, if_neg (by omega), rs_ws, if_neg (by omega)]; exact h6
  · rw [ii_wi, if_neg (by omega), rd_ws]; exact h7
  · rw [ii_wi, if_neg (by omega), re_ws]; exact h8
  · obtain ⟨q1, q2, q3, q4, q5⟩ := hc d hd
    refine ⟨?_, ?_, ?_, ?_, ?_⟩
    · rw [ii_wi, if_neg (by omega), rq_ws]; exact q1
    · rw [ii_wi, if_neg (by omega), rq_ws]; exact q2
    · rw [ii_wi, if_neg (by omega), rq_ws]; exact q3
    · rw [ii_wi, if_neg (by omega), ro_ws]; exact q4
    · rw [ii_wi, if_neg (by omega), rq_ws]; exact q5
  · rw [ii_wi, if_neg (by omega), rq_ws]; exact ht i hi

theorem MR.s3 {ρ : XR} {M : XM} (h : MR ρ M) (v : Nat) : MR (w_s ρ 3 v) (x_wi M 83 3 (nI v)) := by
  obtain ⟨⟨h1, h2, h3, h4, h5, h6, h7, h8⟩, hc, ht⟩ := h
  refine ⟨⟨?_, ?_, ?_, ?_, ?_, ?_, ?_, ?_⟩, fun d hd => ?_, fun i hi => ?_⟩
  · rw [ii_wi, if_neg (by omega), rs_ws, if_neg (by omega)]; exact h1
  · rw [ii_wi, if_neg (by omega), rs_ws, if_neg (by omega)]; exact h2
  · rw [ii_wi, if_neg (by omega), rs_ws, if_neg (by omega)]; exact h3
  · rw [ii_wi, if_pos ⟨rfl, rfl⟩, rs_ws, if_pos rfl]
  · rw [ii_wi, if_neg (by omega), rs_ws, if_neg (by omega)]; exact h5
  · rw [ii_wi, if_neg (by omega), rs_ws, if_neg (by omega)]; exact h6
  · rw [ii_wi, if_neg (by omega), rd_ws]; exact h7
  · rw [ii_wi, if_neg (by omega), re_ws]; exact h8
  · obtain ⟨q1, q2, q3, q4, q5⟩ := hc d hd
    refine ⟨?_, ?_, ?_, ?_, ?_⟩
    · rw [ii_wi, if_neg (by omega), rq_ws]; exact q1
    · rw [ii_wi, if_neg (by omega), rq_ws]; exact q2
    · rw [ii_wi, if_neg (by omega), rq_ws]; exact q3
    · rw [ii_wi, if_neg (by omega), ro_ws]; exact q4
    · rw [ii_wi, if_neg (by omega), rq_ws]; exact q5
  · rw [ii_wi, if_neg (by omega), rq_ws]; exact ht i hi

theorem CR.s4 {r : Nat} {ρ : XR} {M : XM} (h : CR r ρ M) (v : Nat) : CR r (w_s ρ 4 v) (x_wi M r 5 (nI v)) := by
  obtain ⟨⟨h1, h2, h3, h4, h5, h6, h7, h8⟩, hc, ht⟩ := h
  refine ⟨⟨?_, ?_, ?_, ?_, ?_, ?_, ?_, ?_⟩, fun d hd => ?_, fun i hi => ?_⟩
  · rw [ii_wi, if_neg (by omega), rs_ws, if_neg (by omega)]; exact h1
  · rw [ii_wi, if_neg (by omega), rs_ws, if_neg (by omega)]; exact h2
  · rw [ii_wi, if_neg (by omega), rs_ws, if_neg (by omega)]; exact h3
  · rw [ii_wi, if_neg (by omega), rs_ws, if_neg (by omega)]; exact h4
  · rw [ii_wi, if_pos ⟨rfl, rfl⟩, rs_ws, if_pos rfl]
  · rw [ii_wi, if_neg (by omega), rs_ws, if_neg (by omega)]; exact h6
  · rw [ii_wi, if_neg (by omega), rd_ws]; exact h7
  · rw [ii_wi, if_neg (by omega), re_ws]; exact h8
  · obtain ⟨q1, q2, q3, q4, q5⟩ := hc d hd
    refine ⟨?_, ?_, ?_, ?_, ?_⟩
    · rw [ii_wi, if_neg (by omega), rq_ws]; exact q1
    · rw [ii_wi, if_neg (by omega), rq_ws]; exact q2
    · rw [ii_wi, if_neg (by omega), rq_ws]; exact q3
    · rw [ii_wi, if_neg (by omega), ro_ws]; exact q4
    · rw [ii_wi, if_neg (by omega), rq_ws]; exact q5
  · rw [ii_wi, if_neg (by omega), rq_ws]; exact ht i hi

theorem MR.s4 {ρ : XR} {M : XM} (h : MR ρ M) (v : Nat) : MR (w_s ρ 4 v) (x_wi M 83 4 (nI v)) := by
  obtain ⟨⟨h1, h2, h3, h4, h5, h6, h7, h8⟩, hc, ht⟩ := h
  refine ⟨⟨?_, ?_, ?_, ?_, ?_, ?_, ?_, ?_⟩, fun d hd => ?_, fun i hi => ?_⟩
  · rw [ii_wi, if_neg (by omega), rs_ws, if_neg (by omega)]; exact h1
  · rw [ii_wi, if_neg (by omega), rs_ws, if_neg (by omega)]; exact h2
  · rw [ii_wi, if_neg (by omega), rs_ws, if_neg (by omega)]; exact h3
  · rw [ii_wi, if_neg (by omega), rs_ws, if_neg (by omega)]; exact h4
  · rw [ii_wi, if_pos ⟨rfl, rfl⟩, rs_ws, if_pos rfl]
  · rw [ii_wi, if_neg (by omega), rs_ws, if_neg (by omega)]; exact h6
  · rw [ii_wi, if_neg (by omega), rd_ws]; exact h7
  · rw [ii_wi, if_neg (by omega), re_ws]; exact h8
  · obtain ⟨q1, q2, q3, q4, q5⟩ := hc d hd
    refine ⟨?_, ?_, ?_, ?_, ?_⟩
    · rw [ii_wi, if_neg (by omega), rq_ws]; exact q1
    · rw [ii_wi, if_neg (by omega), rq_ws]; exact q2
    · rw [ii_wi, if_neg (by omega), rq_ws]; exact q3
    · rw [ii_wi, if_neg (by omega), ro_ws]; exact q4
    · rw [ii_wi, if_neg (by omega), rq_ws]; exact q5
  · rw [ii_wi, if_neg (by omega), rq_ws]; exact ht i hi

theorem CR.s5 {r : Nat} {ρ : XR} {M : XM} (h : CR r ρ M) (v : Nat) : CR r (w_s ρ 5 v) (x_wi M r 7 (nI v)) := by
  obtain ⟨⟨h1, h2, h3, h4, h5, h6, h7, h8⟩, hc, ht⟩ := h
  refine ⟨⟨?_, ?_, ?_, ?_, ?_, ?_, ?_, ?_⟩, fun d hd => ?_, fun i hi => ?_⟩
  · rw [ii_wi, if_neg (by omega), rs_ws, if_neg (by omega)]; exact h1
  · rw [ii_wi, if_neg (by omega), rs_ws, if_neg (by omega)]; exact h2
  · rw [ii_wi, if_neg (by omega), rs_ws, if_neg (by omega)]; exact h3
  · rw [ii_wi, if_neg (by omega), rs_ws, if_neg (by omega)]; exact h4
  · rw [ii_wi, if_neg (by omega), rs_ws, if_neg (by omega)]; exact h5
  · rw [ii_wi, if_pos ⟨rfl, rfl⟩, rs_ws, if_pos rfl]
  · rw [ii_wi, if_neg (by omega), rd_ws]; exact h7
  · rw [ii_wi, if_neg (by omega), re_ws]; exact h8
  · obtain ⟨q1, q2, q3, q4, q5⟩ := hc d hd
    refine ⟨?_, ?_, ?_, ?_, ?_⟩
    · rw [ii_wi, if_neg (by omega), rq_ws]; exact q1
    · rw [ii_wi, if_neg (by omega), rq_ws]; exact q2
    · rw [ii_wi, if_neg (by omega), rq_ws]; exact q3
    · rw [ii_wi, if_neg (by omega), ro_ws]; exact q4
    · rw [ii_wi, if_neg (by omega), rq_ws]; exact q5
  · rw [ii_wi, if_neg (by omega), rq_ws]; exact ht i hi

theorem MR.s5 {ρ : XR} {M : XM} (h : MR ρ M) (v : Nat) : MR (w_s ρ 5 v) (x_wi M 83 6 (nI v)) := by
  obtain ⟨⟨h1, h2, h3, h4, h5, h6, h7, h8⟩, hc, ht⟩ := h
  refine ⟨⟨?_, ?_, ?_, ?_, ?_, ?_, ?_, ?_⟩, fun d hd => ?_, fun i hi => ?_⟩
  · rw [ii_wi, if_neg (by omega), rs_ws, if_neg (by omega)]; exact h1
  · rw [ii_wi, if_neg (by omega), rs_ws, if_neg (by omega)]; exact h2
  · rw [ii_wi, if_neg (by omega), rs_ws, if_neg (by omega)]; exact h3
  · rw [ii_wi, if_neg (by omega), rs_ws, if_neg (by omega)]; exact h4
  · rw [ii_wi, if_neg (by omega), rs_ws, if_neg (by omega)]; exact h5
  · rw [ii_wi, if_pos ⟨rfl, rfl⟩, rs_ws, if_pos rfl]
  · rw [ii_wi, if_neg (by omega), rd_ws]; exact h7
  · rw [ii_wi, if_neg (by omega), re_ws]; exact h8
  · obtain ⟨q1, q2, q3, q4, q5⟩ := hc d hd
    refine ⟨?_, ?_, ?_, ?_, ?_⟩
    · rw [ii_wi, if_neg (by omega), rq_ws]; exact q1
    · rw [ii_wi, if_neg (by omega), rq_ws]; exact q2
    · rw [ii_wi, if_neg (by omega), rq_ws]; exact q3
    · rw [ii_wi, if_neg (by omega), ro_ws]; exact q4
    · rw [ii_wi, if_neg (by omega), rq_ws]; exact q5
  · rw [ii_wi, if_neg (by omega), rq_ws]; exact ht i hi

theorem CR.d {r : Nat} {ρ : XR} {M : XM} (h : CR r ρ M) (v : Int32) : CR r (w_done ρ v) (x_wi M r 8 v) := by
  obtain ⟨⟨h1, h2, h3, h4, h5, h6, h7, h8⟩, hc, ht⟩ := h
  refine ⟨⟨?_, ?_, ?_, ?_, ?_, ?_, ?_, ?_⟩, fun d hd => ?_, fun i hi => ?_⟩
  · rw [ii_wi, if_neg (by omega), rs_wd]; exact h1
  · rw [ii_wi, if_neg (by omega), rs_wd]; exact h2
  · rw [ii_wi, if_neg (by omega), rs_wd]; exact h3
  · rw [ii_wi, if_neg (by omega), rs_wd]; exact h4
  · rw [ii_wi, if_neg (by omega), rs_wd]; exact h5
  · rw [ii_wi, if_neg (by omega), rs_wd]; exact h6
  · rw [ii_wi, if_pos ⟨rfl, rfl⟩, rd_wd]
  · rw [ii_wi, if_neg (by omega), re_wd]; exact h8
  · obtain ⟨q1, q2, q3, q4, q5⟩ := hc d hd
    refine ⟨?_, ?_, ?_, ?_, ?_⟩
    · rw [ii_wi, if_neg (by omega), rq_wd]; exact q1
    · rw [ii_wi, if_neg (by omega), rq_wd]; exact q2
    · rw [ii_wi, if_neg (by omega), rq_wd]; exact q3
    · rw [ii_wi, if_neg (by omega), ro_wd]; exact q4
    · rw [ii_wi, if_neg (by omega), rq_wd]; exact q5
  · rw [ii_wi, if_neg (by omega), rq_wd]; exact ht i hi

theorem MR.d {ρ : XR} {M : XM} (h : MR ρ M) (v : Int32) : MR (w_done ρ v) (x_wi M 83 5 v) := by
  obtain ⟨⟨h1, h2, h3, h4, h5, h6, h7, h8⟩, hc, ht⟩ := h
  refine ⟨⟨?_, ?_, ?_, ?_, ?_, ?_, ?_, ?_⟩, fun d hd => ?_, fun i hi => ?_⟩
  · rw [ii_wi, if_neg (by omega), rs_wd]; exact h1
  · rw [ii_wi, if_neg (by omega), rs_wd]; exact h2
  · rw [ii_wi, if_neg (by omega), rs_wd]; exact h3
  · rw [ii_wi, if_neg (by omega), rs_wd]; exact h4
  · rw [ii_wi, if_neg (by omega), rs_wd]; exact h5
  · rw [ii_wi, if_neg (by omega), rs_wd]; exact h6
  · rw [ii_wi, if_pos ⟨rfl, rfl⟩, rd_wd]
  · rw [ii_wi, if_neg (by omega), re_wd]; exact h8
  · obtain ⟨q1, q2, q3, q4, q5⟩ := hc d hd
    refine ⟨?_, ?_, ?_, ?_, ?_⟩
    · rw [ii_wi, if_neg (by omega), rq_wd]; exact q1
    · rw [ii_wi, if_neg (by omega), rq_wd]; exact q2
    · rw [ii_wi, if_neg (by omega), rq_wd]; exact q3
    · rw [ii_wi, if_neg (by omega), ro_wd]; exact q4
    · rw [ii_wi, if_neg (by omega), rq_wd]; exact q5
  · rw [ii_wi, if_neg (by omega), rq_wd]; exact ht i hi

theorem CR.e {r : Nat} {ρ : XR} {M : XM} (h : CR r ρ M) (v : Int32) : CR r (w_seed ρ v) (x_wi M r 9 v) := by
  obtain ⟨⟨h1, h2, h3, h4, h5, h6, h7, h8⟩, hc, ht⟩ := h
  refine ⟨⟨?_, ?_, ?_, ?_, ?_, ?_, ?_, ?_⟩, fun d hd => ?_, fun i hi => ?_⟩
  · rw [ii_wi, if_neg (by omega), rs_we]; exact h1
  · rw [ii_wi, if_neg (by omega), rs_we]; exact h2
  · rw [ii_wi, if_neg (by omega), rs_we]; exact h3
  · rw [ii_wi, if_neg (by omega), rs_we]; exact h4
  · rw [ii_wi, if_neg (by omega), rs_we]; exact h5
  · rw [ii_wi, if_neg (by omega), rs_we]; exact h6
  · rw [ii_wi, if_neg (by omega), rd_we]; exact h7
  · rw [ii_wi, if_pos ⟨rfl, rfl⟩, re_we]
  · obtain ⟨q1, q2, q3, q4, q5⟩ := hc d hd
    refine ⟨?_, ?_, ?_, ?_, ?_⟩
    · rw [ii_wi, if_neg (by omega), rq_we]; exact q1
    · rw [ii_wi, if_neg (by omega), rq_we]; exact q2
    · rw [ii_wi, if_neg (by omega), rq_we]; exact q3
    · rw [ii_wi, if_neg (by omega), ro_we]; exact q4
    · rw [ii_wi, if_neg (by omega), rq_we]; exact q5
  · rw [ii_wi, if_neg (by omega), rq_we]; exact ht i hi

theorem MR.e {ρ : XR} {M : XM} (h : MR ρ M) (v : Int32) : MR (w_seed ρ v) (x_wi M 83 7 v) := by
  obtain ⟨⟨h1, h2, h3, h4, h5, h6, h7, h8⟩, hc, ht⟩ := h
  refine ⟨⟨?_, ?_, ?_, ?_, ?_, ?_, ?_, ?_⟩, fun d hd => ?_, fun i hi => ?_⟩
  · rw [ii_wi, if_neg (by omega), rs_we]; exact h1
  · rw [ii_wi, if_neg (by omega), rs_we]; exact h2
  · rw [ii_wi, if_neg (by omega), rs_we]; exact h3
  · rw [ii_wi, if_neg (by omega), rs_we]; exact h4
  · rw [ii_wi, if_neg (by omega), rs_we]; exact h5
  · rw [ii_wi, if_neg (by omega), rs_we]; exact h6
  · rw [ii_wi, if_neg (by omega), rd_we]; exact h7
  · rw [ii_wi, if_pos ⟨rfl, rfl⟩, re_we]
  · obtain ⟨q1, q2, q3, q4, q5⟩ := hc d hd
    refine ⟨?_, ?_, ?_, ?_, ?_⟩
    · rw [ii_wi, if_neg (by omega), rq_we]; exact q1
    · rw [ii_wi, if_neg (by omega), rq_we]; exact q2
    · rw [ii_wi, if_neg (by omega), rq_we]; exact q3
    · rw [ii_wi, if_neg (by omega), ro_we]; exact q4
    · rw [ii_wi, if_neg (by omega), rq_we]; exact q5
  · rw [ii_wi, if_neg (by omega), rq_we]; exact ht i hi

theorem CR.q0 {r : Nat} {ρ : XR} {M : XM} (h : CR r ρ M) (c v : Nat) (hcc : c < 6) : CR r (w_q ρ 0 c v) (x_wi M (r + 3 + c) 0 (nI v)) := by
  obtain ⟨⟨h1, h2, h3, h4, h5, h6, h7, h8⟩, hc, ht⟩ := h
  refine ⟨⟨?_, ?_, ?_, ?_, ?_, ?_, ?_, ?_⟩, fun d hd => ?_, fun i hi => ?_⟩
  · rw [ii_wi, if_neg (by omega), rs_wq]; exact h1
  · rw [ii_wi, if_neg (by omega), rs_wq]; exact h2
  · rw [ii_wi, if_neg (by omega), rs_wq]; exact h3
  · rw [ii_wi, if_neg (by omega), rs_wq]; exact h4
  · rw [ii_wi, if_neg (by omega), rs_wq]; exact h5
  · rw [ii_wi, if_neg (by omega), rs_wq]; exact h6
  · rw [ii_wi, if_neg (by omega), rd_wq]; exact h7
  · rw [ii_wi, if_neg (by omega), re_wq]; exact h8
  · obtain ⟨q1, q2, q3, q4, q5⟩ := hc d hd
    refine ⟨?_, ?_, ?_, ?_, ?_⟩
    · by_cases hdc : d = c
      · subst hdc
        rw [ii_wi, if_pos ⟨rfl, rfl⟩, rq_wq, if_pos ⟨rfl, rfl⟩]
      · rw [ii_wi, if_neg (by omega), rq_wq, if_neg (fun z => hdc z.2)]; exact q1
    · rw [ii_wi, if_neg (by omega), rq_wq, if_neg (by omega)]; exact q2
    · rw [ii_wi, if_neg (by omega), rq_wq, if_neg (by omega)]; exact q3
    · rw [ii_wi, if_neg (by omega), ro_wq]; exact q4
    · rw [ii_wi, if_neg (by omega), rq_wq, if_neg (by omega)]; exact q5
  · rw [ii_wi, if_neg (by omega), rq_wq, if_neg (by omega)]; exact ht i hi

theorem MR.q0 {ρ : XR} {M : XM} (h : MR ρ M) (c v : Nat) : MR (w_q ρ 0 c v) (x_wi M 85 c (nI v)) := by
  obtain ⟨⟨h1, h2, h3, h4, h5, h6, h7, h8⟩, hc, ht⟩ := h
  refine ⟨⟨?_, ?_, ?_, ?_, ?_, ?_, ?_, ?_⟩, fun d hd => ?_, fun i hi => ?_⟩
  · rw [ii_wi, if_neg (by omega), rs_wq]; exact h1
  · rw [ii_wi, if_neg (by omega), rs_wq]; exact h2
  · rw [ii_wi, if_neg (by omega), rs_wq]; exact h3
  · rw [ii_wi, if_neg (by omega), rs_wq]; exact h4
  · rw [ii_wi, if_neg (by omega), rs_wq]; exact h5
  · rw [ii_wi, if_neg (by omega), rs_wq]; exact h6
  · rw [ii_wi, if_neg (by omega), rd_wq]; exact h7
  · rw [ii_wi, if_neg (by omega), re_wq]; exact h8
  · obtain ⟨q1, q2, q3, q4, q5⟩ := hc d hd
    refine ⟨?_, ?_, ?_, ?_, ?_⟩
    · by_cases hdc : d = c
      · subst hdc
        rw [ii_wi, if_pos ⟨rfl, rfl⟩, rq_wq, if_pos ⟨rfl, rfl⟩]
      · rw [ii_wi, if_neg (by omega), rq_wq, if_neg (fun z => hdc z.2)]; exact q1
    · rw [ii_wi, if_neg (by omega), rq_wq, if_neg (by omega)]; exact q2
    · rw [ii_wi, if_neg (by omega), rq_wq, if_neg (by omega)]; exact q3
    · rw [ii_wi, if_neg (by omega), ro_wq]; exact q4
    · rw [ii_wi, if_neg (by omega), rq_wq, if_neg (by omega)]; exact q5
  · rw [ii_wi, if_neg (by omega), rq_wq, if_neg (by omega)]; exact ht i hi

theorem CR.q1 {r : Nat} {ρ : XR} {M : XM} (h : CR r ρ M) (c v : Nat) (hcc : c < 6) : CR r (w_q ρ 1 c v) (x_wi M (r + 3 + c) 1 (nI v)) := by
  obtain ⟨⟨h1, h2, h3, h4, h5, h6, h7, h8⟩, hc, ht⟩ := h
  refine ⟨⟨?_, ?_, ?_, ?_, ?_, ?_, ?_, ?_⟩, fun d hd => ?_, fun i hi => ?_⟩
  · rw [ii_wi, if_neg (by omega), rs_wq]; exact h1
  · rw [ii_wi, if_neg (by omega), rs_wq]; exact h2
  · rw [ii_wi, if_neg (by omega), rs_wq]; exact h3
  · rw [ii_wi, if_neg (by omega), rs_wq]; exact h4
  · rw [ii_wi, if_neg (by omega), rs_wq]; exact h5
  · rw [ii_wi, if_neg (by omega), rs_wq]; exact h6
  · rw [ii_wi, if_neg (by omega), rd_wq]; exact h7
  · rw [ii_wi, if_neg (by omega), re_wq]; exact h8
  · obtain ⟨q1, q2, q3, q4, q5⟩ := hc d hd
    refine ⟨?_, ?_, ?_, ?_, ?_⟩
    · rw [ii_wi, if_neg (by omega), rq_wq, if_neg (by omega)]; exact q1
    · by_cases hdc : d = c
      · subst hdc
        rw [ii_wi, if_pos ⟨rfl, rfl⟩, rq_wq, if_pos ⟨rfl, rfl⟩]
      · rw [ii_wi, if_neg (by omega), rq_wq, if_neg (fun z => hdc z.2)]; exact q2
    · rw [ii_wi, if_neg (by omega), rq_wq, if_neg (by omega)]; exact q3
    · rw [ii_wi, if_neg (by omega), ro_wq]; exact q4
    · rw [ii_wi, if_neg (by omega), rq_wq, if_neg (by omega)]; exact q5
  · rw [ii_wi, if_neg (by omega), rq_wq, if_neg (by omega)]; exact ht i hi

theorem MR.q1 {ρ : XR} {M : XM} (h : MR ρ M) (c v : Nat) : MR (w_q ρ 1 c v) (x_wi M 86 c (nI v)) := by
  obtain ⟨⟨h1, h2, h3, h4, h5, h6, h7, h8⟩, hc, ht⟩ := h
  refine ⟨⟨?_, ?_, ?_, ?_, ?_, ?_, ?_, ?_⟩, fun d hd => ?_, fun i hi => ?_⟩
  · rw [ii_wi, if_neg (by omega), rs_wq]; exact h1
  · rw [ii_wi, if_neg (by omega), rs_wq]; exact h2
  · rw [ii_wi, if_neg (by omega), rs_wq]; exact h3
  · rw [ii_wi, if_neg (by omega), rs_wq]; exact h4
  · rw [ii_wi, if_neg (by omega), rs_wq]; exact h5
  · rw [ii_wi, if_neg (by omega), rs_wq]; exact h6
  · rw [ii_wi, if_neg (by omega), rd_wq]; exact h7
  · rw [ii_wi, if_neg (by omega), re_wq]; exact h8
  · obtain ⟨q1, q2, q3, q4, q5⟩ := hc d hd
    refine ⟨?_, ?_, ?_, ?_, ?_⟩
    · rw [ii_wi, if_neg (by omega), rq_wq, if_neg (by omega)]; exact q1
    · by_cases hdc : d = c
      · subst hdc
        rw [ii_wi, if_pos ⟨rfl, rfl⟩, rq_wq, if_pos ⟨rfl, rfl⟩]
      · rw [ii_wi, if_neg (by omega), rq_wq, if_neg (fun z => hdc z.2)]; exact q2
    · rw [ii_wi, if_neg (by omega), rq_wq, if_neg (by omega)]; exact q3
    · rw [ii_wi, if_neg (by omega), ro_wq]; exact q4
    · rw [ii_wi, if_neg (by omega), rq_wq, if_neg (by omega)]; exact q5
  · rw [ii_wi, if_neg (by omega), rq_wq, if_neg (by omega)]; exact ht i hi

theorem CR.q2 {r : Nat} {ρ : XR} {M : XM} (h : CR r ρ M) (c v : Nat) (hcc : c < 6) : CR r (w_q ρ 2 c v) (x_wi M (r + 3 + c) 2 (nI v)) := by
  obtain ⟨⟨h1, h2, h3, h4, h5, h6, h7, h8⟩, hc, ht⟩ := h
  refine ⟨⟨?_, ?_, ?_, ?_, ?_, ?_, ?_, ?_⟩, fun d hd => ?_, fun i hi => ?_⟩
  · rw [ii_wi, if_neg (by omega), rs_wq]; exact h1
  · rw [ii_wi, if_neg (by omega), rs_wq]; exact h2
  · rw [ii_wi, if_neg (by omega), rs_wq]; exact h3
  · rw [ii_wi, if_neg (by omega), rs_wq]; exact h4
  · rw [ii_wi, if_neg (by omega), rs_wq]; exact h5
  · rw [ii_wi, if_neg (by omega), rs_wq]; exact h6
  · rw [ii_wi, if_neg (by omega), rd_wq]; exact h7
  · rw [ii_wi, if_neg (by omega), re_wq]; exact h8
  · obtain ⟨q1, q2, q3, q4, q5⟩ := hc d hd
    refine ⟨?_, ?_, ?_, ?_, ?_⟩
    · rw [ii_wi, if_neg (by omega), rq_wq, if_neg (by omega)]; exact q1
    · rw [ii_wi, if_neg (by omega), rq_wq, if_neg (by omega)]; exact q2
    · by_cases hdc : d = c
      · subst hdc
        rw [ii_wi, if_pos ⟨rfl, rfl⟩, rq_wq, if_pos ⟨rfl, rfl⟩]
      · rw [ii_wi, if_neg (by omega), rq_wq, if_neg (fun z => hdc z.2)]; exact q3
    · rw [ii_wi, if_neg (by omega), ro_wq]; exact q4
    · rw [ii_wi, if_neg (by omega), rq_wq, if_neg (by omega)]; exact q5
  · rw [ii_wi, if_neg (by omega), rq_wq, if_neg (by omega)]; exact ht i hi

theorem MR.q2 {ρ : XR} {M : XM} (h : MR ρ M) (c v : Nat) : MR (w_q ρ 2 c v) (x_wi M 87 c (nI v)) := by
  obtain ⟨⟨h1, h2, h3, h4, h5, h6, h7, h8⟩, hc, ht⟩ := h
  refine ⟨⟨?_, ?_, ?_, ?_, ?_, ?_, ?_, ?_⟩, fun d hd => ?_, fun i hi => ?_⟩
  · rw [ii_wi, if_neg (by omega), rs_wq]; exact h1
  · rw [ii_wi, if_neg (by omega), rs_wq]; exact h2
  · rw [ii_wi, if_neg (by omega), rs_wq]; exact h3
  · rw [ii_wi, if_neg (by omega), rs_wq]; exact h4
  · rw [ii_wi, if_neg (by omega), rs_wq]; exact h5
  · rw [ii_wi, if_neg (by omega), rs_wq]; exact h6
  · rw [ii_wi, if_neg (by omega), rd_wq]; exact h7
  · rw [ii_wi, if_neg (by omega), re_wq]; exact h8
  · obtain ⟨q1, q2, q3, q4, q5⟩ := hc d hd
    refine ⟨?_, ?_, ?_, ?_, ?_⟩
    · rw [ii_wi, if_neg (by omega), rq_wq, if_neg (by omega)]; exact q1
    · rw [ii_wi, if_neg (by omega), rq_wq, if_neg (by omega)]; exact q2
    · by_cases hdc : d = c
      · subst hdc
        rw [ii_wi, if_pos ⟨rfl, rfl⟩, rq_wq, if_pos ⟨rfl, rfl⟩]
      · rw [ii_wi, if_neg (by omega), rq_wq, if_neg (fun z => hdc z.2)]; exact q3
    · rw [ii_wi, if_neg (by omega), ro_wq]; exact q4
    · rw [ii_wi, if_neg (by omega), rq_wq, if_neg (by omega)]; exact q5
  · rw [ii_wi, if_neg (by omega), rq_wq, if_neg (by omega)]; exact ht i hi

theorem CR.q3 {r : Nat} {ρ : XR} {M : XM} (h : CR r ρ M) (c v : Nat) (hcc : c < 6) : CR r (w_q ρ 3 c v) (x_wi M (r + 3 + c) 4 (nI v)) := by
  obtain ⟨⟨h1, h2, h3, h4, h5, h6, h7, h8⟩, hc, ht⟩ := h
  refine ⟨⟨?_, ?_, ?_, ?_, ?_, ?_, ?_, ?_⟩, fun d hd => ?_, fun i hi => ?_⟩
  · rw [ii_wi, if_neg (by omega), rs_wq]; exact h1
  · rw [ii_wi, if_neg (by omega), rs_wq]; exact h2
  · rw [ii_wi, if_neg (by omega), rs_wq]; exact h3
  · rw [ii_wi, if_neg (by omega), rs_wq]; exact h4
  · rw [ii_wi, if_neg (by omega), rs_wq]; exact h5
  · rw [ii_wi, if_neg (by omega), rs_wq]; exact h6
  · rw [ii_wi, if_neg (by omega), rd_wq]; exact h7
  · rw [ii_wi, if_neg (by omega), re_wq]; exact h8
  · obtain ⟨q1, q2, q3, q4, q5⟩ := hc d hd
    refine ⟨?_, ?_, ?_, ?_, ?_⟩
    · rw [ii_wi, if_neg (by omega), rq_wq, if_neg (by omega)]; exact q1
    · rw [ii_wi, if_neg (by omega), rq_wq, if_neg (by omega)]; exact q2
    · rw [ii_wi, if_neg (by omega), rq_wq, if_neg (by omega)]; exact q3
    · rw [ii_wi, if_neg (by omega), ro_wq]; exact q4
    · by_cases hdc : d = c
      · subst hdc
        rw [ii_wi, if_pos ⟨rfl, rfl⟩, rq_wq, if_pos ⟨rfl, rfl⟩]
      · rw [ii_wi, if_neg (by omega), rq_wq, if_neg (fun z => hdc z.2)]; exact q5
  · rw [ii_wi, if_neg (by omega), rq_wq, if_neg (by omega)]; exact ht i hi

theorem MR.q3 {ρ : XR} {M : XM} (h : MR ρ M) (c v : Nat) : MR (w_q ρ 3 c v) (x_wi M 89 c (nI v)) := by
  obtain ⟨⟨h1, h2, h3, h4, h5, h6, h7, h8⟩, hc, ht⟩ := h
  refine ⟨⟨?_, ?_, ?_, ?_, ?_, ?_, ?_, ?_⟩, fun d hd => ?_, fun i hi => ?_⟩
  · rw [ii_wi, if_neg (by omega), rs_wq]; exact h1
  · rw [ii_wi, if_neg (by omega), rs_wq]; exact h2
  · rw [ii_wi, if_neg (by omega), rs_wq]; exact h3
  · rw [ii_wi, if_neg (by omega), rs_wq]; exact h4
  · rw [ii_wi, if_neg (by omega), rs_wq]; exact h5
  · rw [ii_wi, if_neg (by omega), rs_wq]; exact h6
  · rw [ii_wi, if_neg (by omega), rd_wq]; exact h7
  · rw [ii_wi, if_neg (by omega), re_wq]; exact h8
  · obtain ⟨q1, q2, q3, q4, q5⟩ := hc d hd
    refine ⟨?_, ?_, ?_, ?_, ?_⟩
    · rw [ii_wi, if_neg (by omega), rq_wq, if_neg (by omega)]; exact q1
    · rw [ii_wi, if_neg (by omega), rq_wq, if_neg (by omega)]; exact q2
    · rw [ii_wi, if_neg (by omega), rq_wq, if_neg (by omega)]; exact q3
    · rw [ii_wi, if_neg (by omega), ro_wq]; exact q4
    · by_cases hdc : d = c
      · subst hdc
        rw [ii_wi, if_pos ⟨rfl, rfl⟩, rq_wq, if_pos ⟨rfl, rfl⟩]
      · rw [ii_wi, if_neg (by omega), rq_wq, if_neg (fun z => hdc z.2)]; exact q5
  · rw [ii_wi, if_neg (by omega), rq_wq, if_neg (by omega)]; exact ht i hi

theorem CR.o {r : Nat} {ρ : XR} {M : XM} (h : CR r ρ M) (c : Nat) (v : Int32) (hcc : c < 6) : CR r (w_off ρ c v) (x_wi M (r + 3 + c) 3 v) := by
  obtain ⟨⟨h1, h2, h3, h4, h5, h6, h7, h8⟩, hc, ht⟩ := h
  refine ⟨⟨?_, ?_, ?_, ?_, ?_, ?_, ?_, ?_⟩, fun d hd => ?_, fun i hi => ?_⟩
  · rw [ii_wi, if_neg (by omega), rs_wo]; exact h1
  · rw [ii_wi, if_neg (by omega), rs_wo]; exact h2
  · rw [ii_wi, if_neg (by omega), rs_wo]; exact h3
  · rw [ii_wi, if_neg (by omega), rs_wo]; exact h4
  · rw [ii_wi, if_neg (by omega), rs_wo]; exact h5
  · rw [ii_wi, if_neg (by omega), rs_wo]; exact h6
  · rw [ii_wi, if_neg (by omega), rd_wo]; exact h7
  · rw [ii_wi, if_neg (by omega), re_wo]; exact h8
  · obtain ⟨q1, q2, q3, q4, q5⟩ := hc d hd
    refine ⟨?_, ?_, ?_, ?_, ?_⟩
    · rw [ii_wi, if_neg (by omega), rq_wo]; exact q1
    · rw [ii_wi, if_neg (by omega), rq_wo]; exact q2
    · rw [ii_wi, if_neg (by omega), rq_wo]; exact q3
    · by_cases hdc : d = c
      · subst hdc
        rw [ii_wi, if_pos ⟨rfl, rfl⟩, ro_wo, if_pos rfl]
      · rw [ii_wi, if_neg (by omega), ro_wo, if_neg hdc]; exact q4
    · rw [ii_wi, if_neg (by omega), rq_wo]; exact q5
  · rw [ii_wi, if_neg (by omega), rq_wo]; exact ht i hi

theorem MR.o {ρ : XR} {M : XM} (h : MR ρ M) (c : Nat) (v : Int32) : MR (w_off ρ c v) (x_wi M 88 c v) := by
  obtain ⟨⟨h1, h2, h3, h4, h5, h6, h7, h8⟩, hc, ht⟩ := h
  refine ⟨⟨?_, ?_, ?_, ?_, ?_, ?_, ?_, ?_⟩, fun d hd => ?_, fun i hi => ?_⟩
  · rw [ii_wi, if_neg (by omega), rs_wo]; exact h1
  · rw [ii_wi, if_neg (by omega), rs_wo]; exact h2
  · rw [ii_wi, if_neg (by omega), rs_wo]; exact h3
  · rw [ii_wi, if_neg (by omega), rs_wo]; exact h4
  · rw [ii_wi, if_neg (by omega), rs_wo]; exact h5
  · rw [ii_wi, if_neg (by omega), rs_wo]; exact h6
  · rw [ii_wi, if_neg (by omega), rd_wo]; exact h7
  · rw [ii_wi, if_neg (by omega), re_wo]; exact h8
  · obtain ⟨q1, q2, q3, q4, q5⟩ := hc d hd
    refine ⟨?_, ?_, ?_, ?_, ?_⟩
    · rw [ii_wi, if_neg (by omega), rq_wo]; exact q1
    · rw [ii_wi, if_neg (by omega), rq_wo]; exact q2
    · rw [ii_wi, if_neg (by omega), rq_wo]; exact q3
    · by_cases hdc : d = c
      · subst hdc
        rw [ii_wi, if_pos ⟨rfl, rfl⟩, ro_wo, if_pos rfl]
      · rw [ii_wi, if_neg (by omega), ro_wo, if_neg hdc]; exact q4
    · rw [ii_wi, if_neg (by omega), rq_wo]; exact q5
  · rw [ii_wi, if_neg (by omega), rq_wo]; exact ht i hi

theorem CR.t {r : Nat} {ρ : XR} {M : XM} (h : CR r ρ M) (c v : Nat) : CR r (w_q ρ 4 c v) (x_wi M (r + 2) c (nI v)) := by
  obtain ⟨⟨h1, h2, h3, h4, h5, h6, h7, h8⟩, hc, ht⟩ := h
  refine ⟨⟨?_, ?_, ?_, ?_, ?_, ?_, ?_, ?_⟩, fun d hd => ?_, fun i hi => ?_⟩
  · rw [ii_wi, if_neg (by omega), rs_wq]; exact h1
  · rw [ii_wi, if_neg (by omega), rs_wq]; exact h2
  · rw [ii_wi, if_neg (by omega), rs_wq]; exact h3
  · rw [ii_wi, if_neg (by omega), rs_wq]; exact h4
  · rw [ii_wi, if_neg (by omega), rs_wq]; exact h5
  · rw [ii_wi, if_neg (by omega), rs_wq]; exact h6
  · rw [ii_wi, if_neg (by omega), rd_wq]; exact h7
  · rw [ii_wi, if_neg (by omega), re_wq]; exact h8
  · obtain ⟨q1, q2, q3, q4, q5⟩ := hc d hd
    refine ⟨?_, ?_, ?_, ?_, ?_⟩
    · rw [ii_wi, if_neg (by omega), rq_wq, if_neg (by omega)]; exact q1
    · rw [ii_wi, if_neg (by omega), rq_wq, if_neg (by omega)]; exact q2
    · rw [ii_wi, if_neg (by omega), rq_wq, if_neg (by omega)]; exact q3
    · rw [ii_wi, if_neg (by omega), ro_wq]; exact q4
    · rw [ii_wi, if_neg (by omega), rq_wq, if_neg (by omega)]; exact q5
  · by_cases hic : i = c
    · subst hic
      rw [ii_wi, if_pos ⟨rfl, rfl⟩, rq_wq, if_pos ⟨rfl, rfl⟩]
    · rw [ii_wi, if_neg (by omega), rq_wq, if_neg (fun z => hic z.2)]; exact ht i hi

theorem MR.t {ρ : XR} {M : XM} (h : MR ρ M) (c v : Nat) : MR (w_q ρ 4 c v) (x_wi M 90 c (nI v)) := by
  obtain ⟨⟨h1, h2, h3, h4, h5, h6, h7, h8⟩, hc, ht⟩ := h
  refine ⟨⟨?_, ?_, ?_, ?_, ?_, ?_, ?_, ?_⟩, fun d hd => ?_, fun i hi => ?_⟩
  · rw [ii_wi, if_neg (by omega), rs_wq]; exact h1
  · rw [ii_wi, if_neg (by omega), rs_wq]; exact h2
  · rw [ii_wi, if_neg (by omega), rs_wq]; exact h3
  · rw [ii_wi, if_neg (by omega), rs_wq]; exact h4
  · rw [ii_wi, if_neg (by omega), rs_wq]; exact h5
  · rw [ii_wi, if_neg (by omega), rs_wq]; exact h6
  · rw [ii_wi, if_neg (by omega), rd_wq]; exact h7
  · rw [ii_wi, if_neg (by omega), re_wq]; exact h8
  · obtain ⟨q1, q2, q3, q4, q5⟩ := hc d hd
    refine ⟨?_, ?_, ?_, ?_, ?_⟩
    · rw [ii_wi, if_neg (by omega), rq_wq, if_neg (by omega)]; exact q1
    · rw [ii_wi, if_neg (by omega), rq_wq, if_neg (by omega)]; exact q2
    · rw [ii_wi, if_neg (by omega), rq_wq, if_neg (by omega)]; exact q3
    · rw [ii_wi, if_neg (by omega), ro_wq]; exact q4
    · rw [ii_wi, if_neg (by omega), rq_wq, if_neg (by omega)]; exact q5
  · by_cases hic : i = c
    · subst hic
      rw [ii_wi, if_pos ⟨rfl, rfl⟩, rq_wq, if_pos ⟨rfl, rfl⟩]
    · rw [ii_wi, if_neg (by omega), rq_wq, if_neg (fun z => hic z.2)]; exact ht i hi

