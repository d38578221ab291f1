section
variable {T : Nat → Int32} {n : Nat} {ρ : XR} {Q : Nat}
theorem WF.set {k v : Nat} (h : WF Q ρ) (hk : k < 4) (h1 : tlo k ≤ v) (h2 : v ≤ thi k) : WF Q (r_set ρ k v) := by
  obtain ⟨⟨w0, w1, w2, w3, w4, w5, w6, w7⟩, k2, k3, k4⟩ := id h
  rcases (by omega : k = 0 ∨ k = 1 ∨ k = 2 ∨ k = 3) with e | e | e | e <;> subst e
  · have h1 : 1 ≤ v := h1
    have h2 : v ≤ 200 := h2
    have q := WG.cl (B := Q) (r_s ρ 0) (w_s ρ 1 v) 0 ⟨⟨w0, by rw [rs_ws, if_pos rfl]; omega, by rw [rs_ws, if_pos rfl]; omega, w3, w4, w5, w6, w7⟩, k2, fun c hc => absurd hc (by omega), k4⟩
    rw [Nat.zero_add] at q
    obtain ⟨q1, q2, q3, q4⟩ := q
    exact ⟨q1, q2, fun c hc => q3 c (by
      have e : r_s (r_cl (r_s ρ 0) (w_s ρ 1 v) 0) 0 = r_s ρ 0 := by rw [cl_s]; rfl
      have hc : c < r_s (r_cl (r_s ρ 0) (w_s ρ 1 v) 0) 0 := hc
      omega), q4⟩
  · have h1 : 1 ≤ v := h1
    have h2 : v ≤ 200 := h2
    exact ⟨⟨w0, w1, w2, h1, h2, w5, w6, w7⟩, k2, k3, k4⟩
  · have h2 : v ≤ 1000 := h2
    exact ⟨⟨w0, w1, w2, w3, w4, h2, w6, w7⟩, k2, k3, k4⟩
  · have h2 : v ≤ 99 := h2
    exact ⟨⟨w0, w1, w2, w3, w4, w5, h2, w7⟩, k2, k3, k4⟩
theorem set_s {k v : Nat} : r_s (r_set ρ k v) 0 = r_s ρ 0 := by
  unfold r_set
  split
  · rw [cl_s]; rfl
  split
  · rfl
  split <;> rfl
theorem WF.tal {v : Nat} (h : WF Q ρ) (h5 : r_s ρ 5 < 8) (hv : v ≤ 9999) : WF Q (r_tal ρ v) := (h.q4 (r_s ρ 5) v hv).s5 _ (by omega)
theorem no_s {α : Type} {a : α} {P : Prop} (h : some a = (none : Option α)) : P := by cases h
theorem it_b {k p : Nat} (h : WF Q ρ) (hp : p ≤ n) (hk : k < 7) (c5 : k = 5 → r_s ρ 0 < 6) (c4 : k = 4 → r_s ρ 5 < 8) (hr : (itb T n k p ρ).1 = none) :
    WF (Q + 1) (itb T n k p ρ).2.2 ∧ r_s ρ 0 ≤ r_s (itb T n k p ρ).2.2 0 ∧ p < (itb T n k p ρ).2.1 ∧ (itb T n k p ρ).2.1 ≤ n := by
  have hb := ne_n (T := T) hp
  have hm : WF (Q + 1) ρ := h.mono (by omega)
  have bd : ∀ {lo hi x : Nat}, ¬ nbad T n lo hi x → ne T n x ≠ x ∧ lo ≤ nv T n x ∧ nv T n x < hi := fun {lo hi x} q => by
    refine ⟨fun z => q (Or.inl z), Nat.le_of_not_lt (fun z => q (Or.inr (Or.inl z))), Nat.lt_of_not_le (fun z => q (Or.inr (Or.inr z)))⟩
  unfold itb at hr ⊢
  by_cases h5 : k = 5
  · rw [if_pos h5] at hr ⊢
    by_cases q1 : nbad T n 0 7 p
    · rw [if_pos q1] at hr; exact no_s hr
    rw [if_neg q1] at hr ⊢
    by_cases q2 : ok1 T n (ne T n p) 32
    · rw [if_pos q2] at hr ⊢
      by_cases q3 : nbad T n 0 10 (ne T n p + 1)
      · rw [if_pos q3] at hr; exact no_s hr
      rw [if_neg q3]
      have b1 := bd q1
      have b2 := bd q3
      have q2 := q2.1
      have hb2 := ne_n (T := T) (n := n) (p := ne T n p + 1) (by omega)
      have hc := c5 h5
      refine ⟨hm.add _ _ (by omega) (by omega) hc, ?_, ?_, hb2.1⟩
      · show r_s ρ 0 ≤ r_s ρ 0 + 1
        omega
      · show p < ne T n (ne T n p + 1)
        omega
    · rw [if_neg q2] at hr; exact no_s hr
  rw [if_neg h5] at hr ⊢
  by_cases h4 : k = 4
  · rw [if_pos h4] at hr ⊢
    by_cases q1 : nbad T n 0 10000 p
    · rw [if_pos q1] at hr; exact no_s hr
    rw [if_neg q1]
    have b1 := bd q1
    refine ⟨hm.tal (c4 h4) (by omega), Nat.le_refl _, ?_, hb.1⟩
    show p < ne T n p
    omega
  rw [if_neg h4] at hr ⊢
  by_cases h6 : k = 6
  · rw [if_pos h6] at hr ⊢
    by_cases q1 : nbad T n 0 (r_s ρ 0) p
    · rw [if_pos q1] at hr; exact no_s hr
    rw [if_neg q1] at hr ⊢
    by_cases q2 : r_s ρ 1 ≤ r_q ρ 2 (nv T n p)
    · rw [if_pos q2] at hr; exact no_s hr
    rw [if_neg q2]
    have b1 := bd q1
    have y := (h.2.1 (nv T n p) (by have := h.1.1; omega)).2.2.2
    refine ⟨hm.hear _ b1.2.2 (by omega), Nat.le_refl _, ?_, hb.1⟩
    show p < ne T n p
    omega
  rw [if_neg h6] at hr ⊢
  by_cases q1 : nbad T n (tlo k) (thi k + 1) p
  · rw [if_pos q1] at hr; exact no_s hr
  rw [if_neg q1]
  have b1 := bd q1
  refine ⟨hm.set (by omega) b1.2.1 (by omega), ?_, ?_, hb.1⟩
  · show r_s ρ 0 ≤ r_s (r_set ρ k (nv T n p)) 0
    rw [set_s]; exact Nat.le_refl _
  · show p < ne T n p
    omega
theorem it_w {p : Nat} (h : WF Q ρ) (hp : p ≤ n) (hr : (it T n p ρ).1 = none) :
    WF (Q + 1) (it T n p ρ).2.2 ∧ r_s ρ 0 ≤ r_s (it T n p ρ).2.2 0 ∧ p + 2 < (it T n p ρ).2.1 ∧ (it T n p ρ).2.1 ≤ n := by
  have hz := wz_b (T := T) (n := n) (p := p) 7 0 0 rfl
  unfold it at hr ⊢
  generalize wz T n p 7 0 0 = r at hz hr ⊢
  obtain ⟨k, m⟩ := r
  dsimp only at hz hr ⊢
  by_cases h7 : k = 7
  · rw [if_pos h7] at hr; exact no_s hr
  rw [if_neg h7] at hr ⊢
  by_cases hf : (k = 5 ∧ 6 ≤ r_s ρ 0) ∨ (k = 4 ∧ 8 ≤ r_s ρ 5)
  · rw [if_pos hf] at hr; exact no_s hr
  rw [if_neg hf] at hr ⊢
  by_cases w : ok1 T n (p + nl k) 32
  · rw [if_pos w] at hr ⊢
    have wn := w.1
    have hnl := nl_b k
    obtain ⟨g1, g2, g3, g4⟩ := it_b h (show p + nl k + 1 ≤ n by omega) (show k < 7 by omega) (fun z => by omega) (fun z => by omega) hr
    exact ⟨g1, g2, by omega, g4⟩
  · rw [if_neg w] at hr; exact no_s hr
/-- the items behind the first -/
def rl (T : Nat → Int32) (n : Nat) : Nat → Nat → Nat → XR → Option Nat × Nat × XR
  | 0, _, c, ρ => (none, c, ρ)
  | d + 1, p, c, ρ => if n ≤ p then (none, c, ρ) else if ok1 T n p 59 then (if (it T n (p + 1) ρ).1 = none then rl T n d (it T n (p + 1) ρ).2.1 (c + 1) (it T n (p + 1) ρ).2.2 else ((it T n (p + 1) ρ).1, c, ρ)) else (some p, c, ρ)
def rm (T : Nat → Int32) (n : Nat) (ρ : XR) : Option Nat × Nat × XR := if (it T n 0 ρ).1 = none then rl T n n (it T n 0 ρ).2.1 1 (it T n 0 ρ).2.2 else ((it T n 0 ρ).1, 0, ρ)
theorem rl_w (d : Nat) : ∀ (p c Q : Nat) (ρ : XR), WF Q ρ → p ≤ n → (rl T n d p c ρ).1 = none → WF (Q + (n - p)) (rl T n d p c ρ).2.2 ∧ r_s ρ 0 ≤ r_s (rl T n d p c ρ).2.2 0 := by
  induction d with
  | zero => intro p c Q ρ h hp _; exact ⟨h.mono (by omega), Nat.le_refl _⟩
  | succ d ih =>
    intro p c Q ρ h hp hr
    unfold rl at hr ⊢
    by_cases q : n ≤ p
    · rw [if_pos q]; exact ⟨h.mono (by omega), Nat.le_refl _⟩
    rw [if_neg q] at hr ⊢
    by_cases w : ok1 T n p 59
    · rw [if_pos w] at hr ⊢
      by_cases k : (it T n (p + 1) ρ).1 = none
      · rw [if_pos k] at hr ⊢
        obtain ⟨a1, a2, a3, a4⟩ := it_w h (by omega) k
        obtain ⟨u1, u2⟩ := ih _ (c + 1) (Q + 1) _ a1 a4 hr
        exact ⟨u1.mono (by omega), by omega⟩
      · rw [if_neg k] at hr; exact absurd hr k
    · rw [if_neg w] at hr; exact no_s hr
theorem rm_w (h : WF Q ρ) (hr : (rm T n ρ).1 = none) : WF (Q + n) (rm T n ρ).2.2 ∧ r_s ρ 0 ≤ r_s (rm T n ρ).2.2 0 := by
  unfold rm at hr ⊢
  by_cases k : (it T n 0 ρ).1 = none
  · rw [if_pos k] at hr ⊢
    obtain ⟨a1, a2, a3, a4⟩ := it_w h (by omega) k
    obtain ⟨u1, u2⟩ := rl_w n _ 1 (Q + 1) _ a1 a4 hr
    exact ⟨u1.mono (by omega), by omega⟩
  · rw [if_neg k] at hr; exact absurd hr k
end
