/-! THE ABSTRACT STATE: the room, THE IMAGE, what the SHELVES hold (rows 0 what: 0 nothing, 1 a ROW, 2 a COUNTER; 1 SORT, 2 size, 3 the COUNTER's number), the elements, REFUSALS, the FAULT, how many bodies ran, and which -/
abbrev XS : Type := XR × Option XR × (Nat → Nat → Nat) × (Nat → Nat → Int64) × (Nat → Int32) × Int32 × Nat × (Nat → Int32)
def s_now (σ : XS) : XR := σ.1
def s_img (σ : XS) : Option XR := σ.2.1
def s_sh (σ : XS) : Nat → Nat → Nat := σ.2.2.1
def s_el (σ : XS) : Nat → Nat → Int64 := σ.2.2.2.1
def s_rf (σ : XS) : Nat → Int32 := σ.2.2.2.2.1
def s_ft (σ : XS) : Int32 := σ.2.2.2.2.2.1
def s_ran (σ : XS) : Nat := σ.2.2.2.2.2.2.1
def s_tr (σ : XS) : Nat → Int32 := σ.2.2.2.2.2.2.2
def u_now (σ : XS) (ρ : XR) : XS := (ρ, σ.2)
def u_img (σ : XS) (ρ : XR) : XS := (σ.1, some ρ, σ.2.2)
def u_sh (σ : XS) (f s v : Nat) : XS := (σ.1, σ.2.1, fun g t => if g = f ∧ t = s then v else σ.2.2.1 g t, σ.2.2.2)
def u_el (σ : XS) (s : Nat) (h : Nat → Int64) : XS := (σ.1, σ.2.1, σ.2.2.1, fun t => if t = s then h else σ.2.2.2.1 t, σ.2.2.2.2)
def u_rf (σ : XS) (k : Nat) : XS := (σ.1, σ.2.1, σ.2.2.1, σ.2.2.2.1, fun j => if j = k then σ.2.2.2.2.1 k + 1 else σ.2.2.2.2.1 j, σ.2.2.2.2.2)
def u_ft (σ : XS) (v : Int32) : XS := (σ.1, σ.2.1, σ.2.2.1, σ.2.2.2.1, σ.2.2.2.2.1, v, σ.2.2.2.2.2.2)
def u_tr (σ : XS) (n : Nat) (h : Nat → Int32) : XS := (σ.1, σ.2.1, σ.2.2.1, σ.2.2.2.1, σ.2.2.2.2.1, σ.2.2.2.2.2.1, n, h)
/-- the same in cells lo to hi -/
def Agr (lo hi : Nat) (M M' : XM) : Prop := ∀ a, lo ≤ a → a < hi → ∀ j, x_i M' a j = x_i M a j ∧ x_j M' a j = x_j M a j
theorem Agr.rf {lo hi : Nat} {M : XM} : Agr lo hi M M := fun _ _ _ _ => ⟨rfl, rfl⟩
theorem Agr.tr {lo hi : Nat} {M M1 M2 : XM} (h : Agr lo hi M M1) (h2 : Agr lo hi M1 M2) : Agr lo hi M M2 := fun a h1 h3 j => ⟨(h2 a h1 h3 j).1.trans (h a h1 h3 j).1, (h2 a h1 h3 j).2.trans (h a h1 h3 j).2⟩
theorem Agr.mono {lo hi lo' hi' : Nat} {M M' : XM} (h : Agr lo hi M M') (h1 : lo ≤ lo') (h2 : hi' ≤ hi) : Agr lo' hi' M M' := fun a g1 g2 j => h a (Nat.le_trans h1 g1) (Nat.lt_of_lt_of_le g2 h2) j
theorem Agr.wi {lo hi : Nat} {M M' : XM} {a k : Nat} {v : Int32} (h : Agr lo hi M M') (ha : a < lo ∨ hi ≤ a) : Agr lo hi M (x_wi M' a k v) := fun b h1 h2 j => ⟨by rw [ii_wi, if_neg (by omega)]; exact (h b h1 h2 j).1, (h b h1 h2 j).2⟩
theorem Agr.wj {lo hi : Nat} {M M' : XM} {a k : Nat} {v : Int64} (h : Agr lo hi M M') (ha : a < lo ∨ hi ≤ a) : Agr lo hi M (x_wj M' a k v) := fun b h1 h2 j => ⟨(h b h1 h2 j).1, by rw [ji_wj, if_neg (by omega)]; exact (h b h1 h2 j).2⟩
theorem Agr.cp {lo hi : Nat} {M M' : XM} {a s b d n : Nat} (h : Agr lo hi M M') (ha : b < lo ∨ hi ≤ b) : Agr lo hi M (x_cpj M' a s b d n) := fun c h1 h2 j => ⟨(h c h1 h2 j).1, by show (if c = b then _ else M'.2.2.1 c j) = _; rw [if_neg (by omega)]; exact (h c h1 h2 j).2⟩
theorem Agr.wr {lo hi : Nat} {M M' : XM} {a k v : Nat} (h : Agr lo hi M M') : Agr lo hi M (x_wr M' a k v) := h
theorem Agr.i {lo hi : Nat} {M M' : XM} (h : Agr lo hi M M') {a : Nat} (j : Nat) (h1 : lo ≤ a) (h2 : a < hi) : x_i M' a j = x_i M a j := (h a h1 h2 j).1
theorem Agr.j {lo hi : Nat} {M M' : XM} (h : Agr lo hi M M') {a : Nat} (j : Nat) (h1 : lo ≤ a) (h2 : a < hi) : x_j M' a j = x_j M a j := (h a h1 h2 j).2
theorem CR.ag {r : Nat} {ρ : XR} {M M' : XM} (h : CR r ρ M) (g : Agr r (r + 9) M M') : CR r ρ M' := by
  obtain ⟨⟨h1, h2, h3, h4, h5, h6, h7, h8⟩, hc, ht⟩ := h
  refine ⟨⟨?_, ?_, ?_, ?_, ?_, ?_, ?_, ?_⟩, fun c hc' => ?_, fun i hi => ?_⟩
  · rw [g.i _ (by omega) (by omega)]; exact h1
  · rw [g.i _ (by omega) (by omega)]; exact h2
  · rw [g.i _ (by omega) (by omega)]; exact h3
  · rw [g.i _ (by omega) (by omega)]; exact h4
  · rw [g.i _ (by omega) (by omega)]; exact h5
  · rw [g.i _ (by omega) (by omega)]; exact h6
  · rw [g.i _ (by omega) (by omega)]; exact h7
  · rw [g.i _ (by omega) (by omega)]; exact h8
  · obtain ⟨q1, q2, q3, q4, q5⟩ := hc c hc'
    refine ⟨?_, ?_, ?_, ?_, ?_⟩
    · rw [g.i _ (by omega) (by omega)]; exact q1
    · rw [g.i _ (by omega) (by omega)]; exact q2
    · rw [g.i _ (by omega) (by omega)]; exact q3
    · rw [g.i _ (by omega) (by omega)]; exact q4
    · rw [g.i _ (by omega) (by omega)]; exact q5
  · rw [g.i _ (by omega) (by omega)]; exact ht i hi
theorem MR.ag {ρ : XR} {M M' : XM} (h : MR ρ M) (g : ∀ a j, (83 ≤ a ∧ a < 91) → x_i M' a j = x_i M a j) : MR ρ M' := by
  obtain ⟨⟨h1, h2, h3, h4, h5, h6, h7, h8⟩, hc, ht⟩ := h
  refine ⟨⟨?_, ?_, ?_, ?_, ?_, ?_, ?_, ?_⟩, fun c hc' => ?_, fun i hi => ?_⟩
  · rw [g _ _ (by omega)]; exact h1
  · rw [g _ _ (by omega)]; exact h2
  · rw [g _ _ (by omega)]; exact h3
  · rw [g _ _ (by omega)]; exact h4
  · rw [g _ _ (by omega)]; exact h5
  · rw [g _ _ (by omega)]; exact h6
  · rw [g _ _ (by omega)]; exact h7
  · rw [g _ _ (by omega)]; exact h8
  · obtain ⟨q1, q2, q3, q4, q5⟩ := hc c hc'
    refine ⟨?_, ?_, ?_, ?_, ?_⟩
    · rw [g _ _ (by omega)]; exact q1
    · rw [g _ _ (by omega)]; exact q2
    · rw [g _ _ (by omega)]; exact q3
    · rw [g _ _ (by omega)]; exact q4
    · rw [g _ _ (by omega)]; exact q5
  · rw [g _ _ (by omega)]; exact ht i hi
/-- a shelf of the class -/
def CSh (σ : XS) (M : XM) : Prop := ∀ s, s < 8 →
  (s_sh σ 0 s = 0 → x_i M (67 + 2 * s) 0 = -1 ∧ x_i M (67 + 2 * s) 1 = -1 ∧ x_i M (67 + 2 * s) 2 = 0) ∧
  (s_sh σ 0 s = 1 → x_i M (67 + 2 * s) 0 = -1 ∧ x_i M (67 + 2 * s) 1 = nI (s_sh σ 1 s) ∧ x_i M (67 + 2 * s) 2 = nI (s_sh σ 2 s) ∧ ∀ i, i < 160 → x_j M (68 + 2 * s) i = s_el σ s i) ∧
  (s_sh σ 0 s = 2 → x_i M (67 + 2 * s) 0 = nI (s_sh σ 3 s) ∧ x_i M (67 + 2 * s) 1 = -1 ∧ x_i M (67 + 2 * s) 2 = 0)
def MSh (σ : XS) (M : XM) : Prop := ∀ s, s < 8 → x_i M 91 s = nI (s_sh σ 0 s) ∧
  (s_sh σ 0 s = 1 → x_i M 92 s = nI (s_sh σ 1 s) ∧ x_i M 93 s = nI (s_sh σ 2 s) ∧ ∀ i, i < 160 → x_j M 95 (160 * s + i) = s_el σ s i) ∧
  (s_sh σ 0 s = 2 → x_i M 94 s = nI (s_sh σ 3 s))
/-- the reference's image -/
def MK (κ : XR) (M : XM) : Prop :=
  (x_i M 100 38 = nI (r_s κ 0) ∧ x_i M 100 39 = nI (r_s κ 1) ∧ x_i M 100 40 = nI (r_s κ 2) ∧ x_i M 100 41 = nI (r_s κ 3) ∧ x_i M 100 42 = nI (r_s κ 4) ∧ x_i M 100 44 = nI (r_s κ 5) ∧ x_i M 100 43 = r_done κ ∧ x_i M 100 45 = r_seed κ) ∧
  (∀ c, c < 6 → x_i M 100 c = nI (r_q κ 0 c) ∧ x_i M 100 (6 + c) = nI (r_q κ 1 c) ∧ x_i M 100 (12 + c) = nI (r_q κ 2 c) ∧ x_i M 100 (18 + c) = r_off κ c ∧ x_i M 100 (24 + c) = nI (r_q κ 3 c)) ∧
  ∀ i, i < 8 → x_i M 100 (30 + i) = nI (r_q κ 4 i)
def CI (σ : XS) (M : XM) : Prop := match s_img σ with
  | none => x_i M 20 2 = 0
  | some κ => x_i M 20 2 = 1 ∧ CR 30 κ M
def MI (σ : XS) (M : XM) : Prop := match s_img σ with
  | none => x_i M 83 41 = 0
  | some κ => x_i M 83 41 = 1 ∧ MK κ M
def CInv (σ : XS) (M : XM) : Prop := CR 21 (s_now σ) M ∧ CI σ M ∧ CSh σ M ∧ (∀ k, k < 8 → x_i M 51 k = s_rf σ k) ∧ x_i M 20 4 = s_ft σ ∧ x_i M 65 0 = nI (s_ran σ) ∧ ∀ i, i < 20 → i < s_ran σ → x_i M 66 i = s_tr σ i
def MInv (σ : XS) (M : XM) : Prop := MR (s_now σ) M ∧ MI σ M ∧ MSh σ M ∧ (∀ k, k < 8 → x_i M 84 k = s_rf σ k) ∧ x_i M 83 8 = s_ft σ ∧ x_i M 83 40 = nI (s_ran σ) ∧ ∀ i, i < 20 → i < s_ran σ → x_i M 104 i = s_tr σ i
/-- the reference's table of words -/
def MW (M : XM) : Prop := ∀ k, k < 45 → x_i M 97 k = nI (([99, 111, 117, 110, 116, 101, 114, 32, 0, 116, 111, 32, 0, 97, 112, 97, 114, 116, 32, 0, 111, 100, 100, 115, 32, 0, 99, 111, 115, 116, 32, 0, 116, 97, 108, 108, 121, 32, 0, 97, 115, 107, 32, 0] : List Nat).getD k 0)
def WFS (B : Nat) (σ : XS) : Prop := WF B (s_now σ) ∧ (∀ κ, s_img σ = some κ → WF B κ) ∧ (∀ s, s < 8 → s_sh σ 0 s ≤ 2 ∧ (s_sh σ 0 s = 1 → s_sh σ 1 s ≤ 3 ∧ s_sh σ 2 s ≤ 160) ∧ (s_sh σ 0 s = 2 → s_sh σ 3 s < r_s (s_now σ) 0)) ∧ s_ran σ ≤ 20
theorem CSh.ag {σ : XS} {M M' : XM} (h : CSh σ M) (g : Agr 67 83 M M') : CSh σ M' := by
  intro s hs
  obtain ⟨h0, h1, h2⟩ := h s hs
  refine ⟨fun e => ?_, fun e => ?_, fun e => ?_⟩
  · obtain ⟨q1, q2, q3⟩ := h0 e
    exact ⟨(g.i _ (by omega) (by omega)).trans q1, (g.i _ (by omega) (by omega)).trans q2, (g.i _ (by omega) (by omega)).trans q3⟩
  · obtain ⟨q1, q2, q3, q4⟩ := h1 e
    exact ⟨(g.i _ (by omega) (by omega)).trans q1, (g.i _ (by omega) (by omega)).trans q2, (g.i _ (by omega) (by omega)).trans q3, fun i hi => (g.j _ (by omega) (by omega)).trans (q4 i hi)⟩
  · obtain ⟨q1, q2, q3⟩ := h2 e
    exact ⟨(g.i _ (by omega) (by omega)).trans q1, (g.i _ (by omega) (by omega)).trans q2, (g.i _ (by omega) (by omega)).trans q3⟩
/-- what the class keeps: cells 20 (places 2, 5), 21 to 38, 51, 65 to 82 -/
theorem CInv.ag {σ : XS} {M M' : XM} (h : CInv σ M) (g0 : x_i M' 20 2 = x_i M 20 2 ∧ x_i M' 20 4 = x_i M 20 4) (g1 : Agr 21 39 M M') (g2 : Agr 51 52 M M') (g3 : Agr 65 83 M M') : CInv σ M' := by
  obtain ⟨h1, h2, h3, h4, h5, h6, h7⟩ := h
  refine ⟨h1.ag (g1.mono (by omega) (by omega)), ?_, h3.ag (g3.mono (by omega) (by omega)), fun k hk => (g2.i _ (by omega) (by omega)).trans (h4 k hk), g0.2.trans h5, (g3.i _ (by omega) (by omega)).trans h6, fun i hi hr => (g3.i _ (by omega) (by omega)).trans (h7 i hi hr)⟩
  unfold CI at h2 ⊢
  cases hm : s_img σ with
  | none => rw [hm] at h2; exact g0.1.trans h2
  | some κ => rw [hm] at h2; exact ⟨g0.1.trans h2.1, h2.2.ag (g1.mono (by omega) (by omega))⟩
/-- what the reference keeps: of cell 83 places 0 to 8, 40, 41; cells 84 to 95, 97, 100, 104 -/
theorem MInv.ag {σ : XS} {M M' : XM} (h : MInv σ M) (g0 : ∀ j, j < 9 ∨ j = 40 ∨ j = 41 → x_i M' 83 j = x_i M 83 j) (g1 : Agr 84 96 M M') (g2 : Agr 100 101 M M') (g3 : Agr 104 105 M M') : MInv σ M' := by
  obtain ⟨⟨⟨a1, a2, a3, a4, a5, a6, a7, a8⟩, hc, ht⟩, h2, h3, h4, h5, h6, h7⟩ := h
  refine ⟨⟨⟨(g0 _ (by omega)).trans a1, (g0 _ (by omega)).trans a2, (g0 _ (by omega)).trans a3, (g0 _ (by omega)).trans a4, (g0 _ (by omega)).trans a5, (g0 _ (by omega)).trans a6, (g0 _ (by omega)).trans a7, (g0 _ (by omega)).trans a8⟩, fun c hc' => ?_, fun i hi => (g1.i _ (by omega) (by omega)).trans (ht i hi)⟩, ?_, fun s hs => ?_, fun k hk => (g1.i _ (by omega) (by omega)).trans (h4 k hk), (g0 _ (by omega)).trans h5, (g0 _ (by omega)).trans h6, fun i hi hr => (g3.i _ (by omega) (by omega)).trans (h7 i hi hr)⟩
  · obtain ⟨q1, q2, q3, q4, q5⟩ := hc c hc'
    exact ⟨(g1.i _ (by omega) (by omega)).trans q1, (g1.i _ (by omega) (by omega)).trans q2, (g1.i _ (by omega) (by omega)).trans q3, (g1.i _ (by omega) (by omega)).trans q4, (g1.i _ (by omega) (by omega)).trans q5⟩
  · unfold MI at h2 ⊢
    cases hm : s_img σ with
    | none => rw [hm] at h2; exact (g0 _ (by omega)).trans h2
    | some κ =>
      rw [hm] at h2
      obtain ⟨e1, ⟨d1, d2, d3, d4, d5, d6, d7, d8⟩, dc, dt⟩ := h2
      refine ⟨(g0 _ (by omega)).trans e1, ⟨(g2.i _ (by omega) (by omega)).trans d1, (g2.i _ (by omega) (by omega)).trans d2, (g2.i _ (by omega) (by omega)).trans d3, (g2.i _ (by omega) (by omega)).trans d4, (g2.i _ (by omega) (by omega)).trans d5, (g2.i _ (by omega) (by omega)).trans d6, (g2.i _ (by omega) (by omega)).trans d7, (g2.i _ (by omega) (by omega)).trans d8⟩, fun c hc' => ?_, fun i hi => (g2.i _ (by omega) (by omega)).trans (dt i hi)⟩
      obtain ⟨q1, q2, q3, q4, q5⟩ := dc c hc'
      exact ⟨(g2.i _ (by omega) (by omega)).trans q1, (g2.i _ (by omega) (by omega)).trans q2, (g2.i _ (by omega) (by omega)).trans q3, (g2.i _ (by omega) (by omega)).trans q4, (g2.i _ (by omega) (by omega)).trans q5⟩
  · obtain ⟨q0, q1, q2⟩ := h3 s hs
    refine ⟨(g1.i _ (by omega) (by omega)).trans q0, fun e => ?_, fun e => (g1.i _ (by omega) (by omega)).trans (q2 e)⟩
    obtain ⟨p1, p2, p3⟩ := q1 e
    exact ⟨(g1.i _ (by omega) (by omega)).trans p1, (g1.i _ (by omega) (by omega)).trans p2, fun i hi => (g1.j _ (by omega) (by omega)).trans (p3 i hi)⟩
/-- a call on the class's side, on the reference's side -/
def OpC {α : Type} (f : XM → Option (α × XM)) (σ : XS) (r : α) (σ' : XS) : Prop := ∀ (L : Nat) (b1 b2 : Bool) (M : XM), Geo L b1 b2 M → CInv σ M → ∃ (M' : XM) (b1' b2' : Bool), f M = some (r, M') ∧ Geo L b1' b2' M' ∧ CInv σ' M' ∧ Agr 0 20 M M' ∧ Agr 83 105 M M'
def OpM {α : Type} (f : XM → Option (α × XM)) (σ : XS) (r : α) (σ' : XS) : Prop := ∀ (L : Nat) (b1 b2 : Bool) (M : XM), Geo L b1 b2 M → MInv σ M → MW M → ∃ (M' : XM), f M = some (r, M') ∧ Geo L b1 b2 M' ∧ MInv σ' M' ∧ MW M' ∧ Agr 0 83 M M'
