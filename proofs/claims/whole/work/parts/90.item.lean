/-! one item of a room's row -/
def ne (T : Nat → Int32) (n p : Nat) : Nat := (nu T n 4 p 0).1
def nv (T : Nat → Int32) (n p : Nat) : Nat := (nu T n 4 p 0).2
def tlo (k : Nat) : Nat := if k < 2 then 1 else 0
def thi (k : Nat) : Nat := if k < 2 then 200 else if k = 2 then 1000 else 99
def itb (T : Nat → Int32) (n k p : Nat) (ρ : XR) : Option Nat × Nat × XR :=
  if k = 5 then (if nbad T n 0 7 p then (some p, p, ρ) else if ok1 T n (ne T n p) 32 then (if nbad T n 0 10 (ne T n p + 1) then (some (ne T n p + 1), p, ρ) else (none, ne T n (ne T n p + 1), r_add ρ (nv T n p) (nv T n (ne T n p + 1)))) else (some (ne T n p), p, ρ))
  else if k = 4 then (if nbad T n 0 10000 p then (some p, p, ρ) else (none, ne T n p, r_tal ρ (nv T n p)))
  else if k = 6 then (if nbad T n 0 (r_s ρ 0) p then (some p, p, ρ) else if r_s ρ 1 ≤ r_q ρ 2 (nv T n p) then (some p, p, ρ) else (none, ne T n p, r_hear ρ (nv T n p)))
  else (if nbad T n (tlo k) (thi k + 1) p then (some p, p, ρ) else (none, ne T n p, r_set ρ k (nv T n p)))
def it (T : Nat → Int32) (n p : Nat) (ρ : XR) : Option Nat × Nat × XR :=
  if (wz T n p 7 0 0).1 = 7 then (some (p + (wz T n p 7 0 0).2), p, ρ)
  else if ((wz T n p 7 0 0).1 = 5 ∧ 6 ≤ r_s ρ 0) ∨ ((wz T n p 7 0 0).1 = 4 ∧ 8 ≤ r_s ρ 5) then (some p, p, ρ)
  else if ok1 T n (p + nl (wz T n p 7 0 0).1) 32 then itb T n (wz T n p 7 0 0).1 (p + nl (wz T n p 7 0 0).1 + 1) ρ
  else (some (p + nl (wz T n p 7 0 0).1), p, ρ)
abbrev P7 : Nat → Nat → Prop := fun a _ => 39 ≤ a ∧ a < 49
section
variable {L : Nat} {b1 b2 : Bool} {M : XM} {T : Nat → Int32} {n : Nat} {ρ : XR} {Q : Nat}
/-- what is so behind an item -/
def IE (L : Nat) (b1 b2 : Bool) (T : Nat → Int32) (n : Nat) (M : XM) (r : Option Nat × Nat × XR) (M' : XM) : Prop :=
  Geo L b1 b2 M' ∧ Fr P7 M M' ∧ ∃ p', RS T n p' (oI r.1) M' ∧ (r.1 = none → p' = r.2.1 ∧ CR 40 r.2.2 M')
theorem hh_n (m : Nat) (hm : m < 10000) : ∀ u, u < 10000 → (nI u ≤ nI m ↔ u < m + 1) := fun u hu => by
  rw [Int32.le_iff_toInt_le, nI_toInt (by omega), nI_toInt (by omega)]; omega
theorem hh_m (m : Nat) (hm : m < 10000) : ∀ u, u < 10000 → (nI u ≤ nI m - nI 1 ↔ u < m) := fun u hu => by
  rw [Int32.le_iff_toInt_le, nI_toInt (by omega), n_subT (by omega) (by omega)]; omega
theorem ne_n {p : Nat} (hp : p ≤ n) : ne T n p ≤ n ∧ p ≤ ne T n p ∧ nv T n p < 10000 := by
  have := nu_4 (T := T) (n := n) (p := p)
  unfold ne nv
  exact ⟨this.2.1 hp, this.1, this.2.2⟩
theorem rx_ft {p : Nat} {ft : Int32} (h : RS T n p ft M) : x_i M 39 0 = ft ∧ x_i M 39 4 = nI p := ⟨h.1, h.2.2.1⟩
theorem c_expn {p q c : Nat} (hG : Geo L b1 b2 M) (hR : RS T n p (nI q) M) (hq : q ≤ 160) : f_X5_expect 39 (nI c) M = some M := by
  obtain ⟨r0, -⟩ := id hR
  simp (disch := first | assumption | omega) only [f_X5_expect, gt_39, r0, l_of, n_ltT, n_ltF, n_leT, n_leF, n_eqT, n_eqF, n_neM, n_Mne, n_M0, n_Mlt, n_0leM, nI_clamp, x_in_nI, n_1, nI_add, x_at, x_bd_s, x_bv_s, ↓x_lt, decide_true, decide_false, Bool.and_self, Bool.true_and, Bool.and_true, if_true, if_false, ite_true, ite_false, ↓reduceIte, not_true_eq_false, not_false_eq_true, Nat.reduceAdd, Nat.reduceMul, Nat.reduceEqDiff, eq_self, true_and, and_true, false_and, and_false, Option.some.injEq, Prod.mk.injEq, l_0, l_1, l_2, l_3, l_4, l_5, l_6, l_7, l_8, l_9, l_10, l_100, l_160, ↓m_1, ↓m_2, ↓m_3, ↓m_4, ↓m_5, ↓m_6, ↓m_7]
theorem c_nuq {p q : Nat} {lo h : Int32} (hG : Geo L b1 b2 M) (hR : RS T n p (nI q) M) (hp : q ≤ 160) : f_X5_readNumber 39 lo h M = some (nM 1, M) := by
  obtain ⟨r0, r3, r4, r5⟩ := id hR
  simp (disch := first | assumption | omega) only [f_X5_readNumber, gt_39, r0, l_of, n_ltT, n_ltF, n_leT, n_leF, n_eqT, n_eqF, n_neM, n_Mne, n_M0, n_Mlt, n_0leM, nI_clamp, x_in_nI, n_1, nI_add, x_at, x_bd_s, x_bv_s, ↓x_lt, decide_true, decide_false, Bool.and_self, Bool.true_and, Bool.and_true, if_true, if_false, ite_true, ite_false, ↓reduceIte, not_true_eq_false, not_false_eq_true, Nat.reduceAdd, Nat.reduceMul, Nat.reduceEqDiff, eq_self, true_and, and_true, false_and, and_false, Option.some.injEq, Prod.mk.injEq, l_0, l_1, l_2, l_3, l_4, l_5, l_6, l_7, l_8, l_9, l_10, l_100, l_160, ↓m_1, ↓m_2, ↓m_3, ↓m_4, ↓m_5, ↓m_6, ↓m_7]
theorem c_itT {p : Nat} (hG : Geo L b1 b2 M) (hR : RS T n p (nM 1) M) (hD : CR 40 ρ M) (hn : n ≤ 160) (hp : p ≤ n) (h5 : r_s ρ 5 < 8) :
    ∃ M', f_X5_readTally 39 M = some M' ∧ IE L b1 b2 T n M (itb T n 4 p ρ) M' := by
  have hb := ne_n (T := T) hp
  obtain ⟨M1, g1, g2, g3, g4⟩ := c_num (lo := 0) (h := nI 9999) hG hR hn hp (by omega) (hh_n 9999 (by omega))
  have g1 : f_X5_readNumber 39 (nI 0) (nI 9999) M = some (nI (nv T n p), M1) := g1
  unfold itb
  rw [if_neg (by omega), if_pos rfl]
  by_cases q : nbad T n 0 10000 p
  · rw [if_pos q] at g4 ⊢
    refine ⟨M1, ?_, g2, g3.mono (fun a k z => by omega), _, g4, fun z => absurd z (by intro z; cases z)⟩
    obtain ⟨r0, -⟩ := id g4
    simp (disch := first | assumption | omega) only [f_X5_readTally, f_X5_readTally_c5, gt_39, l_9999, g1, r0, l_of, n_ltT, n_ltF, n_leT, n_leF, n_eqT, n_eqF, n_neM, n_Mne, n_M0, n_Mlt, n_0leM, nI_clamp, x_in_nI, n_1, nI_add, x_at, x_bd_s, x_bv_s, ↓x_lt, decide_true, decide_false, Bool.and_self, Bool.true_and, Bool.and_true, if_true, if_false, ite_true, ite_false, ↓reduceIte, not_true_eq_false, not_false_eq_true, Nat.reduceAdd, Nat.reduceMul, Nat.reduceEqDiff, eq_self, true_and, and_true, false_and, and_false, Option.some.injEq, Prod.mk.injEq, l_0, l_1, l_2, l_3, l_4, l_5, l_6, l_7, l_8, l_9, l_10, l_100, l_160, ↓m_1, ↓m_2, ↓m_3, ↓m_4, ↓m_5, ↓m_6, ↓m_7]
  · rw [if_neg q] at g4 ⊢
    obtain ⟨M2, w, u1, u2, u3, u4⟩ := c_tal39 (v := nv T n p) g2 (hD.ag (g3.agr (fun a k h1 h2 q => by omega))) h5
    refine ⟨M2, ?_, u2, (g3.mono (fun a k z => by omega)).tr (u4.mono (fun a k z => by omega)), _, g4.fr u4 (fun a k h q => by omega), fun _ => ⟨rfl, u3⟩⟩
    obtain ⟨r0, -⟩ := id g4
    simp (disch := first | assumption | omega) only [f_X5_readTally, f_X5_readTally_c5, gt_39, gr_39_1, gt_40, l_9999, g1, r0, u1, l_of, n_ltT, n_ltF, n_leT, n_leF, n_eqT, n_eqF, n_neM, n_Mne, n_M0, n_Mlt, n_0leM, nI_clamp, x_in_nI, n_1, nI_add, x_at, x_bd_s, x_bv_s, ↓x_lt, decide_true, decide_false, Bool.and_self, Bool.true_and, Bool.and_true, if_true, if_false, ite_true, ite_false, ↓reduceIte, not_true_eq_false, not_false_eq_true, Nat.reduceAdd, Nat.reduceMul, Nat.reduceEqDiff, eq_self, true_and, and_true, false_and, and_false, Option.some.injEq, Prod.mk.injEq, l_0, l_1, l_2, l_3, l_4, l_5, l_6, l_7, l_8, l_9, l_10, l_100, l_160, ↓m_1, ↓m_2, ↓m_3, ↓m_4, ↓m_5, ↓m_6, ↓m_7]
theorem c_itC {p : Nat} (hG : Geo L b1 b2 M) (hR : RS T n p (nM 1) M) (hD : CR 40 ρ M) (hn : n ≤ 160) (hp : p ≤ n) (h5 : r_s ρ 0 < 6) :
    ∃ M', f_X5_readCounter 39 M = some M' ∧ IE L b1 b2 T n M (itb T n 5 p ρ) M' := by
  have hb := ne_n (T := T) hp
  have zl : nI 7 - nI 1 = nI 6 := pk_sub (by omega)
  obtain ⟨M1, g1, g2, g3, g4⟩ := c_num (lo := 0) (h := nI 6) hG hR hn hp (by omega) (hh_n 6 (by omega))
  have g1 : f_X5_readNumber 39 (nI 0) (nI 6) M = some (nI (nv T n p), M1) := g1
  have k32 : (32 : Int32) = nI 32 := rfl
  unfold itb
  rw [if_pos rfl]
  by_cases q : nbad T n 0 7 p
  · rw [if_pos q] at g4 ⊢
    refine ⟨M1, ?_, g2, g3.mono (fun a k z => by omega), _, g4, fun z => absurd z (by intro z; cases z)⟩
    obtain ⟨r0, -⟩ := id g4
    have x1 := c_expn (c := 32) g2 g4 (by omega)
    have x2 := c_nuq (lo := nI 0) (h := nI 9) g2 g4 (by omega)
    simp (disch := first | assumption | omega) only [f_X5_readCounter, f_X5_readCounter_c8, f_X5_readCounter_c15, f_X5_readCounter_c22, gt_2, gl_2, gt_39, zl, k32, g1, x1, x2, r0, l_of, n_ltT, n_ltF, n_leT, n_leF, n_eqT, n_eqF, n_neM, n_Mne, n_M0, n_Mlt, n_0leM, nI_clamp, x_in_nI, n_1, nI_add, x_at, x_bd_s, x_bv_s, ↓x_lt, decide_true, decide_false, Bool.and_self, Bool.true_and, Bool.and_true, if_true, if_false, ite_true, ite_false, ↓reduceIte, not_true_eq_false, not_false_eq_true, Nat.reduceAdd, Nat.reduceMul, Nat.reduceEqDiff, eq_self, true_and, and_true, false_and, and_false, Option.some.injEq, Prod.mk.injEq, l_0, l_1, l_2, l_3, l_4, l_5, l_6, l_7, l_8, l_9, l_10, l_100, l_160, ↓m_1, ↓m_2, ↓m_3, ↓m_4, ↓m_5, ↓m_6, ↓m_7]
  · rw [if_neg q] at g4 ⊢
    have x1 := c_expect (c := 32) g2 g4 hn hb.1 (by omega)
    unfold eM at x1
    by_cases w : ok1 T n (ne T n p) 32
    · rw [if_pos w]
      have x1 : f_X5_expect 39 (nI 32) M1 = some (x_wi M1 39 4 (nI (ne T n p + 1))) := x1.trans (congrArg some (if_pos w))
      have f1 : Fr P8 M (x_wi M1 39 4 (nI (ne T n p + 1))) := g3.wi rfl
      have wn := w.1
      obtain ⟨M2, u1, u2, u3, u4⟩ := c_num (lo := 0) (h := nI 9) (p := ne T n p + 1) (L := L) (b1 := b1) (b2 := b2) (M := x_wi M1 39 4 (nI (ne T n p + 1))) g2 g4.w4 hn (by omega) (by omega) (hh_n 9 (by omega))
      have u1 : f_X5_readNumber 39 (nI 0) (nI 9) (x_wi M1 39 4 (nI (ne T n p + 1))) = some (nI (nv T n (ne T n p + 1)), M2) := u1
      by_cases q2 : nbad T n 0 10 (ne T n p + 1)
      · rw [if_pos q2] at u4 ⊢
        refine ⟨M2, ?_, u2, (f1.tr u3).mono (fun a k z => by omega), _, u4, fun z => absurd z (by intro z; cases z)⟩
        obtain ⟨r0, -⟩ := id u4
        simp (disch := first | assumption | omega) only [f_X5_readCounter, f_X5_readCounter_c8, f_X5_readCounter_c15, f_X5_readCounter_c22, gt_2, gl_2, gt_39, zl, k32, g1, x1, ti_wi, u1, r0, l_of, n_ltT, n_ltF, n_leT, n_leF, n_eqT, n_eqF, n_neM, n_Mne, n_M0, n_Mlt, n_0leM, nI_clamp, x_in_nI, n_1, nI_add, x_at, x_bd_s, x_bv_s, ↓x_lt, decide_true, decide_false, Bool.and_self, Bool.true_and, Bool.and_true, if_true, if_false, ite_true, ite_false, ↓reduceIte, not_true_eq_false, not_false_eq_true, Nat.reduceAdd, Nat.reduceMul, Nat.reduceEqDiff, eq_self, true_and, and_true, false_and, and_false, Option.some.injEq, Prod.mk.injEq, l_0, l_1, l_2, l_3, l_4, l_5, l_6, l_7, l_8, l_9, l_10, l_100, l_160, ↓m_1, ↓m_2, ↓m_3, ↓m_4, ↓m_5, ↓m_6, ↓m_7]
      · rw [if_neg q2] at u4 ⊢
        obtain ⟨M3, v, t1, t2, t3, t4⟩ := c_add39 (k := nv T n p) (j := nv T n (ne T n p + 1)) u2 (hD.ag ((f1.tr u3).agr (fun a k h1 h2 q => by omega))) h5
        refine ⟨M3, ?_, t2, ((f1.tr u3).mono (fun a k z => by omega)).tr (t4.mono (fun a k z => by omega)), _, u4.fr t4 (fun a k h q => by omega), fun _ => ⟨rfl, t3⟩⟩
        obtain ⟨r0, -⟩ := id u4
        simp (disch := first | assumption | omega) only [f_X5_readCounter, f_X5_readCounter_c8, f_X5_readCounter_c15, f_X5_readCounter_c22, gt_2, gl_2, gt_39, gr_39_1, gt_40, zl, k32, g1, x1, ti_wi, u1, r0, t1, l_of, n_ltT, n_ltF, n_leT, n_leF, n_eqT, n_eqF, n_neM, n_Mne, n_M0, n_Mlt, n_0leM, nI_clamp, x_in_nI, n_1, nI_add, x_at, x_bd_s, x_bv_s, ↓x_lt, decide_true, decide_false, Bool.and_self, Bool.true_and, Bool.and_true, if_true, if_false, ite_true, ite_false, ↓reduceIte, not_true_eq_false, not_false_eq_true, Nat.reduceAdd, Nat.reduceMul, Nat.reduceEqDiff, eq_self, true_and, and_true, false_and, and_false, Option.some.injEq, Prod.mk.injEq, l_0, l_1, l_2, l_3, l_4, l_5, l_6, l_7, l_8, l_9, l_10, l_100, l_160, ↓m_1, ↓m_2, ↓m_3, ↓m_4, ↓m_5, ↓m_6, ↓m_7]
    · rw [if_neg w]
      have x1 : f_X5_expect 39 (nI 32) M1 = some (x_wi M1 39 0 (nI (ne T n p))) := x1.trans (congrArg some (if_neg w))
      have r1 : RS T n (ne T n p) (nI (ne T n p)) (x_wi M1 39 0 (nI (ne T n p))) := g4.w0
      have hG1 : Geo L b1 b2 (x_wi M1 39 0 (nI (ne T n p))) := g2
      have x2 := c_nuq (lo := nI 0) (h := nI 9) hG1 r1 (by omega)
      obtain ⟨r0, -⟩ := id r1
      refine ⟨_, ?_, hG1, (g3.wi rfl).mono (fun a k z => by omega), _, r1, fun z => absurd z (by intro z; cases z)⟩
      simp (disch := first | assumption | omega) only [f_X5_readCounter, f_X5_readCounter_c8, f_X5_readCounter_c15, f_X5_readCounter_c22, gt_2, gl_2, gt_39, zl, k32, g1, x1, ti_wi, x2, r0, l_of, n_ltT, n_ltF, n_leT, n_leF, n_eqT, n_eqF, n_neM, n_Mne, n_M0, n_Mlt, n_0leM, nI_clamp, x_in_nI, n_1, nI_add, x_at, x_bd_s, x_bv_s, ↓x_lt, decide_true, decide_false, Bool.and_self, Bool.true_and, Bool.and_true, if_true, if_false, ite_true, ite_false, ↓reduceIte, not_true_eq_false, not_false_eq_true, Nat.reduceAdd, Nat.reduceMul, Nat.reduceEqDiff, eq_self, true_and, and_true, false_and, and_false, Option.some.injEq, Prod.mk.injEq, l_0, l_1, l_2, l_3, l_4, l_5, l_6, l_7, l_8, l_9, l_10, l_100, l_160, ↓m_1, ↓m_2, ↓m_3, ↓m_4, ↓m_5, ↓m_6, ↓m_7]
theorem c_itA {p : Nat} (hG : Geo L b1 b2 M) (hR : RS T n p (nM 1) M) (hD : CR 40 ρ M) (hV : WF Q ρ) (hQ : Q ≤ 810000) (hn : n ≤ 160) (hp : p ≤ n) :
    ∃ M', f_X5_readAsk 39 M = some M' ∧ IE L b1 b2 T n M (itb T n 6 p ρ) M' := by
  have hb := ne_n (T := T) hp
  obtain ⟨⟨w0, w1, w2, w3, w4, w5, w6, w7⟩, wc, wl, wt⟩ := id hV
  have e0 := hD.1.1
  have r4 := hR.2.2.1
  obtain ⟨M1, g1, g2, g3, g4⟩ := c_num (lo := 0) (h := nI (r_s ρ 0) - nI 1) hG hR hn hp (by omega) (hh_m (r_s ρ 0) (by omega))
  have g1 : f_X5_readNumber 39 (nI 0) (nI (r_s ρ 0) - nI 1) M = some (nI (nv T n p), M1) := g1
  unfold itb
  rw [if_neg (by omega), if_neg (by omega), if_pos rfl]
  by_cases q : nbad T n 0 (r_s ρ 0) p
  · rw [if_pos q] at g4 ⊢
    refine ⟨M1, ?_, g2, g3.mono (fun a k z => by omega), _, g4, fun z => absurd z (by intro z; cases z)⟩
    obtain ⟨r0, -⟩ := id g4
    simp (disch := first | assumption | omega) only [f_X5_readAsk, f_X5_readAsk_c16, gt_39, gr_39_1, gt_40, e0, r4, g1, r0, l_of, n_ltT, n_ltF, n_leT, n_leF, n_eqT, n_eqF, n_neM, n_Mne, n_M0, n_Mlt, n_0leM, nI_clamp, x_in_nI, n_1, nI_add, x_at, x_bd_s, x_bv_s, ↓x_lt, decide_true, decide_false, Bool.and_self, Bool.true_and, Bool.and_true, if_true, if_false, ite_true, ite_false, ↓reduceIte, not_true_eq_false, not_false_eq_true, Nat.reduceAdd, Nat.reduceMul, Nat.reduceEqDiff, eq_self, true_and, and_true, false_and, and_false, Option.some.injEq, Prod.mk.injEq, l_0, l_1, l_2, l_3, l_4, l_5, l_6, l_7, l_8, l_9, l_10, l_100, l_160, ↓m_1, ↓m_2, ↓m_3, ↓m_4, ↓m_5, ↓m_6, ↓m_7]
  · rw [if_neg q] at g4 ⊢
    obtain ⟨r0, -⟩ := id g4
    have hD1 : CR 40 ρ M1 := hD.ag (g3.agr (fun a k h1 h2 q => by omega))
    have q3 : nv T n p < r_s ρ 0 := by
      have : ¬ r_s ρ 0 ≤ nv T n p := fun z => q (Or.inr (Or.inr z))
      omega
    have k6 : nv T n p < 6 := by omega
    have e1 := hD1.1.2.1
    have e2 := (hD1.2.1 (nv T n p) k6).2.2.1
    have y3 := (wc (nv T n p) k6).2.2.1
    by_cases w : r_s ρ 1 ≤ r_q ρ 2 (nv T n p)
    · rw [if_pos w]
      refine ⟨x_wi M1 39 0 (nI p), ?_, g2, (g3.wi rfl).mono (fun a k z => by omega), _, g4.w0, fun z => absurd z (by intro z; cases z)⟩
      simp (disch := first | assumption | omega) only [f_X5_readAsk, f_X5_readAsk_c16, f_X5_readAsk_c34, f_X4_isThrough, gt_39, gr_39_1, gt_40, gr_40_0, gt_41, gl_41, gc_41, gct_43, e0, e1, e2, r4, g1, r0, l_of, n_ltT, n_ltF, n_leT, n_leF, n_eqT, n_eqF, n_neM, n_Mne, n_M0, n_Mlt, n_0leM, nI_clamp, x_in_nI, n_1, nI_add, x_at, x_bd_s, x_bv_s, ↓x_lt, decide_true, decide_false, Bool.and_self, Bool.true_and, Bool.and_true, if_true, if_false, ite_true, ite_false, ↓reduceIte, not_true_eq_false, not_false_eq_true, Nat.reduceAdd, Nat.reduceMul, Nat.reduceEqDiff, eq_self, true_and, and_true, false_and, and_false, Option.some.injEq, Prod.mk.injEq, l_0, l_1, l_2, l_3, l_4, l_5, l_6, l_7, l_8, l_9, l_10, l_100, l_160, ↓m_1, ↓m_2, ↓m_3, ↓m_4, ↓m_5, ↓m_6, ↓m_7]
    · rw [if_neg w]
      obtain ⟨M2, u1, u2, u3, u4⟩ := c_pass39 g2 hD1 hV hQ k6 (by omega)
      refine ⟨M2, ?_, u2, (g3.mono (fun a k z => by omega)).tr (u4.mono (fun a k z => by omega)), _, g4.fr u4 (fun a k h q => by omega), fun _ => ⟨rfl, u3⟩⟩
      simp (disch := first | assumption | omega) only [f_X5_readAsk, f_X5_readAsk_c16, f_X5_readAsk_c34, f_X4_isThrough, gt_39, gr_39_1, gt_40, gr_40_0, gt_41, gl_41, gc_41, gct_43, e0, e1, e2, r4, g1, r0, u1, l_of, n_ltT, n_ltF, n_leT, n_leF, n_eqT, n_eqF, n_neM, n_Mne, n_M0, n_Mlt, n_0leM, nI_clamp, x_in_nI, n_1, nI_add, x_at, x_bd_s, x_bv_s, ↓x_lt, decide_true, decide_false, Bool.and_self, Bool.true_and, Bool.and_true, if_true, if_false, ite_true, ite_false, ↓reduceIte, not_true_eq_false, not_false_eq_true, Nat.reduceAdd, Nat.reduceMul, Nat.reduceEqDiff, eq_self, true_and, and_true, false_and, and_false, Option.some.injEq, Prod.mk.injEq, l_0, l_1, l_2, l_3, l_4, l_5, l_6, l_7, l_8, l_9, l_10, l_100, l_160, ↓m_1, ↓m_2, ↓m_3, ↓m_4, ↓m_5, ↓m_6, ↓m_7]
theorem c_itS {p k : Nat} (hG : Geo L b1 b2 M) (hT : CT M) (hR : RS T n p (nM 1) M) (hD : CR 40 ρ M) (hV : WF Q ρ) (hn : n ≤ 160) (hp : p ≤ n) (hk : k < 4) :
    ∃ M', f_X5_readSetting 39 (nI k) M = some M' ∧ IE L b1 b2 T n M (itb T n k p ρ) M' := by
  have hb := ne_n (T := T) hp
  obtain ⟨-, ⟨t0, t1, t2, t3⟩, t4, t5, t6, t7⟩ := hT
  have a1 : x_i M 3 k = nI (tlo k) := by
    rcases (by omega : k = 0 ∨ k = 1 ∨ k = 2 ∨ k = 3) with h | h | h | h <;> subst h <;> assumption
  have a2 : x_i M 4 k = nI (thi k) := by
    rcases (by omega : k = 0 ∨ k = 1 ∨ k = 2 ∨ k = 3) with h | h | h | h <;> subst h <;> assumption
  have h1 : tlo k ≤ 1 := by unfold tlo; split <;> omega
  have h2 : thi k ≤ 1000 ∧ (k = 0 → thi k = 200) := by unfold thi; split <;> (try split) <;> omega
  obtain ⟨M1, g1, g2, g3, g4⟩ := c_num (lo := tlo k) (h := nI (thi k)) hG hR hn hp (by omega) (hh_n (thi k) (by omega))
  have g1 : f_X5_readNumber 39 (nI (tlo k)) (nI (thi k)) M = some (nI (nv T n p), M1) := g1
  unfold itb
  rw [if_neg (by omega), if_neg (by omega), if_neg (by omega)]
  by_cases q : nbad T n (tlo k) (thi k + 1) p
  · rw [if_pos q] at g4 ⊢
    refine ⟨M1, ?_, g2, g3.mono (fun a k z => by omega), _, g4, fun z => absurd z (by intro z; cases z)⟩
    obtain ⟨r0, -⟩ := id g4
    simp (disch := first | assumption | omega) only [f_X5_readSetting, f_X5_readSetting_c1, f_X5_readSetting_c19, f_X8_isSetting, gt_39, gt_3, gl_3, gt_4, gl_4, a1, a2, g1, r0, l_of, n_ltT, n_ltF, n_leT, n_leF, n_eqT, n_eqF, n_neM, n_Mne, n_M0, n_Mlt, n_0leM, nI_clamp, x_in_nI, n_1, nI_add, x_at, x_bd_s, x_bv_s, ↓x_lt, decide_true, decide_false, Bool.and_self, Bool.true_and, Bool.and_true, if_true, if_false, ite_true, ite_false, ↓reduceIte, not_true_eq_false, not_false_eq_true, Nat.reduceAdd, Nat.reduceMul, Nat.reduceEqDiff, eq_self, true_and, and_true, false_and, and_false, Option.some.injEq, Prod.mk.injEq, l_0, l_1, l_2, l_3, l_4, l_5, l_6, l_7, l_8, l_9, l_10, l_100, l_160, ↓m_1, ↓m_2, ↓m_3, ↓m_4, ↓m_5, ↓m_6, ↓m_7]
  · rw [if_neg q] at g4 ⊢
    have q3 : nv T n p < thi k + 1 := by
      have : ¬ thi k + 1 ≤ nv T n p := fun z => q (Or.inr (Or.inr z))
      omega
    obtain ⟨r0, -⟩ := id g4
    obtain ⟨M2, w, u1, u2, u3, u4⟩ := c_set39 (k := k) (v := nv T n p) g2 (hD.ag (g3.agr (fun a k h1 h2 q => by omega))) hV hk (by omega) (fun z => by have := h2.2 z; omega)
    refine ⟨M2, ?_, u2, (g3.mono (fun a k z => by omega)).tr (u4.mono (fun a k z => by omega)), _, g4.fr u4 (fun a k h q => by omega), fun _ => ⟨rfl, u3⟩⟩
    simp (disch := first | assumption | omega) only [f_X5_readSetting, f_X5_readSetting_c1, f_X5_readSetting_c19, f_X8_isSetting, gt_39, gr_39_1, gt_40, gt_3, gl_3, gt_4, gl_4, a1, a2, g1, r0, u1, l_of, n_ltT, n_ltF, n_leT, n_leF, n_eqT, n_eqF, n_neM, n_Mne, n_M0, n_Mlt, n_0leM, nI_clamp, x_in_nI, n_1, nI_add, x_at, x_bd_s, x_bv_s, ↓x_lt, decide_true, decide_false, Bool.and_self, Bool.true_and, Bool.and_true, if_true, if_false, ite_true, ite_false, ↓reduceIte, not_true_eq_false, not_false_eq_true, Nat.reduceAdd, Nat.reduceMul, Nat.reduceEqDiff, eq_self, true_and, and_true, false_and, and_false, Option.some.injEq, Prod.mk.injEq, l_0, l_1, l_2, l_3, l_4, l_5, l_6, l_7, l_8, l_9, l_10, l_100, l_160, ↓m_1, ↓m_2, ↓m_3, ↓m_4, ↓m_5, ↓m_6, ↓m_7]
end
