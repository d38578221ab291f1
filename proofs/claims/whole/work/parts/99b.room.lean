section
variable {L : Nat} {b1 b2 : Bool} {M : XM} {T : Nat → Int32} {n κ : Nat} {ρ : XR} {Q B : Nat} {σ : XS}
theorem MInv.room {P : Nat → Nat → Prop} {M' : XM} {v : Int32} (h : MInv σ M) (hR : MR ρ M') (f : Fr P M M') (hP : ∀ a k, (a = 83 ∧ (k = 40 ∨ k = 41) ∨ a = 84 ∨ 91 ≤ a ∧ a < 96 ∨ a = 100 ∨ a = 104) → ¬ P a k) (e : x_i M' 83 8 = v) : MInv (u_ft (u_now σ ρ) v) M' := by
  obtain ⟨h1, h2, h3, h4, h5, h6, h7⟩ := h
  have z : ∀ a k, (a = 83 ∧ (k = 40 ∨ k = 41) ∨ a = 84 ∨ 91 ≤ a ∧ a < 96 ∨ a = 100 ∨ a = 104) → x_i M' a k = x_i M a k := fun a k q => f.1 _ _ (hP a k q)
  refine ⟨hR, ?_, fun s hs => ?_, fun k hk => (z _ _ (by omega)).trans (h4 k hk), e, (z _ _ (by omega)).trans h6, fun i hi hr => (z _ _ (by omega)).trans (h7 i hi hr)⟩
  · unfold MI at h2 ⊢
    show match s_img σ with | none => _ | some κ => _
    cases hm : s_img σ with
    | none => rw [hm] at h2; exact (z _ _ (by omega)).trans h2
    | some κ =>
      rw [hm] at h2
      obtain ⟨e1, ⟨d1, d2, d3, d4, d5, d6, d7, d8⟩, dc, dt⟩ := h2
      refine ⟨(z _ _ (by omega)).trans e1, ⟨(z _ _ (by omega)).trans d1, (z _ _ (by omega)).trans d2, (z _ _ (by omega)).trans d3, (z _ _ (by omega)).trans d4, (z _ _ (by omega)).trans d5, (z _ _ (by omega)).trans d6, (z _ _ (by omega)).trans d7, (z _ _ (by omega)).trans d8⟩, fun c hc' => ?_, fun i hi => (z _ _ (by omega)).trans (dt i hi)⟩
      obtain ⟨q1, q2, q3, q4, q5⟩ := dc c hc'
      exact ⟨(z _ _ (by omega)).trans q1, (z _ _ (by omega)).trans q2, (z _ _ (by omega)).trans q3, (z _ _ (by omega)).trans q4, (z _ _ (by omega)).trans q5⟩
  · obtain ⟨q0, q1, q2⟩ := h3 s hs
    refine ⟨(z _ _ (by omega)).trans q0, fun e => ?_, fun e => (z _ _ (by omega)).trans (q2 e)⟩
    obtain ⟨p1, p2, p3⟩ := q1 e
    exact ⟨(z _ _ (by omega)).trans p1, (z _ _ (by omega)).trans p2, fun i hi => (f.2 _ _).trans (p3 i hi)⟩
/-- behind the row: either all of it is read, or it goes back -/
def NE (L : Nat) (b1 b2 : Bool) (M : XM) (r : Option Nat × Nat × XR) (o : Option (Int32 × XM)) : Prop :=
  ∃ M', Geo L b1 b2 M' ∧ Fr PI M M' ∧ (r.1 = none → o = some (nI r.2.1, M') ∧ MR r.2.2 M') ∧ ∀ f, r.1 = some f → (∃ c, o = f_X9_room_133 83 c (nI 0) M') ∧ x_i M' 83 28 = nI f
theorem NE.tr {M1 : XM} {r : Option Nat × Nat × XR} {o : Option (Int32 × XM)} (h : NE L b1 b2 M1 r o) (f : Fr PI M M1) : NE L b1 b2 M r o := by
  obtain ⟨M', h1, h2, h3⟩ := h
  exact ⟨M', h1, f.tr h2, h3⟩
theorem m_rlp (hn : n ≤ 160) (hκ : κ < 8) (d : Nat) : ∀ (F p c Q : Nat) (ρ : XR) (M : XM), d + 2 < F → Geo L b1 b2 M → MW M → QS T n κ p M → MR ρ M → WF Q ρ → Q + d ≤ 810000 → p ≤ n → n ≤ p + d →
    NE L b1 b2 M (rl T n d p c ρ) (lp_X9_room_62 F 83 (nI c) (nI 1) M) := by
  induction d with
  | zero =>
    intro F p c Q ρ M hF hG hMW hQ hR hV hQ8 hp hd
    obtain ⟨F, rfl⟩ : ∃ i, F = i + 1 := ⟨F - 1, by omega⟩
    obtain ⟨r0, r1, r2, r3⟩ := id hQ
    refine ⟨M, hG, Fr.rf, fun _ => ⟨?_, hR⟩, fun f h => no_s h.symm⟩
    rw [s_lp_X9_room_62]
    simp (disch := first | assumption | omega) only [bd_X9_room_62, f_X9_room_133, gt_83, r1, r2, rl, l_of, n_ltT, n_ltF, n_leT, n_leF, n_eqT, n_eqF, n_neM, n_Mne, n_M0, n_Mlt, n_0leM, nI_clamp, x_in_nI, n_1, nI_add, x_at, x_bd_s, x_bv_s, ↓x_lt, decide_true, decide_false, Bool.and_self, Bool.true_and, Bool.and_true, if_true, if_false, ite_true, ite_false, ↓reduceIte, not_true_eq_false, not_false_eq_true, Nat.reduceAdd, Nat.reduceMul, Nat.reduceEqDiff, eq_self, true_and, and_true, false_and, and_false, Option.some.injEq, Prod.mk.injEq, l_0, l_1, l_2, l_3, l_4, l_5, l_6, l_7, l_8, l_9, l_10, l_100, l_160, ↓m_1, ↓m_2, ↓m_3, ↓m_4, ↓m_5, ↓m_6, ↓m_7]
  | succ d ih =>
    intro F p c Q ρ M hF hG hMW hQ hR hV hQ8 hp hd
    obtain ⟨F, rfl⟩ : ∃ i, F = i + 1 + 1 := ⟨F - 2, by omega⟩
    obtain ⟨r0, r1, r2, r3⟩ := id hQ
    have k59 : (59 : Int32) = nI 59 := rfl
    have stop : ∀ (c : Int32) (V : XM), lp_X9_room_62 (F + 1) 83 c (nI 0) V = f_X9_room_133 83 c (nI 0) V := fun c V => by
      rw [s_lp_X9_room_62]
      simp (disch := first | assumption | omega) only [bd_X9_room_62, l_of, n_ltT, n_ltF, n_leT, n_leF, n_eqT, n_eqF, n_neM, n_Mne, n_M0, n_Mlt, n_0leM, nI_clamp, x_in_nI, n_1, nI_add, x_at, x_bd_s, x_bv_s, ↓x_lt, decide_true, decide_false, Bool.and_self, Bool.true_and, Bool.and_true, if_true, if_false, ite_true, ite_false, ↓reduceIte, not_true_eq_false, not_false_eq_true, Nat.reduceAdd, Nat.reduceMul, Nat.reduceEqDiff, eq_self, true_and, and_true, false_and, and_false, Option.some.injEq, Prod.mk.injEq, l_0, l_1, l_2, l_3, l_4, l_5, l_6, l_7, l_8, l_9, l_10, l_100, l_160, ↓m_1, ↓m_2, ↓m_3, ↓m_4, ↓m_5, ↓m_6, ↓m_7]
    rw [s_lp_X9_room_62]
    unfold rl
    by_cases q : n ≤ p
    · rw [if_pos q]
      refine ⟨M, hG, Fr.rf, fun _ => ⟨?_, hR⟩, fun f h => no_s h.symm⟩
      simp (disch := first | assumption | omega) only [bd_X9_room_62, f_X9_room_133, gt_83, r1, r2, rl, l_of, n_ltT, n_ltF, n_leT, n_leF, n_eqT, n_eqF, n_neM, n_Mne, n_M0, n_Mlt, n_0leM, nI_clamp, x_in_nI, n_1, nI_add, x_at, x_bd_s, x_bv_s, ↓x_lt, decide_true, decide_false, Bool.and_self, Bool.true_and, Bool.and_true, if_true, if_false, ite_true, ite_false, ↓reduceIte, not_true_eq_false, not_false_eq_true, Nat.reduceAdd, Nat.reduceMul, Nat.reduceEqDiff, eq_self, true_and, and_true, false_and, and_false, Option.some.injEq, Prod.mk.injEq, l_0, l_1, l_2, l_3, l_4, l_5, l_6, l_7, l_8, l_9, l_10, l_100, l_160, ↓m_1, ↓m_2, ↓m_3, ↓m_4, ↓m_5, ↓m_6, ↓m_7]
    rw [if_neg q]
    have y := r3 p (by omega)
    by_cases w : ok1 T n p 59
    · rw [if_pos w]
      rw [w.2] at y
      have f1 : Fr PI M (x_wi M 83 25 (nI (p + 1))) := Fr.rf.wi (by omega)
      have hG1 : Geo L b1 b2 (x_wi M 83 25 (nI (p + 1))) := hG
      have hQ1 : QS T n κ (p + 1) (x_wi M 83 25 (nI (p + 1))) := hQ.fr (P := PR) (Fr.rf.wi (by omega)) (by omega) (by rw [ii_wi, if_pos ⟨rfl, rfl⟩])
      obtain ⟨M2, g1, g2, g3, g4, g5⟩ := m_item (M := x_wi M 83 25 (nI (p + 1))) hG1 (hMW.ag (Agr.rf.wi (by omega))) hQ1 (hR.ag2 (fun a j h => by rw [ii_wi, if_neg (by omega)])) hV (by omega) hn hκ (by omega)
      have st : bd_X9_room_62 (lp_X9_room_62 (F + 1)) 83 (nI c) (nI 1) M = lp_X9_room_62 (F + 1) 83 (nI (c + 1)) (rV (it T n (p + 1) ρ)) M2 := by
        simp (disch := first | assumption | omega) only [bd_X9_room_62, f_X9_room_c125, gt_83, gr_83_20, gt_95, gl_95, r0, r1, r2, nI_add, y, k59, g1, l_of, n_ltT, n_ltF, n_leT, n_leF, n_eqT, n_eqF, n_neM, n_Mne, n_M0, n_Mlt, n_0leM, nI_clamp, x_in_nI, n_1, nI_add, x_at, x_bd_s, x_bv_s, ↓x_lt, decide_true, decide_false, Bool.and_self, Bool.true_and, Bool.and_true, if_true, if_false, ite_true, ite_false, ↓reduceIte, not_true_eq_false, not_false_eq_true, Nat.reduceAdd, Nat.reduceMul, Nat.reduceEqDiff, eq_self, true_and, and_true, false_and, and_false, Option.some.injEq, Prod.mk.injEq, l_0, l_1, l_2, l_3, l_4, l_5, l_6, l_7, l_8, l_9, l_10, l_100, l_160, ↓m_1, ↓m_2, ↓m_3, ↓m_4, ↓m_5, ↓m_6, ↓m_7]
      rw [st]
      have f2 := f1.tr g3
      by_cases k : (it T n (p + 1) ρ).1 = none
      · rw [if_pos k]
        obtain ⟨g6, g7⟩ := g4 k
        obtain ⟨a1, a2, a3, a4⟩ := it_w hV (show p + 1 ≤ n by omega) k
        have hv : rV (it T n (p + 1) ρ) = nI 1 := by unfold rV; rw [k]
        rw [hv]
        exact (ih (F + 1) (it T n (p + 1) ρ).2.1 (c + 1) (Q + 1) (it T n (p + 1) ρ).2.2 M2 (by omega) g2 (hMW.ag (f2.agr (fun a k h1 h2 q => by omega))) g6 g7 a1 (by omega) a4 (by omega)).tr f2
      · rw [if_neg k]
        cases hf : (it T n (p + 1) ρ).1 with
        | none => exact absurd hf k
        | some f =>
          have hv : rV (it T n (p + 1) ρ) = nI 0 := by unfold rV; rw [hf]
          rw [hv]
          refine ⟨M2, g2, f2, fun h => no_s h, fun e he => ⟨⟨nI (c + 1), stop _ _⟩, g5 e (hf.trans he)⟩⟩
    · rw [if_neg w]
      have hne : ¬ T p = nI 59 := fun z => w ⟨by omega, z⟩
      refine ⟨x_wi M 83 28 (nI p), hG, Fr.rf.wi (by omega), fun h => no_s h, fun e he => ⟨⟨nI c, ?_⟩, by rw [ii_wi, if_pos ⟨rfl, rfl⟩, Option.some.inj he]⟩⟩
      rw [← stop]
      simp (disch := first | assumption | omega) only [bd_X9_room_62, f_X9_room_c103, f_X9_wrong, gt_83, gr_83_20, gt_95, gl_95, r0, r1, r2, nI_add, y, k59, hne, l_of, n_ltT, n_ltF, n_leT, n_leF, n_eqT, n_eqF, n_neM, n_Mne, n_M0, n_Mlt, n_0leM, nI_clamp, x_in_nI, n_1, nI_add, x_at, x_bd_s, x_bv_s, ↓x_lt, decide_true, decide_false, Bool.and_self, Bool.true_and, Bool.and_true, if_true, if_false, ite_true, ite_false, ↓reduceIte, not_true_eq_false, not_false_eq_true, Nat.reduceAdd, Nat.reduceMul, Nat.reduceEqDiff, eq_self, true_and, and_true, false_and, and_false, Option.some.injEq, Prod.mk.injEq, l_0, l_1, l_2, l_3, l_4, l_5, l_6, l_7, l_8, l_9, l_10, l_100, l_160, ↓m_1, ↓m_2, ↓m_3, ↓m_4, ↓m_5, ↓m_6, ↓m_7]
theorem om_room (hW : WFS B σ) (hB : B ≤ 800000) (s : Int32) : OpM (f_X9_room 83 s) σ (sp_room σ s).1 (sp_room σ s).2 := by
  intro L b1 b2 M hG hI hMW
  show EndM L b1 b2 (f_X9_room 83 s) M (sp_room σ s)
  have hC := m_wanted hG hI hW s
  have hl := pq_le σ s s
  unfold sp_room
  by_cases h0 : pq σ s s = 0
  · rw [if_pos h0]
    rw [h0, rz_0] at hC
    obtain ⟨k, -, rfl, k8, k1, -, -, -⟩ := pq_0 h0
    rw [nI_clamp (show k < 2 ^ 31 by omega)]
    obtain ⟨-, p1, -⟩ := hI.2.2.1 k k8
    obtain ⟨pt, p3, p4⟩ := p1 k1
    have hz := ((hW.2.2.1 k k8).2.1 k1).2
    obtain ⟨M1, a1, a2, a3, a4⟩ := m_all0 (t := 99) hG (gt_99 hG) (gl_99 hG) (by omega) hI.1
    have zk : nI 160 * nI k = nI (160 * k) := pk_mul _ _
    have p3' := (a4.1 93 k (by omega)).trans p3
    have f1 : Fr (fun a k => a = 99 ∨ a = 83 ∧ (k = 8 ∨ 24 ≤ k ∧ k < 29)) M (x_wi (x_wi (x_wi (x_wi M1 83 24 (nI (160 * k))) 83 25 (nI 0)) 83 26 (nI (s_sh σ 2 k))) 83 8 (nM 1)) := ((((a4.mono (fun a k q => Or.inl q)).wi (by omega)).wi (by omega)).wi (by omega)).wi (by omega)
    have hG1 : Geo L b1 b2 (x_wi (x_wi (x_wi (x_wi M1 83 24 (nI (160 * k))) 83 25 (nI 0)) 83 26 (nI (s_sh σ 2 k))) 83 8 (nM 1)) := a2
    have hQ1 : QS (ea σ k) (s_sh σ 2 k) k 0 (x_wi (x_wi (x_wi (x_wi M1 83 24 (nI (160 * k))) 83 25 (nI 0)) 83 26 (nI (s_sh σ 2 k))) 83 8 (nM 1)) := by
      refine ⟨by simp (disch := first | assumption | omega) only [ii_wi, ji_wi, ri_wi, ti_wi, li_wi, ii_wj, ji_wj, ri_wj, ti_wj, li_wj, l_of, n_ltT, n_ltF, n_leT, n_leF, n_eqT, n_eqF, n_neM, n_Mne, n_M0, n_Mlt, n_0leM, nI_clamp, x_in_nI, n_1, nI_add, x_at, x_bd_s, x_bv_s, ↓x_lt, decide_true, decide_false, Bool.and_self, Bool.true_and, Bool.and_true, if_true, if_false, ite_true, ite_false, ↓reduceIte, not_true_eq_false, not_false_eq_true, Nat.reduceAdd, Nat.reduceMul, Nat.reduceEqDiff, eq_self, true_and, and_true, false_and, and_false, Option.some.injEq, Prod.mk.injEq, l_0, l_1, l_2, l_3, l_4, l_5, l_6, l_7, l_8, l_9, l_10, l_100, l_160, ↓m_1, ↓m_2, ↓m_3, ↓m_4, ↓m_5, ↓m_6, ↓m_7], by simp (disch := first | assumption | omega) only [ii_wi, ji_wi, ri_wi, ti_wi, li_wi, ii_wj, ji_wj, ri_wj, ti_wj, li_wj, l_of, n_ltT, n_ltF, n_leT, n_leF, n_eqT, n_eqF, n_neM, n_Mne, n_M0, n_Mlt, n_0leM, nI_clamp, x_in_nI, n_1, nI_add, x_at, x_bd_s, x_bv_s, ↓x_lt, decide_true, decide_false, Bool.and_self, Bool.true_and, Bool.and_true, if_true, if_false, ite_true, ite_false, ↓reduceIte, not_true_eq_false, not_false_eq_true, Nat.reduceAdd, Nat.reduceMul, Nat.reduceEqDiff, eq_self, true_and, and_true, false_and, and_false, Option.some.injEq, Prod.mk.injEq, l_0, l_1, l_2, l_3, l_4, l_5, l_6, l_7, l_8, l_9, l_10, l_100, l_160, ↓m_1, ↓m_2, ↓m_3, ↓m_4, ↓m_5, ↓m_6, ↓m_7], by simp (disch := first | assumption | omega) only [ii_wi, ji_wi, ri_wi, ti_wi, li_wi, ii_wj, ji_wj, ri_wj, ti_wj, li_wj, l_of, n_ltT, n_ltF, n_leT, n_leF, n_eqT, n_eqF, n_neM, n_Mne, n_M0, n_Mlt, n_0leM, nI_clamp, x_in_nI, n_1, nI_add, x_at, x_bd_s, x_bv_s, ↓x_lt, decide_true, decide_false, Bool.and_self, Bool.true_and, Bool.and_true, if_true, if_false, ite_true, ite_false, ↓reduceIte, not_true_eq_false, not_false_eq_true, Nat.reduceAdd, Nat.reduceMul, Nat.reduceEqDiff, eq_self, true_and, and_true, false_and, and_false, Option.some.injEq, Prod.mk.injEq, l_0, l_1, l_2, l_3, l_4, l_5, l_6, l_7, l_8, l_9, l_10, l_100, l_160, ↓m_1, ↓m_2, ↓m_3, ↓m_4, ↓m_5, ↓m_6, ↓m_7], fun i hi => ?_⟩
      rw [f1.2, p4 i (by omega)]
      rfl
    have e8 : x_i (x_wi (x_wi (x_wi (x_wi M1 83 24 (nI (160 * k))) 83 25 (nI 0)) 83 26 (nI (s_sh σ 2 k))) 83 8 (nM 1)) 83 8 = nM 1 := by rw [ii_wi, if_pos ⟨rfl, rfl⟩]
    have hK1 : MKt 99 (s_now σ) (x_wi (x_wi (x_wi (x_wi M1 83 24 (nI (160 * k))) 83 25 (nI 0)) 83 26 (nI (s_sh σ 2 k))) 83 8 (nM 1)) := a3
    have st : f_X9_room 83 (nI k) M = x_bd (f_X9_item 83 (x_wi (x_wi (x_wi (x_wi M1 83 24 (nI (160 * k))) 83 25 (nI 0)) 83 26 (nI (s_sh σ 2 k))) 83 8 (nM 1))) (f_X9_room_c57 83 (nI 1)) := by
      have y : ∀ u v, x_i (x_wi (x_wi M1 83 24 u) 83 25 v) 93 k = nI (s_sh σ 2 k) := fun u v => by rw [ii_wi, if_neg (by omega), ii_wi, if_neg (by omega)]; exact p3'
      simp (disch := first | assumption | omega) only [f_X9_room, f_X9_room_c2, f_X9_room_c22, gt_83, gr_83_18, gr_83_29, gt_93, gl_93, l_160, hC, a1, zk, y, ti_wi, ri_wi, li_wi, l_of, n_ltT, n_ltF, n_leT, n_leF, n_eqT, n_eqF, n_neM, n_Mne, n_M0, n_Mlt, n_0leM, nI_clamp, x_in_nI, n_1, nI_add, x_at, x_bd_s, x_bv_s, ↓x_lt, decide_true, decide_false, Bool.and_self, Bool.true_and, Bool.and_true, if_true, if_false, ite_true, ite_false, ↓reduceIte, not_true_eq_false, not_false_eq_true, Nat.reduceAdd, Nat.reduceMul, Nat.reduceEqDiff, eq_self, true_and, and_true, false_and, and_false, Option.some.injEq, Prod.mk.injEq, l_0, l_1, l_2, l_3, l_4, l_5, l_6, l_7, l_8, l_9, l_10, l_100, l_160, ↓m_1, ↓m_2, ↓m_3, ↓m_4, ↓m_5, ↓m_6, ↓m_7]
    rw [show EndM L b1 b2 (f_X9_room 83 (nI k)) M = EndM L b1 b2 (f_X9_room 83 (nI k)) M from rfl]
    generalize (x_wi (x_wi (x_wi (x_wi M1 83 24 (nI (160 * k))) 83 25 (nI 0)) 83 26 (nI (s_sh σ 2 k))) 83 8 (nM 1)) = W at f1 hG1 hQ1 e8 hK1 st
    have hMW1 : MW W := hMW.ag (f1.agr (fun a k h1 h2 q => by omega))
    have hR1 : MR (s_now σ) W := hI.1.ag2 (fun a j h => f1.1 _ _ (by omega))
    obtain ⟨M2, g1, g2, g3, g4, g5⟩ := m_item hG1 hMW1 hQ1 hR1 hW.1 (by omega) hz k8 (Nat.zero_le _)
    have key : NE L b1 b2 W (rmS σ k) (f_X9_room 83 (nI k) M) := by
      rw [st, g1]
      show NE L b1 b2 W (rm (ea σ k) (s_sh σ 2 k) (s_now σ)) (lp_X9_room_62 x_fuel 83 (nI 1) (rV (it (ea σ k) (s_sh σ 2 k) 0 (s_now σ))) M2)
      unfold rm
      by_cases h : (it (ea σ k) (s_sh σ 2 k) 0 (s_now σ)).1 = none
      · rw [if_pos h]
        obtain ⟨g6, g7⟩ := g4 h
        obtain ⟨c1, c2, c3, c4⟩ := it_w hW.1 (Nat.zero_le _) h
        have hv : rV (it (ea σ k) (s_sh σ 2 k) 0 (s_now σ)) = nI 1 := by unfold rV; rw [h]
        rw [hv]
        exact (m_rlp hz k8 (s_sh σ 2 k) x_fuel _ 1 (B + 1) _ M2 (fu (by omega)) g2 (hMW1.ag (g3.agr (fun a k h1 h2 q => by omega))) g6 g7 c1 (by omega) c4 (by omega)).tr g3
      · rw [if_neg h]
        cases hf : (it (ea σ k) (s_sh σ 2 k) 0 (s_now σ)).1 with
        | none => exact absurd hf h
        | some f =>
          have hv : rV (it (ea σ k) (s_sh σ 2 k) 0 (s_now σ)) = nI 0 := by unfold rV; rw [hf]
          rw [hv]
          refine ⟨M2, g2, g3, fun h => no_s h, fun e he => ⟨⟨nI 1, ?_⟩, g5 e (hf.trans he)⟩⟩
          have hx : x_fuel = 999999 + 1 := rfl
          rw [hx, s_lp_X9_room_62]
          simp (disch := first | assumption | omega) only [bd_X9_room_62, l_of, n_ltT, n_ltF, n_leT, n_leF, n_eqT, n_eqF, n_neM, n_Mne, n_M0, n_Mlt, n_0leM, nI_clamp, x_in_nI, n_1, nI_add, x_at, x_bd_s, x_bv_s, ↓x_lt, decide_true, decide_false, Bool.and_self, Bool.true_and, Bool.and_true, if_true, if_false, ite_true, ite_false, ↓reduceIte, not_true_eq_false, not_false_eq_true, Nat.reduceAdd, Nat.reduceMul, Nat.reduceEqDiff, eq_self, true_and, and_true, false_and, and_false, Option.some.injEq, Prod.mk.injEq, l_0, l_1, l_2, l_3, l_4, l_5, l_6, l_7, l_8, l_9, l_10, l_100, l_160, ↓m_1, ↓m_2, ↓m_3, ↓m_4, ↓m_5, ↓m_6, ↓m_7]
    obtain ⟨M3, u1, u2, u3, u4⟩ := key
    cases hr : (rmS σ k).1 with
    | none =>
      obtain ⟨v1, v2⟩ := u3 hr
      have F : Fr (fun a k => a = 99 ∨ a = 83 ∧ (k < 9 ∨ 24 ≤ k ∧ k < 29) ∨ 85 ≤ a ∧ a < 91 ∨ a = 98) M M3 := (f1.mono (fun a k q => by omega)).tr (u2.mono (fun a k q => by omega))
      exact ⟨M3, v1, u1, hI.room v2 F (fun a k h q => by omega) ((u2.1 _ _ (by omega)).trans e8), hMW.ag (F.agr (fun a k h1 h2 q => by omega)), F.agr (fun a k h1 h2 q => by omega)⟩
    | some f =>
      obtain ⟨⟨c, v1⟩, v2⟩ := u4 f hr
      have hK3 : MKt 99 (s_now σ) M3 := by
        obtain ⟨⟨d1, d2, d3, d4, d5, d6, d7, d8⟩, dc, dt⟩ := hK1
        have z : ∀ j, x_i M3 99 j = x_i W 99 j := fun j => u2.1 _ _ (by omega)
        refine ⟨⟨(z _).trans d1, (z _).trans d2, (z _).trans d3, (z _).trans d4, (z _).trans d5, (z _).trans d6, (z _).trans d7, (z _).trans d8⟩, fun c hc => ?_, fun i hi => (z _).trans (dt i hi)⟩
        obtain ⟨q1, q2, q3, q4, q5⟩ := dc c hc
        exact ⟨(z _).trans q1, (z _).trans q2, (z _).trans q3, (z _).trans q4, (z _).trans q5⟩
      obtain ⟨M4, t1, t2, t3, t4⟩ := m_all1 (t := 99) u1 (gt_99 u1) (gl_99 u1) (by omega) hK3
      have z28 := (t4.1 83 28 (by omega)).trans v2
      have F : Fr (fun a k => a = 99 ∨ a = 83 ∧ (k < 9 ∨ 24 ≤ k ∧ k < 29) ∨ 85 ≤ a ∧ a < 91 ∨ a = 98) M (x_wi M4 83 8 (nI f)) := (((f1.mono (fun a k q => by omega)).tr (u2.mono (fun a k q => by omega))).tr (t4.mono (fun a k q => by omega))).wi (by omega)
      have hG4 : Geo L b1 b2 (x_wi M4 83 8 (nI f)) := t2
      have hI4 : MInv (u_ft (u_now σ (s_now σ)) (nI f)) (x_wi M4 83 8 (nI f)) := hI.room (t3.ag2 (fun a j h => by rw [ii_wi, if_neg (by omega)])) F (fun a k h q => by omega) (by rw [ii_wi, if_pos ⟨rfl, rfl⟩])
      have hI4 : MInv (u_ft σ (nI f)) (x_wi M4 83 8 (nI f)) := hI4
      have hM4 : MW (x_wi M4 83 8 (nI f)) := hMW.ag (F.agr (fun a k h1 h2 q => by omega))
      refine ⟨a_no (x_wi M4 83 8 (nI f)) 6, ?_, hG4, hI4.rf, hM4.ag (Agr.rf.wi (by omega)), (F.agr (fun a k h1 h2 q => by omega)).tr (Agr.rf.wi (by omega))⟩
      rw [v1]
      have hno := m_noM (k := 6) hG4 (by omega)
      simp (disch := first | assumption | omega) only [f_X9_room_133, f_X9_room_c146, gt_83, gr_83_29, t1, z28, hno, l_of, n_ltT, n_ltF, n_leT, n_leF, n_eqT, n_eqF, n_neM, n_Mne, n_M0, n_Mlt, n_0leM, nI_clamp, x_in_nI, n_1, nI_add, x_at, x_bd_s, x_bv_s, ↓x_lt, decide_true, decide_false, Bool.and_self, Bool.true_and, Bool.and_true, if_true, if_false, ite_true, ite_false, ↓reduceIte, not_true_eq_false, not_false_eq_true, Nat.reduceAdd, Nat.reduceMul, Nat.reduceEqDiff, eq_self, true_and, and_true, false_and, and_false, Option.some.injEq, Prod.mk.injEq, l_0, l_1, l_2, l_3, l_4, l_5, l_6, l_7, l_8, l_9, l_10, l_100, l_160, ↓m_1, ↓m_2, ↓m_3, ↓m_4, ↓m_5, ↓m_6, ↓m_7]
  · rw [if_neg h0]
    rw [rz_s h0] at hC
    exact m_no_end hG hI hMW (by simp (disch := first | assumption | omega) only [f_X9_room, f_X9_room_c2, gt_83, gr_83_9, gt_84, gl_84, hC, m_noM, l_of, n_ltT, n_ltF, n_leT, n_leF, n_eqT, n_eqF, n_neM, n_Mne, n_M0, n_Mlt, n_0leM, nI_clamp, x_in_nI, n_1, nI_add, x_at, x_bd_s, x_bv_s, ↓x_lt, decide_true, decide_false, Bool.and_self, Bool.true_and, Bool.and_true, if_true, if_false, ite_true, ite_false, ↓reduceIte, not_true_eq_false, not_false_eq_true, Nat.reduceAdd, Nat.reduceMul, Nat.reduceEqDiff, eq_self, true_and, and_true, false_and, and_false, Option.some.injEq, Prod.mk.injEq, l_0, l_1, l_2, l_3, l_4, l_5, l_6, l_7, l_8, l_9, l_10, l_100, l_160, ↓m_1, ↓m_2, ↓m_3, ↓m_4, ↓m_5, ↓m_6, ↓m_7])
theorem wf_room (hW : WFS B σ) (s : Int32) : WFS (B + 400) (sp_room σ s).2 := by
  have hm : WFS (B + 400) σ := hW.mono (by omega)
  unfold sp_room
  by_cases h0 : pq σ s s = 0
  · rw [if_pos h0]
    obtain ⟨k, -, rfl, k8, k1, -, -, -⟩ := pq_0 h0
    rw [nI_clamp (show k < 2 ^ 31 by omega)]
    have hz := ((hW.2.2.1 k k8).2.1 k1).2
    cases hr : (rmS σ k).1 with
    | none =>
      obtain ⟨q1, q2⟩ := rm_w hW.1 hr
      have h : WFS (B + 400) (u_now σ (rmS σ k).2.2) := hW.now (by omega) (q1.mono (by omega)) q2
      exact h
    | some f => exact hm
  · rw [if_neg h0]
    exact hm
end
