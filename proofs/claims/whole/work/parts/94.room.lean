/-! ROOM -/
def OpCS {α : Type} (f : XM → Option (α × XM)) (σ : XS) (r : α) (σ' : XS) : Prop := ∀ (L : Nat) (b1 b2 : Bool) (M : XM), Geo L b1 b2 M → CInv σ M → CT M → CS M → ∃ (M' : XM) (b1' b2' : Bool), f M = some (r, M') ∧ Geo L b1' b2' M' ∧ CInv σ' M' ∧ Agr 0 20 M M' ∧ Agr 83 105 M M'
def rmS (σ : XS) (k : Nat) : Option Nat × Nat × XR := rm (ea σ k) (s_sh σ 2 k) (s_now σ)
def sp_room (σ : XS) (s : Int32) : Int32 × XS :=
  if pq σ s s = 0 then (match (rmS σ s.toNatClampNeg).1 with
    | none => (nI (rmS σ s.toNatClampNeg).2.1, u_ft (u_now σ (rmS σ s.toNatClampNeg).2.2) (nM 1))
    | some f => (nM 6, u_rf (u_ft σ (nI f)) 6))
  else (nM (pq σ s s), u_rf σ (pq σ s s))
section
variable {L : Nat} {b1 b2 : Bool} {M M' : XM} {σ : XS} {B : Nat}
theorem CInv.room {P : Nat → Nat → Prop} {ρ : XR} {v : Int32} (h : CInv σ M) (hR : CR 21 ρ M') (f : Fr P M M') (hP : ∀ a k, (a = 20 ∧ k = 2 ∨ 30 ≤ a ∧ a < 39 ∨ a = 51 ∨ 65 ≤ a ∧ a < 83) → ¬ P a k) (e : x_i M' 20 4 = v) : CInv (u_ft (u_now σ ρ) v) M' := by
  obtain ⟨h1, h2, h3, h4, h5, h6, h7⟩ := h
  have a1 : Agr 30 39 M M' := f.agr (fun a k h1 h2 => hP a k (by omega))
  have a2 : Agr 65 83 M M' := f.agr (fun a k h1 h2 => hP a k (by omega))
  refine ⟨hR, ?_, h3.ag (a2.mono (by omega) (by omega)), fun k hk => (f.1 _ _ (hP _ _ (by omega))).trans (h4 k hk), e, (f.1 _ _ (hP _ _ (by omega))).trans h6, fun i h8 h9 => (f.1 _ _ (hP _ _ (by omega))).trans (h7 i h8 h9)⟩
  unfold CI at h2 ⊢
  show match s_img σ with | none => _ | some κ => _
  have e2 : x_i M' 20 2 = x_i M 20 2 := f.1 _ _ (hP _ _ (by omega))
  cases hm : s_img σ with
  | none => rw [hm] at h2; exact e2.trans h2
  | some κ => rw [hm] at h2; exact ⟨e2.trans h2.1, h2.2.ag a1⟩
theorem c_readS {k z : Nat} {ρ : XR} (hG : Geo L b1 b2 M) (hT : CT M) (hS : CS M) (hD : CR 40 ρ M) (hV : WF B ρ) (hB : B ≤ 800000) (hk : k < 8) (hz : z ≤ 160) (p3 : x_i M (67 + 2 * k) 2 = nI z) (p4 : ∀ i, i < 160 → x_j M (68 + 2 * k) i = s_el σ k i) :
    ∃ w M', f_X5_read_c5 39 (67 + 2 * k) M = some (w, M') ∧ Geo L b1 b2 M' ∧ Fr (fun a _ => 39 ≤ a ∧ a < 50) M M' ∧ x_i M' 39 0 = oI (rm (ea σ k) z ρ).1 ∧ ((rm (ea σ k) z ρ).1 = none → w = nI (rm (ea σ k) z ρ).2.1 ∧ CR 40 (rm (ea σ k) z ρ).2.2 M') ∧ ∀ f, (rm (ea σ k) z ρ).1 = some f → f ≤ z + 8 := by
  have f0 : Fr (fun a _ => a = 39) M (x_wi M 39 3 (nI z)) := Fr.rf.wi rfl
  obtain ⟨M1, g1, g2, g3, g4⟩ := c_lay (σ := σ) (L := L) (b1 := b1) (b2 := b2) hk hz z x_fuel 0 (x_wi M 39 3 (nI z)) (fu (by omega)) hG (by rw [ii_wi, if_pos ⟨rfl, rfl⟩]) (by rw [ii_wi, if_neg (by omega)]; exact p3) (fun i hi => by rw [ji_wi]; exact p4 i hi) (by omega) (fun j hj => absurd hj (by omega))
  have f1 : Fr (fun a _ => a = 39 ∨ a = 49) M M1 := (f0.mono (fun a k q => Or.inl q)).tr g3
  have hT1 : CT M1 := hT.ag (f1.agr (fun a k h1 h2 q => by omega))
  have hS1 : CS M1 := hS.ag (f1.agr (fun a k h1 h2 q => by omega))
  have hD1 : CR 40 ρ M1 := hD.ag (f1.agr (fun a k h1 h2 q => by omega))
  obtain ⟨M2, u1, u2, u3, p', u4, u5⟩ := c_item (p := 0) g2 hT1 hS1 g4 hD1 hV (by omega) hz (Nat.zero_le _)
  have st : f_X5_read_c5 39 (67 + 2 * k) M = x_bv (f_X5_readItem 39 M1) (f_X5_read_c62 39) := by
    rw [← g1]
    by_cases q : nI 160 < nI z
    · exact absurd q (by rw [Int32.lt_iff_toInt_lt, nI_toInt (by omega), nI_toInt (by omega)]; omega)
    · simp (disch := first | assumption | omega) only [f_X5_read_c5, gst_67, gt_39, gr_39_2, gt_49, gl_49, p3, q, l_of, n_ltT, n_ltF, n_leT, n_leF, n_eqT, n_eqF, n_neM, n_Mne, n_M0, n_Mlt, n_0leM, nI_clamp, x_in_nI, n_1, nI_add, x_at, x_bd_s, x_bv_s, ↓x_lt, decide_true, decide_false, Bool.and_self, Bool.true_and, Bool.and_true, if_true, if_false, ite_true, ite_false, ↓reduceIte, not_true_eq_false, not_false_eq_true, Nat.reduceAdd, Nat.reduceMul, Nat.reduceEqDiff, eq_self, true_and, and_true, false_and, and_false, Option.some.injEq, Prod.mk.injEq, l_0, l_1, l_2, l_3, l_4, l_5, l_6, l_7, l_8, l_9, l_10, l_100, l_160, ↓m_1, ↓m_2, ↓m_3, ↓m_4, ↓m_5, ↓m_6, ↓m_7]
  have f2 : Fr (fun a _ => 39 ≤ a ∧ a < 50) M M2 := (f1.mono (fun a k q => by omega)).tr (u3.mono (fun a k q => by omega))
  rw [st, u1]
  show ∃ w M', lp_X5_read_67 x_fuel 39 1 M2 = some (w, M') ∧ _
  unfold rm
  by_cases h : (it (ea σ k) z 0 ρ).1 = none
  · rw [if_pos h]
    obtain ⟨v1, v2⟩ := u5 h
    rw [h, v1] at u4
    obtain ⟨a1, a2, a3, a4⟩ := it_w hV (Nat.zero_le _) h
    obtain ⟨w, M3, t1, t2, t3, t4, t5, t6⟩ := c_read_lp hz z x_fuel (it (ea σ k) z 0 ρ).2.1 1 (B + 1) (it (ea σ k) z 0 ρ).2.2 M2 (fu (by omega)) u2 (hT1.ag (u3.agr (fun a k h1 h2 q => by omega))) (hS1.ag (u3.agr (fun a k h1 h2 q => by omega))) u4 v2 a1 (by omega) a4 (by omega) (by omega)
    exact ⟨w, M3, t1, t2, f2.tr (t3.mono (fun a k q => by omega)), t4, t5, t6⟩
  · rw [if_neg h]
    cases hf : (it (ea σ k) z 0 ρ).1 with
    | none => exact absurd hf h
    | some f =>
      have hb := it_f (Nat.zero_le _) hf
      rw [hf] at u4
      exact ⟨nI 1, M2, c_stop (F := 999999) (c := 1) u2 u4.1 (by omega), u2, f2, u4.1, fun h => no_s h, fun e h => by have := Option.some.inj h; omega⟩
theorem oc_room (hW : WFS B σ) (hB : B ≤ 800000) (s : Int32) : OpCS (f_X8_room 20 s) σ (sp_room σ s).1 (sp_room σ s).2 := by
  intro L b1 b2 M hG hI hT hS
  show EndC L (f_X8_room 20 s) M (sp_room σ s)
  have hC := c_rows hG hI hW s s
  have hl := pq_le σ s s
  unfold sp_room
  by_cases h0 : pq σ s s = 0
  · rw [if_pos h0]
    rw [h0, rz_0] at hC
    obtain ⟨k, -, rfl, k8, k1, -, -, -⟩ := pq_0 h0
    rw [nI_clamp (show k < 2 ^ 31 by omega)]
    obtain ⟨-, p2, -⟩ := hI.2.2.1 k k8
    obtain ⟨p1, pt, p3, p4⟩ := p2 k1
    have hz := ((hW.2.2.1 k k8).2.1 k1).2
    obtain ⟨M1, a1, a2, a3, a4⟩ := c_like (r := 40) (s := 21) hG (by omega) (rg_40 hG) (rg_21 hG) hI.1
    have hT1 : CT M1 := hT.ag (a4.agr (fun a k h1 h2 q => by omega))
    have hS1 : CS M1 := hS.ag (a4.agr (fun a k h1 h2 q => by omega))
    obtain ⟨w, M2, g1, g2, g3, g4, g5, g6⟩ := c_readS (σ := σ) a2 hT1 hS1 a3 hW.1 hB k8 hz ((a4.1 _ _ (by omega)).trans p3) (fun i hi => (a4.2 _ _).trans (p4 i hi))
    have f2 : Fr (fun a _ => 39 ≤ a ∧ a < 50) M M2 := (a4.mono (fun a k q => by omega)).tr g3
    unfold rmS
    cases hr : (rm (ea σ k) (s_sh σ 2 k) (s_now σ)).1 with
    | none =>
      obtain ⟨g5, g7⟩ := g5 hr
      rw [hr] at g4
      have g4 : x_i M2 39 0 = nM 1 := g4
      subst g5
      have hG2 : Geo L b1 b2 (x_wi M2 20 4 (nM 1)) := g2
      have z5 : x_i (x_wi M2 20 4 (nM 1)) 20 4 = nM 1 := by rw [ii_wi, if_pos ⟨rfl, rfl⟩]
      obtain ⟨M3, t1, t2, t3, t4⟩ := c_like (r := 21) (s := 40) hG2 (by omega) (rg_21 hG2) (rg_40 hG2) (g7.ag (Agr.rf.wi (by omega)))
      have F : Fr (fun a k => a = 20 ∧ k = 4 ∨ 21 ≤ a ∧ a < 30 ∨ 39 ≤ a ∧ a < 50) M M3 := ((f2.mono (fun a k q => by omega)).wi (by omega)).tr (t4.mono (fun a k q => by omega))
      refine ⟨M3, b1, b2, ?_, t2, hI.room t3 F (fun a k h q => by omega) ((t4.1 _ _ (by omega)).trans z5), F.agr (fun a k h1 h2 q => by omega), F.agr (fun a k h1 h2 q => by omega)⟩
      simp (disch := first | assumption | omega) only [f_X8_room_c30, f_X8_room_c2, f_X8_room, f_X8_rowRefusal, f_X5_read, gt_20, gr_20_0, gr_20_3, gr_39_1, gr_20_5, gt_21, gt_40, gt_39, gt_50, gl_50, gs_50, hC, a1, g1, g4, z5, t1, ti_wi, ri_wi, l_of, n_ltT, n_ltF, n_leT, n_leF, n_eqT, n_eqF, n_neM, n_Mne, n_M0, n_Mlt, n_0leM, nI_clamp, x_in_nI, n_1, nI_add, x_at, x_bd_s, x_bv_s, ↓x_lt, decide_true, decide_false, Bool.and_self, Bool.true_and, Bool.and_true, if_true, if_false, ite_true, ite_false, ↓reduceIte, not_true_eq_false, not_false_eq_true, Nat.reduceAdd, Nat.reduceMul, Nat.reduceEqDiff, eq_self, true_and, and_true, false_and, and_false, Option.some.injEq, Prod.mk.injEq, l_0, l_1, l_2, l_3, l_4, l_5, l_6, l_7, l_8, l_9, l_10, l_100, l_160, ↓m_1, ↓m_2, ↓m_3, ↓m_4, ↓m_5, ↓m_6, ↓m_7]
    | some f =>
      have hb := g6 f hr
      rw [hr] at g4
      have g4 : x_i M2 39 0 = nI f := g4
      have hG2 : Geo L b1 b2 (x_wi M2 20 4 (nI f)) := g2
      have z5 : x_i (x_wi M2 20 4 (nI f)) 20 4 = nI f := by rw [ii_wi, if_pos ⟨rfl, rfl⟩]
      have F : Fr (fun a k => a = 20 ∧ k = 4 ∨ 39 ≤ a ∧ a < 50) M (x_wi M2 20 4 (nI f)) := (f2.mono (fun a k q => by omega)).wi (by omega)
      have hI2 : CInv (u_ft (u_now σ (s_now σ)) (nI f)) (x_wi M2 20 4 (nI f)) := hI.room (hI.1.ag (F.agr (fun a k h1 h2 q => by omega))) F (fun a k h q => by omega) z5
      have hI2 : CInv (u_ft σ (nI f)) (x_wi M2 20 4 (nI f)) := hI2
      refine ⟨b_no (x_wi M2 20 4 (nI f)) 6, b1, b2, ?_, hG2, hI2.rf, (F.agr (fun a k h1 h2 q => by omega)).tr (Agr.rf.wi (by omega)), (F.agr (fun a k h1 h2 q => by omega)).tr (Agr.rf.wi (by omega))⟩
      simp (disch := first | assumption | omega) only [f_X8_room_c30, f_X8_room_c2, f_X8_room, f_X8_rowRefusal, f_X5_read, gt_20, gr_20_0, gr_20_3, gr_39_1, gr_20_5, gr_20_6, gt_51, gl_51, gt_21, gt_40, gt_39, gt_50, gl_50, gs_50, hC, a1, g1, g4, z5, c_refM, ti_wi, ri_wi, l_of, n_ltT, n_ltF, n_leT, n_leF, n_eqT, n_eqF, n_neM, n_Mne, n_M0, n_Mlt, n_0leM, nI_clamp, x_in_nI, n_1, nI_add, x_at, x_bd_s, x_bv_s, ↓x_lt, decide_true, decide_false, Bool.and_self, Bool.true_and, Bool.and_true, if_true, if_false, ite_true, ite_false, ↓reduceIte, not_true_eq_false, not_false_eq_true, Nat.reduceAdd, Nat.reduceMul, Nat.reduceEqDiff, eq_self, true_and, and_true, false_and, and_false, Option.some.injEq, Prod.mk.injEq, l_0, l_1, l_2, l_3, l_4, l_5, l_6, l_7, l_8, l_9, l_10, l_100, l_160, ↓m_1, ↓m_2, ↓m_3, ↓m_4, ↓m_5, ↓m_6, ↓m_7]
  · rw [if_neg h0]
    rw [rz_s h0] at hC
    exact c_no_end hG hI (by simp (disch := first | assumption | omega) only [f_X8_room_c30, f_X8_room_c2, f_X8_room, f_X8_rowRefusal, gt_20, gr_20_6, gt_51, gl_51, hC, c_refM, l_of, n_ltT, n_ltF, n_leT, n_leF, n_eqT, n_eqF, n_neM, n_Mne, n_M0, n_Mlt, n_0leM, nI_clamp, x_in_nI, n_1, nI_add, x_at, x_bd_s, x_bv_s, ↓x_lt, decide_true, decide_false, Bool.and_self, Bool.true_and, Bool.and_true, if_true, if_false, ite_true, ite_false, ↓reduceIte, not_true_eq_false, not_false_eq_true, Nat.reduceAdd, Nat.reduceMul, Nat.reduceEqDiff, eq_self, true_and, and_true, false_and, and_false, Option.some.injEq, Prod.mk.injEq, l_0, l_1, l_2, l_3, l_4, l_5, l_6, l_7, l_8, l_9, l_10, l_100, l_160, ↓m_1, ↓m_2, ↓m_3, ↓m_4, ↓m_5, ↓m_6, ↓m_7])
end
