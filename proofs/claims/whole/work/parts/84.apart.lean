/-! the best APART -/
section
variable {o n p kd a x0 hd : Nat}
theorem fk_far : ∀ (k y g : Nat), x0 + k < y → (fk o n p kd a x0 hd k).1 y g = 0 := by
  intro k
  induction k with
  | zero =>
    intro y g h
    show (if y = x0 ∧ g = hd % tn kd a ∧ y < n then 1000000 else 0) = 0
    rw [if_neg (by omega)]
  | succ k ih =>
    intro y g h
    show sm (fun x => sm (fun q => ct o p kd a (fk o n p kd a x0 hd k).1 x q y g) (tn kd a)) n = 0
    refine sm_z n (fun x _ => sm_z _ (fun q _ => ?_))
    by_cases z : x0 + k < x
    · exact ct_0 (ih x q z)
    · have := lf_le p kd a x (q + 1)
      show (if y = lf p kd a x (q + 1) ∧ g = (q + 1) % tn kd a then _ else 0) + (if y = x + 1 ∧ g = q then _ else 0) = 0
      rw [if_neg (by omega), if_neg (by omega)]
theorem fk_z : ∀ (k : Nat), x0 + k < n → (fk o n p kd a x0 hd k).2 = 0 := by
  intro k
  induction k with
  | zero =>
    intro h
    show (if n ≤ x0 then 1000000 else 0) = 0
    rw [if_neg (by omega)]
  | succ k ih =>
    intro h
    show (fk o n p kd a x0 hd k).2 + sm (fun x => sm (fun q => cn o n (fk o n p kd a x0 hd k).1 x q) (tn kd a)) n = 0
    rw [ih (by omega), sm_z n (fun x _ => sm_z _ (fun q _ => ?_))]
    by_cases z : x + 1 = n
    · exact cn_0 (fk_far k x q (by omega))
    · show (if x + 1 = n then _ else 0) = 0
      rw [if_neg z]
theorem um_lo {v : Nat} (hv : 1 ≤ v) (d : Nat) : ∀ (s r : Nat), um o n p kd a x0 hd v d s = some r → s ≤ r ∧ r < s + d ∧ n ≤ x0 + r := by
  induction d with
  | zero => intro s r h; exact absurd h (by unfold um; exact fun q => by cases q)
  | succ d ih =>
    intro s r h
    unfold um at h
    by_cases q : v ≤ (fk o n p kd a x0 hd s).2
    · rw [if_pos q] at h
      have e : s = r := Option.some.inj h
      subst e
      refine ⟨Nat.le_refl _, by omega, ?_⟩
      by_cases z : x0 + s < n
      · rw [fk_z s z] at q; omega
      · omega
    · rw [if_neg q] at h
      have := ih _ _ h
      omega
theorem um_ge {v : Nat} (d : Nat) : ∀ (s r : Nat), um o n p kd a x0 hd v d s = some r → s ≤ r := by
  induction d with
  | zero => intro s r h; exact absurd h (by unfold um; exact fun q => by cases q)
  | succ d ih =>
    intro s r h
    unfold um at h
    by_cases q : v ≤ (fk o n p kd a x0 hd s).2
    · rw [if_pos q] at h
      have e : s = r := Option.some.inj h
      omega
    · rw [if_neg q] at h
      have := ih _ _ h
      omega
theorem um_cut {v : Nat} (d : Nat) : ∀ (D s : Nat), d ≤ D → um o n p kd a x0 hd v d s = match um o n p kd a x0 hd v D s with | none => none | some r => if r < s + d then some r else none := by
  induction d with
  | zero =>
    intro D s _
    show none = _
    cases hq : um o n p kd a x0 hd v D s with
    | none => rfl
    | some r =>
      have := um_ge D s r hq
      show none = if r < s + 0 then some r else none
      rw [if_neg (by omega)]
  | succ d ih =>
    intro D s hD
    obtain ⟨D, rfl⟩ : ∃ i, D = i + 1 := ⟨D - 1, by omega⟩
    unfold um
    by_cases q : v ≤ (fk o n p kd a x0 hd s).2
    · rw [if_pos q, if_pos q]
      show some s = if s < s + (d + 1) then some s else none
      rw [if_pos (by omega)]
    · rw [if_neg q, if_neg q, ih D (s + 1) (by omega)]
      have e : s + 1 + d = s + (d + 1) := by omega
      rw [e]
end
/-- the best, the least; no best: 0, and the largest number -/
def bs (g : Option Nat) (cost p : Nat) (q : Nat × Nat) : Nat × Nat :=
  match g with
  | none => q
  | some r => if r + cost < q.2 then (p, r + cost) else q
def ba (g : Nat → Option Nat) (cs : Nat → Nat) : Nat → Nat → Nat × Nat → Nat × Nat
  | 0, _, q => q
  | d + 1, p, q => ba g cs d (p + 1) (bs (g p) (cs p) p q)
def bI (b : Nat) : Int32 := if b = 0 then nM 1 else nI b
def csS (σ : XS) (p : Nat) : Nat := r_s (s_now σ) 4 * (r_s (s_now σ) 1 / p)
def sp_bestApart (σ : XS) (c v : Int32) : Int32 × XS :=
  if c < nI 0 ∨ r_s (s_now σ) 0 ≤ c.toNatClampNeg then (nM 11, u_rf σ 1) else if ¬ (r_q (s_now σ) 0 c.toNatClampNeg = 1 ∨ r_q (s_now σ) 0 c.toNatClampNeg = 5) then (nM 12, u_rf σ 2) else if v < nI 1 ∨ 1000000 < v.toNatClampNeg then (nM 16, u_rf σ 6) else
    (bI (ba (fun p => umS σ p c.toNatClampNeg v.toNatClampNeg 401) (csS σ) (r_s (s_now σ) 1) 1 (0, 2147483647)).1, σ)
theorem ms_A {l c : Nat} (h : 1 + c ≤ l) (hl : l < 2147483648) : nI l - nI 1 - nI c = nI (l - 1 - c) := by
  have h1 : nI l - nI 1 = nI (l - 1) := pk_sub (by omega)
  have h2 : nI (l - 1) - nI c = nI (l - 1 - c) := pk_sub (by omega)
  rw [h1, h2]
theorem ms_B {l c : Nat} (h : l < 1 + c) (hc : c < 1000000) : nI l - nI 1 - nI c = nM (1 + c - l) := by
  apply Int32.toInt_inj.mp
  have h1 : (nI l - nI 1).toInt = (l : Int) - ((1 : Nat) : Int) := n_subT (by omega) (by omega)
  rw [Int32.toInt_sub, h1, nI_toInt (by omega), nM_toInt (by omega)]
  rw [Int.bmod_eq_of_le] <;> omega
theorem l_big : (2147483647 : Int32) = nI 2147483647 := rfl
section
variable {L : Nat} {b1 b2 : Bool} {σ : XS} {B : Nat}
theorem csS_b (hW : WFS B σ) (p : Nat) : csS σ p ≤ 19800 := by
  obtain ⟨⟨w0, w1, w2, w3, w4, w5, w6, w7⟩, wc, wl, wt⟩ := id hW.1
  unfold csS
  have h1 : r_s (s_now σ) 1 / p ≤ r_s (s_now σ) 1 := Nat.div_le_self _ _
  calc r_s (s_now σ) 4 * (r_s (s_now σ) 1 / p) ≤ 99 * 200 := Nat.mul_le_mul w6 (by omega)
    _ = 19800 := rfl
theorem cs_e (hW : WFS B σ) {p : Nat} (hp : 1 ≤ p) (hp2 : p ≤ 200) : nI (r_s (s_now σ) 4) * (nI (r_s (s_now σ) 1) / nI p) = nI (csS σ p) := by
  obtain ⟨⟨w0, w1, w2, w3, w4, w5, w6, w7⟩, wc, wl, wt⟩ := id hW.1
  have h := csS_b hW p
  unfold csS at h ⊢
  have h1 : nI (r_s (s_now σ) 1) / nI p = nI (r_s (s_now σ) 1 / p) := pk_div (by omega) (by omega) (by omega)
  rw [h1]
  exact pk_mul _ _
/-- the class's round of one APART -/
theorem c_ba {c v : Nat} (hW : WFS B σ) (hB : B ≤ 800000) (hc : c < r_s (s_now σ) 0) (hv : 1 ≤ v) (hv2 : v ≤ 1000000) (d : Nat) : ∀ (F p : Nat) (q : Nat × Nat) (b1 : Bool) (M : XM), d < F → Geo L b1 b2 M → CT M → CR 21 (s_now σ) M → 1 ≤ p → p + d = r_s (s_now σ) 1 + 1 → q.1 ≤ 200 → q.2 ≤ 2147483647 →
    ∃ M' b1', lp_X8_bestApart_79 F 20 (nI c) (nI v) (bI q.1) (nI q.2) (nI (r_s (s_now σ) 1 - r_q (s_now σ) 2 c)) (nI p) M = some (bI (ba (fun p => umS σ p c v 401) (csS σ) d p q).1, M') ∧ Geo L b1' b2 M' ∧ Fr PX M M' := by
  obtain ⟨⟨w0, w1, w2, w3, w4, w5, w6, w7⟩, wc, wl, wt⟩ := id hW.1
  have y5 := wl c hc
  induction d with
  | zero =>
    intro F p q b1 M hF hG hT hR hp hd h1 h2
    obtain ⟨F, rfl⟩ : ∃ i, F = i + 1 := ⟨F - 1, by omega⟩
    have e1 := hR.1.2.1
    refine ⟨M, b1, ?_, hG, Fr.rf⟩
    rw [s_lp_X8_bestApart_79]
    simp (disch := first | assumption | omega) only [bd_X8_bestApart_79, gt_20, gr_20_0, gt_21, e1, ba, l_of, n_ltT, n_ltF, n_leT, n_leF, n_eqT, n_eqF, n_neM, n_Mne, n_M0, n_Mlt, n_0leM, nI_clamp, x_in_nI, n_1, nI_add, x_at, x_bd_s, x_bv_s, ↓x_lt, decide_true, decide_false, Bool.and_self, Bool.true_and, Bool.and_true, if_true, if_false, ite_true, ite_false, ↓reduceIte, not_true_eq_false, not_false_eq_true, Nat.reduceAdd, Nat.reduceMul, Nat.reduceEqDiff, eq_self, true_and, and_true, false_and, and_false, Option.some.injEq, Prod.mk.injEq, l_0, l_1, l_2, l_3, l_4, l_5, l_6, l_7, l_8, l_9, l_10, l_100, l_160, ↓m_1, ↓m_2, ↓m_3, ↓m_4, ↓m_5, ↓m_6, ↓m_7]
  | succ d ih =>
    intro F p q b1 M hF hG hT hR hp hd h1 h2
    obtain ⟨F, rfl⟩ : ∃ i, F = i + 1 := ⟨F - 1, by omega⟩
    obtain ⟨b, l⟩ := q
    dsimp only at h1 h2
    obtain ⟨⟨e0, e1, e2, e3, e4, e5, e6, e7⟩, -, -⟩ := id hR
    have hcs := csS_b hW p
    have ze := cs_e hW hp (show p ≤ 200 by omega)
    -- the walk of the loop, where nothing comes of it
    have stay : bs (umS σ p c v 401) (csS σ p) p (b, l) = (b, l) → ∀ (b1' : Bool) (M1 : XM), Geo L b1' b2 M1 → Fr PX M M1 → ∃ M' b1'', lp_X8_bestApart_79 F 20 (nI c) (nI v) (bI b) (nI l) (nI (r_s (s_now σ) 1 - r_q (s_now σ) 2 c)) (nI (p + 1)) M1 = some (bI (ba (fun p => umS σ p c v 401) (csS σ) (d + 1) p (b, l)).1, M') ∧ Geo L b1'' b2 M' ∧ Fr PX M M' := fun hs b1' M1 hG1 f1 => by
      obtain ⟨M2, b1'', u1, u2, u3⟩ := ih F (p + 1) (b, l) b1' M1 (by omega) hG1 (hT.ag (f1.agr (fun a k h1 h2 q => by omega))) (hR.ag (f1.agr (fun a k h1 h2 q => by omega))) (by omega) (by omega) h1 h2
      refine ⟨M2, b1'', ?_, u2, f1.tr u3⟩
      rw [u1]
      show _ = some (bI (ba (fun p => umS σ p c v 401) (csS σ) d (p + 1) (bs (umS σ p c v 401) (csS σ p) p (b, l))).1, M2)
      rw [hs]
    by_cases hA : l < 1 + csS σ p
    · -- nothing so small
      have zm := ms_B hA (show csS σ p < 1000000 by omega)
      obtain ⟨M2, b1'', u1, u2, u3⟩ := stay (by
        unfold bs
        cases umS σ p c v 401 with
        | none => rfl
        | some r => show (if r + csS σ p < l then _ else _) = _; rw [if_neg (by omega)]) b1 M hG Fr.rf
      refine ⟨M2, b1'', ?_, u2, u3⟩
      rw [s_lp_X8_bestApart_79]
      simp (disch := first | assumption | omega) only [bd_X8_bestApart_79, f_X8_bestApart_175, gt_20, gr_20_0, gr_20_8, gt_21, gt_55, e1, e4, ze, zm, l_400, n_MltT, l_of, n_ltT, n_ltF, n_leT, n_leF, n_eqT, n_eqF, n_neM, n_Mne, n_M0, n_Mlt, n_0leM, nI_clamp, x_in_nI, n_1, nI_add, x_at, x_bd_s, x_bv_s, ↓x_lt, decide_true, decide_false, Bool.and_self, Bool.true_and, Bool.and_true, if_true, if_false, ite_true, ite_false, ↓reduceIte, not_true_eq_false, not_false_eq_true, Nat.reduceAdd, Nat.reduceMul, Nat.reduceEqDiff, eq_self, true_and, and_true, false_and, and_false, Option.some.injEq, Prod.mk.injEq, l_0, l_1, l_2, l_3, l_4, l_5, l_6, l_7, l_8, l_9, l_10, l_100, l_160, ↓m_1, ↓m_2, ↓m_3, ↓m_4, ↓m_5, ↓m_6, ↓m_7]
      exact u1
    · have zm := ms_A (show 1 + csS σ p ≤ l by omega) (by omega)
      -- the most that it may take
      obtain ⟨m, hm⟩ : ∃ m, m = if l - 1 - csS σ p < 400 then l - 1 - csS σ p else 400 := ⟨_, rfl⟩
      have hm4 : m ≤ 400 := by rw [hm]; split <;> omega
      have zi : (if nI (l - 1 - csS σ p) < nI 400 then nI (l - 1 - csS σ p) else nI 400) = nI m := by
        by_cases k : l - 1 - csS σ p < 400
        · rw [hm, if_pos k]
          simp (disch := first | assumption | omega) only [l_of, n_ltT, n_ltF, n_leT, n_leF, n_eqT, n_eqF, n_neM, n_Mne, n_M0, n_Mlt, n_0leM, nI_clamp, x_in_nI, n_1, nI_add, x_at, x_bd_s, x_bv_s, ↓x_lt, decide_true, decide_false, Bool.and_self, Bool.true_and, Bool.and_true, if_true, if_false, ite_true, ite_false, ↓reduceIte, not_true_eq_false, not_false_eq_true, Nat.reduceAdd, Nat.reduceMul, Nat.reduceEqDiff, eq_self, true_and, and_true, false_and, and_false, Option.some.injEq, Prod.mk.injEq, l_0, l_1, l_2, l_3, l_4, l_5, l_6, l_7, l_8, l_9, l_10, l_100, l_160, ↓m_1, ↓m_2, ↓m_3, ↓m_4, ↓m_5, ↓m_6, ↓m_7]
        · rw [hm, if_neg k]
          simp (disch := first | assumption | omega) only [l_of, n_ltT, n_ltF, n_leT, n_leF, n_eqT, n_eqF, n_neM, n_Mne, n_M0, n_Mlt, n_0leM, nI_clamp, x_in_nI, n_1, nI_add, x_at, x_bd_s, x_bv_s, ↓x_lt, decide_true, decide_false, Bool.and_self, Bool.true_and, Bool.and_true, if_true, if_false, ite_true, ite_false, ↓reduceIte, not_true_eq_false, not_false_eq_true, Nat.reduceAdd, Nat.reduceMul, Nat.reduceEqDiff, eq_self, true_and, and_true, false_and, and_false, Option.some.injEq, Prod.mk.injEq, l_0, l_1, l_2, l_3, l_4, l_5, l_6, l_7, l_8, l_9, l_10, l_100, l_160, ↓m_1, ↓m_2, ↓m_3, ↓m_4, ↓m_5, ↓m_6, ↓m_7]
      by_cases hz : m < r_s (s_now σ) 1 - r_q (s_now σ) 2 c
      · obtain ⟨M2, b1'', u1, u2, u3⟩ := stay (by
          unfold bs
          cases hu : umS σ p c v 401 with
          | none => rfl
          | some r =>
            have := um_lo hv _ _ _ hu
            show (if r + csS σ p < l then _ else _) = _
            rw [if_neg]
            split at hm <;> omega) b1 M hG Fr.rf
        refine ⟨M2, b1'', ?_, u2, u3⟩
        rw [s_lp_X8_bestApart_79]
        simp (disch := first | assumption | omega) only [bd_X8_bestApart_79, f_X8_bestApart_175, gt_20, gr_20_0, gr_20_8, gt_21, gt_55, e1, e4, ze, zm, zi, l_400, l_of, n_ltT, n_ltF, n_leT, n_leF, n_eqT, n_eqF, n_neM, n_Mne, n_M0, n_Mlt, n_0leM, nI_clamp, x_in_nI, n_1, nI_add, x_at, x_bd_s, x_bv_s, ↓x_lt, decide_true, decide_false, Bool.and_self, Bool.true_and, Bool.and_true, if_true, if_false, ite_true, ite_false, ↓reduceIte, not_true_eq_false, not_false_eq_true, Nat.reduceAdd, Nat.reduceMul, Nat.reduceEqDiff, eq_self, true_and, and_true, false_and, and_false, Option.some.injEq, Prod.mk.injEq, l_0, l_1, l_2, l_3, l_4, l_5, l_6, l_7, l_8, l_9, l_10, l_100, l_160, ↓m_1, ↓m_2, ↓m_3, ↓m_4, ↓m_5, ↓m_6, ↓m_7]
        exact u1
      · obtain ⟨M1, b1', g1, g2, g3⟩ := c_median (p := p) (v := v) (m := m) hG hT hR hW.1 hB hc hv2 hp (by omega) hm4
        have hcut := um_cut (o := r_s (s_now σ) 3) (n := r_s (s_now σ) 1) (p := p) (kd := r_q (s_now σ) 0 c) (a := r_q (s_now σ) 1 c) (x0 := r_q (s_now σ) 2 c) (hd := r_q (s_now σ) 3 c) (v := v) (m + 1) 401 0 (by omega)
        rw [hcut] at g1
        clear hcut
        have g1 : f_X1_untilAtLeast 55 (nI v) 21 (nI c) (nI p) (nI m) M = some (oI (match umS σ p c v 401 with | none => none | some r => if r < 0 + (m + 1) then some r else none), M1) := g1
        cases hu : umS σ p c v 401 with
        | none =>
          rw [hu] at g1
          have g1 : f_X1_untilAtLeast 55 (nI v) 21 (nI c) (nI p) (nI m) M = some (nM 1, M1) := g1
          obtain ⟨M2, b1'', u1, u2, u3⟩ := stay (by rw [hu]; rfl) b1' M1 g2 g3
          refine ⟨M2, b1'', ?_, u2, u3⟩
          rw [s_lp_X8_bestApart_79]
          simp (disch := first | assumption | omega) only [bd_X8_bestApart_79, f_X8_bestApart_c150, f_X8_bestApart_175, gt_20, gr_20_0, gr_20_8, gt_21, gt_55, e1, e4, ze, zm, zi, l_400, g1, l_of, n_ltT, n_ltF, n_leT, n_leF, n_eqT, n_eqF, n_neM, n_Mne, n_M0, n_Mlt, n_0leM, nI_clamp, x_in_nI, n_1, nI_add, x_at, x_bd_s, x_bv_s, ↓x_lt, decide_true, decide_false, Bool.and_self, Bool.true_and, Bool.and_true, if_true, if_false, ite_true, ite_false, ↓reduceIte, not_true_eq_false, not_false_eq_true, Nat.reduceAdd, Nat.reduceMul, Nat.reduceEqDiff, eq_self, true_and, and_true, false_and, and_false, Option.some.injEq, Prod.mk.injEq, l_0, l_1, l_2, l_3, l_4, l_5, l_6, l_7, l_8, l_9, l_10, l_100, l_160, ↓m_1, ↓m_2, ↓m_3, ↓m_4, ↓m_5, ↓m_6, ↓m_7]
          exact u1
        | some r =>
          have hr := um_lo hv _ _ _ hu
          rw [hu] at g1
          by_cases hk : r < 0 + (m + 1)
          · have g1 : f_X1_untilAtLeast 55 (nI v) 21 (nI c) (nI p) (nI m) M = some (oI (if r < 0 + (m + 1) then some r else none), M1) := g1
            rw [if_pos hk] at g1
            have g1 : f_X1_untilAtLeast 55 (nI v) 21 (nI c) (nI p) (nI m) M = some (nI r, M1) := g1
            obtain ⟨M2, b1'', u1, u2, u3⟩ := ih F (p + 1) (p, r + csS σ p) b1' M1 (by omega) g2 (hT.ag (g3.agr (fun a k h1 h2 q => by omega))) (hR.ag (g3.agr (fun a k h1 h2 q => by omega))) (by omega) (by omega) (by dsimp only; omega) (by dsimp only; omega)
            have hlt : r + csS σ p < l := by split at hm <;> omega
            have hb : bI p = nI p := if_neg (by omega)
            dsimp only at u1
            rw [hb] at u1
            refine ⟨M2, b1'', ?_, u2, g3.tr u3⟩
            have hs : ba (fun p => umS σ p c v 401) (csS σ) (d + 1) p (b, l) = ba (fun p => umS σ p c v 401) (csS σ) d (p + 1) (p, r + csS σ p) := by
              show ba (fun p => umS σ p c v 401) (csS σ) d (p + 1) (bs (umS σ p c v 401) (csS σ p) p (b, l)) = _
              rw [hu]
              show ba _ _ d (p + 1) (if r + csS σ p < l then _ else _) = _
              rw [if_pos hlt]
            rw [hs, s_lp_X8_bestApart_79]
            simp (disch := first | assumption | omega) only [bd_X8_bestApart_79, f_X8_bestApart_c150, f_X8_bestApart_175, gt_20, gr_20_0, gr_20_8, gt_21, gt_55, e1, e4, ze, zm, zi, l_400, g1, l_of, n_ltT, n_ltF, n_leT, n_leF, n_eqT, n_eqF, n_neM, n_Mne, n_M0, n_Mlt, n_0leM, nI_clamp, x_in_nI, n_1, nI_add, x_at, x_bd_s, x_bv_s, ↓x_lt, decide_true, decide_false, Bool.and_self, Bool.true_and, Bool.and_true, if_true, if_false, ite_true, ite_false, ↓reduceIte, not_true_eq_false, not_false_eq_true, Nat.reduceAdd, Nat.reduceMul, Nat.reduceEqDiff, eq_self, true_and, and_true, false_and, and_false, Option.some.injEq, Prod.mk.injEq, l_0, l_1, l_2, l_3, l_4, l_5, l_6, l_7, l_8, l_9, l_10, l_100, l_160, ↓m_1, ↓m_2, ↓m_3, ↓m_4, ↓m_5, ↓m_6, ↓m_7]
            exact u1
          · have g1 : f_X1_untilAtLeast 55 (nI v) 21 (nI c) (nI p) (nI m) M = some (oI (if r < 0 + (m + 1) then some r else none), M1) := g1
            rw [if_neg hk] at g1
            have g1 : f_X1_untilAtLeast 55 (nI v) 21 (nI c) (nI p) (nI m) M = some (nM 1, M1) := g1
            obtain ⟨M2, b1'', u1, u2, u3⟩ := stay (by
              rw [hu]
              show (if r + csS σ p < l then _ else _) = _
              rw [if_neg]
              split at hm <;> omega) b1' M1 g2 g3
            refine ⟨M2, b1'', ?_, u2, u3⟩
            rw [s_lp_X8_bestApart_79]
            simp (disch := first | assumption | omega) only [bd_X8_bestApart_79, f_X8_bestApart_c150, f_X8_bestApart_175, gt_20, gr_20_0, gr_20_8, gt_21, gt_55, e1, e4, ze, zm, zi, l_400, g1, l_of, n_ltT, n_ltF, n_leT, n_leF, n_eqT, n_eqF, n_neM, n_Mne, n_M0, n_Mlt, n_0leM, nI_clamp, x_in_nI, n_1, nI_add, x_at, x_bd_s, x_bv_s, ↓x_lt, decide_true, decide_false, Bool.and_self, Bool.true_and, Bool.and_true, if_true, if_false, ite_true, ite_false, ↓reduceIte, not_true_eq_false, not_false_eq_true, Nat.reduceAdd, Nat.reduceMul, Nat.reduceEqDiff, eq_self, true_and, and_true, false_and, and_false, Option.some.injEq, Prod.mk.injEq, l_0, l_1, l_2, l_3, l_4, l_5, l_6, l_7, l_8, l_9, l_10, l_100, l_160, ↓m_1, ↓m_2, ↓m_3, ↓m_4, ↓m_5, ↓m_6, ↓m_7]
            exact u1
end
