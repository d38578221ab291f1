/-! fits: for each number the counts of breaks by which it can be there -/
def BT (v : Int32) (A : Nat → Prop) : Prop := ∃ w, v = nI w ∧ w < 512 ∧ ∀ b, b ≤ 8 → (w.testBit b = true ↔ A b)
theorem bt_orN (a b : Nat) : nI a ||| nI b = nI (a ||| b) := by
  apply Int32.toBitVec_inj.1
  show BitVec.ofNat 32 a ||| BitVec.ofNat 32 b = BitVec.ofNat 32 (a ||| b)
  apply BitVec.eq_of_getLsbD_eq
  intro i hi
  simp [hi]
theorem bt_iff {v : Int32} {A A' : Nat → Prop} (h : BT v A) (e : ∀ b, b ≤ 8 → (A b ↔ A' b)) : BT v A' := by
  obtain ⟨w, h1, h2, h3⟩ := h
  exact ⟨w, h1, h2, fun b hb => (h3 b hb).trans (e b hb)⟩
theorem bt_or {v u : Int32} {A A' : Nat → Prop} (h : BT v A) (h' : BT u A') : BT (v ||| u) (fun b => A b ∨ A' b) := by
  obtain ⟨w, h1, h2, h3⟩ := h
  obtain ⟨w', g1, g2, g3⟩ := h'
  refine ⟨w ||| w', by rw [h1, g1, bt_orN], Nat.or_lt_two_pow (n := 9) h2 g2, fun b hb => ?_⟩
  rw [Nat.testBit_or, Bool.or_eq_true, h3 b hb, g3 b hb]
theorem bt_sm {b : Nat} (hb : b ≤ 8) : ((nI b &&& (31 : Int32)).toBitVec.smod 32).toNat = b := by
  rcases (by omega : b = 0 ∨ b = 1 ∨ b = 2 ∨ b = 3 ∨ b = 4 ∨ b = 5 ∨ b = 6 ∨ b = 7 ∨ b = 8) with rfl | rfl | rfl | rfl | rfl | rfl | rfl | rfl | rfl <;> decide
theorem bt_bit {j : Nat} (hj : j < 8) : BT (nI 1 <<< (nI (j + 1) &&& 31)) (fun b => b = j + 1) := by
  refine ⟨2 ^ (j + 1), ?_, show 2 ^ (j + 1) < 2 ^ 9 from Nat.pow_lt_pow_right (by omega) (by omega), fun b hb => ?_⟩
  · rw [pk_shlN (nI (j + 1) &&& 31) (j + 1) (bt_sm (by omega)) (by
      have : 2 ^ (j + 1) ≤ 2 ^ 8 := Nat.pow_le_pow_right (by omega) (by omega)
      omega), Nat.one_mul]
  · rw [Nat.testBit_two_pow, decide_eq_true_eq]
    exact ⟨fun q => q.symm, fun q => q.symm⟩
theorem bt_0 : BT (nI 0) (fun _ => False) := ⟨0, rfl, by omega, fun b _ => by rw [Nat.zero_testBit]; exact Iff.intro (fun q => Bool.noConfusion q) (fun q => False.elim q)⟩
theorem bt_1 : BT (nI 1) (fun b => b = 0) := ⟨1, rfl, by omega, fun b hb => by
  rw [show (1 : Nat) = 2 ^ 0 from rfl, Nat.testBit_two_pow, decide_eq_true_eq]
  exact ⟨fun q => q.symm, fun q => q.symm⟩⟩
theorem bt_z {v : Int32} {A : Nat → Prop} (h : BT v A) (hv : v = nI 0) : ∀ b, b ≤ 8 → ¬ A b := by
  obtain ⟨w, h1, h2, h3⟩ := h
  intro b hb q
  have e : w = 0 := by
    rw [h1] at hv
    exact (nI_eq (by omega) (by omega)).mp hv
  have := (h3 b hb).mpr q
  rw [e, Nat.zero_testBit] at this
  cases this
theorem bt_has {v : Int32} {A : Nat → Prop} {M : XM} (h : BT v A) {b : Nat} (hb : b ≤ 8) : (A b → f_X3_hasBit v (nI b) M = some (nI 1, M)) ∧ (¬ A b → f_X3_hasBit v (nI b) M = some (nI 0, M)) := by
  obtain ⟨w, rfl, h2, h3⟩ := h
  have e : (nI w >>> (nI b &&& 31)) &&& 1 = nI (w / 2 ^ b % 2) := by
    rw [pk_shrN (by omega) (nI b &&& 31) b (bt_sm hb)]
    have hd : w / 2 ^ b ≤ w := Nat.div_le_self _ _
    exact pk_andN (by omega) 1 (by decide)
  have q := h3 b hb
  rw [Nat.testBit_eq_decide_div_mod_eq, decide_eq_true_eq] at q
  have hm : w / 2 ^ b % 2 < 2 := Nat.mod_lt _ (by omega)
  unfold f_X3_hasBit
  rw [e]
  refine ⟨fun ha => ?_, fun ha => ?_⟩
  · rw [q.mpr ha, if_neg (by decide)]
    rfl
  · have : w / 2 ^ b % 2 = 0 := by
      rcases (by omega : w / 2 ^ b % 2 = 0 ∨ w / 2 ^ b % 2 = 1) with z | z
      · exact z
      · exact absurd (q.mp z) ha
    rw [this, if_pos (by decide)]
    rfl
def FS (n p kd a hd x0 : Nat) : Nat → Nat → Nat → Prop
  | 0, x, b => x = x0 ∧ b = 0
  | t + 1, y, b => ∃ x, x < n ∧ ((x + 1 = y ∧ FS n p kd a hd x0 t x b) ∨ ∃ j, j < 8 ∧ FS n p kd a hd x0 t x j ∧ y = lf p kd a x (hd + j + 1) ∧ b = j + 1)
/-- what the first i numbers bring, of the number i the ways on, of it the first j breaks -/
def NP (p kd a hd : Nat) (S : Nat → Nat → Prop) (i : Nat) (y b : Nat) : Prop := ∃ x, x < i ∧ ((x + 1 = y ∧ S x b) ∨ ∃ j, j < 8 ∧ S x j ∧ y = lf p kd a x (hd + j + 1) ∧ b = j + 1)
def NJ (p kd a hd : Nat) (S : Nat → Nat → Prop) (i j : Nat) (y b : Nat) : Prop := NP p kd a hd S i y b ∨ (i + 1 = y ∧ S i b) ∨ ∃ q, q < j ∧ S i q ∧ y = lf p kd a i (hd + q + 1) ∧ b = q + 1
theorem NJ_8 {p kd a hd i y b : Nat} {S : Nat → Nat → Prop} : NJ p kd a hd S i 8 y b ↔ NP p kd a hd S (i + 1) y b := by
  constructor
  · rintro (⟨x, h1, h2⟩ | h | h)
    · exact ⟨x, by omega, h2⟩
    · exact ⟨i, by omega, Or.inl h⟩
    · exact ⟨i, by omega, Or.inr h⟩
  · rintro ⟨x, h1, h2⟩
    by_cases hx : x = i
    · subst hx
      exact Or.inr h2
    · exact Or.inl ⟨x, by omega, h2⟩
theorem NJ_s {p kd a hd i j y b : Nat} {S : Nat → Nat → Prop} : NJ p kd a hd S i (j + 1) y b ↔ NJ p kd a hd S i j y b ∨ (S i j ∧ y = lf p kd a i (hd + j + 1) ∧ b = j + 1) := by
  constructor
  · rintro (h | h | ⟨q, h1, h2⟩)
    · exact Or.inl (Or.inl h)
    · exact Or.inl (Or.inr (Or.inl h))
    · by_cases hq : q = j
      · subst hq
        exact Or.inr h2
      · exact Or.inl (Or.inr (Or.inr ⟨q, by omega, h2⟩))
  · rintro ((h | h | ⟨q, h1, h2⟩) | h)
    · exact Or.inl h
    · exact Or.inr (Or.inl h)
    · exact Or.inr (Or.inr ⟨q, by omega, h2⟩)
    · exact Or.inr (Or.inr ⟨j, by omega, h⟩)
theorem NJ_0 {p kd a hd i y b : Nat} {S : Nat → Nat → Prop} : NJ p kd a hd S i 0 y b ↔ NP p kd a hd S i y b ∨ (i + 1 = y ∧ S i b) := by
  constructor
  · rintro (h | h | ⟨q, h1, h2⟩)
    · exact Or.inl h
    · exact Or.inr h
    · omega
  · rintro (h | h)
    · exact Or.inl h
    · exact Or.inr (Or.inl h)
section
variable {L : Nat} {b1 b2 : Bool} {n p kd a hd c : Nat} {S : Nat → Nat → Prop}
set_option maxHeartbeats 800000 in
theorem c_s30 {i : Nat} {v : Int32} (hc : c < 6) (hn : n ≤ 200) (hi : i < n) (hkd : kd ≤ 6) (ha : a ≤ 9) (hp : 1 ≤ p) (hp2 : p ≤ 200) (hh : hd ≤ 800000) (hv : BT v (S i)) (d : Nat) : ∀ (N j : Nat) (M : XM), d < N → Geo L b1 b2 M → x_i M 21 3 = nI p → x_i M (24 + c) 0 = nI kd → x_i M (24 + c) 1 = nI a → x_i M (24 + c) 4 = nI hd → j + d = 8 → (∀ y, y ≤ n → BT (x_i M (nxc b2) y) (NJ p kd a hd S i j y)) →
    ∃ M', lp_X3_spread_30 N 59 21 (24 + c) (nI i) v (nI j) M = some M' ∧ Geo L b1 b2 M' ∧ (∀ y, y ≤ n → BT (x_i M' (nxc b2) y) (NP p kd a hd S (i + 1) y)) ∧ Fr (fun a _ => a = nxc b2) M M' := by
  induction d with
  | zero =>
    intro N j M hN hG ep k0 k1 k4 hj hx
    obtain ⟨N, rfl⟩ : ∃ i, N = i + 1 := ⟨N - 1, by omega⟩
    have e8 : j = 8 := by omega
    subst e8
    refine ⟨M, ?_, hG, fun y hy => bt_iff (hx y hy) (fun b _ => NJ_8), Fr.rf⟩
    rw [s_lp_X3_spread_30]
    simp (disch := first | assumption | omega) only [bd_X3_spread_30, l_of, n_ltT, n_ltF, n_leT, n_leF, n_eqT, n_eqF, n_neM, n_Mne, n_M0, n_Mlt, n_0leM, nI_clamp, x_in_nI, n_1, nI_add, x_at, x_bd_s, x_bv_s, ↓x_lt, decide_true, decide_false, Bool.and_self, Bool.true_and, Bool.and_true, if_true, if_false, ite_true, ite_false, ↓reduceIte, not_true_eq_false, not_false_eq_true, Nat.reduceAdd, Nat.reduceMul, Nat.reduceEqDiff, eq_self, true_and, and_true, false_and, and_false, Option.some.injEq, Prod.mk.injEq, l_0, l_1, l_2, l_3, l_4, l_5, l_6, l_7, l_8, l_9, l_10, l_100, l_160, ↓m_1, ↓m_2, ↓m_3, ↓m_4, ↓m_5, ↓m_6, ↓m_7]
  | succ d ih =>
    intro N j M hN hG ep k0 k1 k4 hj hx
    obtain ⟨N, rfl⟩ : ∃ i, N = i + 1 := ⟨N - 1, by omega⟩
    have hl := c_left (M := M) (v0 := 24 + c) (x := i) (h := hd + j + 1) (p := p) (gct_24 hG hc) k0 k1 hkd ha (by omega) (by omega) hp hp2
    have hlf := lf_le p kd a i (hd + j + 1)
    have hb := bt_has (M := M) hv (show j ≤ 8 by omega)
    have hnb := nxc_b b2
    rw [s_lp_X3_spread_30]
    by_cases hS : S i j
    · have h1 := hb.1 hS
      obtain ⟨M2, g1, g2, g3, g4⟩ := ih N (j + 1) (x_wi M (nxc b2) (lf p kd a i (hd + j + 1)) (x_i M (nxc b2) (lf p kd a i (hd + j + 1)) ||| (nI 1 <<< (nI (j + 1) &&& 31)))) (by omega) hG (by rw [ii_wi, if_neg (by omega)]; exact ep) (by rw [ii_wi, if_neg (by omega)]; exact k0) (by rw [ii_wi, if_neg (by omega)]; exact k1) (by rw [ii_wi, if_neg (by omega)]; exact k4) (by omega) (fun y hy => by
        rw [ii_wi]
        by_cases hq : y = lf p kd a i (hd + j + 1)
        · rw [if_pos ⟨rfl, hq⟩]
          refine bt_iff (bt_or (hx _ (by omega)) (bt_bit (show j < 8 by omega))) (fun b hb => ?_)
          rw [NJ_s, hq]
          constructor
          · rintro (z | z)
            · exact Or.inl z
            · exact Or.inr ⟨hS, rfl, z⟩
          · rintro (z | z)
            · exact Or.inl z
            · exact Or.inr z.2.2
        · rw [if_neg (fun z => hq z.2)]
          refine bt_iff (hx y hy) (fun b hb => ?_)
          rw [NJ_s]
          constructor
          · exact Or.inl
          · rintro (z | z)
            · exact z
            · exact absurd z.2.1 hq)
      have f0 : Fr (fun a _ => a = nxc b2) M (x_wi M (nxc b2) (lf p kd a i (hd + j + 1)) (x_i M (nxc b2) (lf p kd a i (hd + j + 1)) ||| (nI 1 <<< (nI (j + 1) &&& 31)))) := Fr.rf.wi (by omega)
      refine ⟨M2, ?_, g2, g3, f0.tr g4⟩
      simp (disch := first | assumption | omega) only [bd_X3_spread_30, f_X3_spread_c52, f_X3_spread_c61, f_X3_spread_83, gct_24, gt_21, gt_59, g59_1, gnt, gnl, k4, ep, hl, h1, nI_add, l_of, n_ltT, n_ltF, n_leT, n_leF, n_eqT, n_eqF, n_neM, n_Mne, n_M0, n_Mlt, n_0leM, nI_clamp, x_in_nI, n_1, nI_add, x_at, x_bd_s, x_bv_s, ↓x_lt, decide_true, decide_false, Bool.and_self, Bool.true_and, Bool.and_true, if_true, if_false, ite_true, ite_false, ↓reduceIte, not_true_eq_false, not_false_eq_true, Nat.reduceAdd, Nat.reduceMul, Nat.reduceEqDiff, eq_self, true_and, and_true, false_and, and_false, Option.some.injEq, Prod.mk.injEq, l_0, l_1, l_2, l_3, l_4, l_5, l_6, l_7, l_8, l_9, l_10, l_100, l_160, ↓m_1, ↓m_2, ↓m_3, ↓m_4, ↓m_5, ↓m_6, ↓m_7]
      exact g1
    · have h1 := hb.2 hS
      obtain ⟨M2, g1, g2, g3, g4⟩ := ih N (j + 1) M (by omega) hG ep k0 k1 k4 (by omega) (fun y hy => bt_iff (hx y hy) (fun b hb => by
        rw [NJ_s]
        constructor
        · exact Or.inl
        · rintro (z | z)
          · exact z
          · exact absurd z.1 hS))
      refine ⟨M2, ?_, g2, g3, g4⟩
      simp (disch := first | assumption | omega) only [bd_X3_spread_30, f_X3_spread_c52, f_X3_spread_c61, f_X3_spread_83, gct_24, gt_21, gt_59, g59_1, gnt, gnl, k4, ep, hl, h1, nI_add, l_of, n_ltT, n_ltF, n_leT, n_leF, n_eqT, n_eqF, n_neM, n_Mne, n_M0, n_Mlt, n_0leM, nI_clamp, x_in_nI, n_1, nI_add, x_at, x_bd_s, x_bv_s, ↓x_lt, decide_true, decide_false, Bool.and_self, Bool.true_and, Bool.and_true, if_true, if_false, ite_true, ite_false, ↓reduceIte, not_true_eq_false, not_false_eq_true, Nat.reduceAdd, Nat.reduceMul, Nat.reduceEqDiff, eq_self, true_and, and_true, false_and, and_false, Option.some.injEq, Prod.mk.injEq, l_0, l_1, l_2, l_3, l_4, l_5, l_6, l_7, l_8, l_9, l_10, l_100, l_160, ↓m_1, ↓m_2, ↓m_3, ↓m_4, ↓m_5, ↓m_6, ↓m_7]
      exact g1
set_option maxHeartbeats 800000 in
theorem c_spread {i : Nat} {M : XM} (hc : c < 6) (hn : n ≤ 200) (hi : i < n) (hkd : kd ≤ 6) (ha : a ≤ 9) (hp : 1 ≤ p) (hp2 : p ≤ 200) (hh : hd ≤ 800000) (hG : Geo L b1 b2 M) (ep : x_i M 21 3 = nI p) (k0 : x_i M (24 + c) 0 = nI kd) (k1 : x_i M (24 + c) 1 = nI a) (k4 : x_i M (24 + c) 4 = nI hd) (hr : ∀ y, y ≤ n → BT (x_i M (rwc b2) y) (S y)) (hx : ∀ y, y ≤ n → BT (x_i M (nxc b2) y) (NP p kd a hd S i y)) :
    ∃ M', f_X3_spread 59 21 (24 + c) (nI i) M = some M' ∧ Geo L b1 b2 M' ∧ (∀ y, y ≤ n → BT (x_i M' (nxc b2) y) (NP p kd a hd S (i + 1) y)) ∧ Fr (fun a _ => a = nxc b2) M M' := by
  have hv := hr i (by omega)
  have hnb := nxc_b b2
  by_cases h0 : x_i M (rwc b2) i = nI 0
  · refine ⟨M, ?_, hG, fun y hy => bt_iff (hx y hy) (fun b hb => ?_), Fr.rf⟩
    · simp (disch := first | assumption | omega) only [f_X3_spread, gt_59, g59_0, grt, grl, h0, l_of, n_ltT, n_ltF, n_leT, n_leF, n_eqT, n_eqF, n_neM, n_Mne, n_M0, n_Mlt, n_0leM, nI_clamp, x_in_nI, n_1, nI_add, x_at, x_bd_s, x_bv_s, ↓x_lt, decide_true, decide_false, Bool.and_self, Bool.true_and, Bool.and_true, if_true, if_false, ite_true, ite_false, ↓reduceIte, not_true_eq_false, not_false_eq_true, Nat.reduceAdd, Nat.reduceMul, Nat.reduceEqDiff, eq_self, true_and, and_true, false_and, and_false, Option.some.injEq, Prod.mk.injEq, l_0, l_1, l_2, l_3, l_4, l_5, l_6, l_7, l_8, l_9, l_10, l_100, l_160, ↓m_1, ↓m_2, ↓m_3, ↓m_4, ↓m_5, ↓m_6, ↓m_7]
    · have hz := bt_z hv h0
      constructor
      · rintro ⟨x, h1, h2⟩
        exact ⟨x, by omega, h2⟩
      · rintro ⟨x, h1, h2⟩
        by_cases hq : x = i
        · subst hq
          rcases h2 with z | ⟨j, z1, z2, z3⟩
          · exact absurd z.2 (hz b hb)
          · exact absurd z2 (hz j (by omega))
        · exact ⟨x, by omega, h2⟩
  · obtain ⟨M2, g1, g2, g3, g4⟩ := c_s30 (L := L) (b1 := b1) (b2 := b2) (S := S) hc hn hi hkd ha hp hp2 hh hv 8 x_fuel 0 (x_wi M (nxc b2) (i + 1) (x_i M (nxc b2) (i + 1) ||| x_i M (rwc b2) i)) (fu (by omega)) hG (by rw [ii_wi, if_neg (by omega)]; exact ep) (by rw [ii_wi, if_neg (by omega)]; exact k0) (by rw [ii_wi, if_neg (by omega)]; exact k1) (by rw [ii_wi, if_neg (by omega)]; exact k4) (by omega) (fun y hy => by
      rw [ii_wi]
      by_cases hq : y = i + 1
      · rw [if_pos ⟨rfl, hq⟩]
        refine bt_iff (bt_or (hx _ (by omega)) hv) (fun b hb => ?_)
        rw [NJ_0, hq]
        constructor
        · rintro (z | z)
          · exact Or.inl z
          · exact Or.inr ⟨rfl, z⟩
        · rintro (z | z)
          · exact Or.inl z
          · exact Or.inr z.2
      · rw [if_neg (fun z => hq z.2)]
        refine bt_iff (hx y hy) (fun b hb => ?_)
        rw [NJ_0]
        constructor
        · exact Or.inl
        · rintro (z | z)
          · exact z
          · exact absurd z.1.symm hq)
    have f0 : Fr (fun a _ => a = nxc b2) M (x_wi M (nxc b2) (i + 1) (x_i M (nxc b2) (i + 1) ||| x_i M (rwc b2) i)) := Fr.rf.wi (by omega)
    refine ⟨M2, ?_, g2, g3, f0.tr g4⟩
    simp (disch := first | assumption | omega) only [f_X3_spread, gt_59, g59_0, g59_1, grt, grl, gnt, gnl, h0, l_of, n_ltT, n_ltF, n_leT, n_leF, n_eqT, n_eqF, n_neM, n_Mne, n_M0, n_Mlt, n_0leM, nI_clamp, x_in_nI, n_1, nI_add, x_at, x_bd_s, x_bv_s, ↓x_lt, decide_true, decide_false, Bool.and_self, Bool.true_and, Bool.and_true, if_true, if_false, ite_true, ite_false, ↓reduceIte, not_true_eq_false, not_false_eq_true, Nat.reduceAdd, Nat.reduceMul, Nat.reduceEqDiff, eq_self, true_and, and_true, false_and, and_false, Option.some.injEq, Prod.mk.injEq, l_0, l_1, l_2, l_3, l_4, l_5, l_6, l_7, l_8, l_9, l_10, l_100, l_160, ↓m_1, ↓m_2, ↓m_3, ↓m_4, ↓m_5, ↓m_6, ↓m_7]
    exact g1
theorem c_f47 {κ : Nat → Nat → Int32 → Nat → Int32 → XM → Option (Int32 × XM)} {v3 v5 : Int32} (hc : c < 6) (hn : n ≤ 200) (hkd : kd ≤ 6) (ha : a ≤ 9) (hp : 1 ≤ p) (hp2 : p ≤ 200) (hh : hd ≤ 800000) (d : Nat) : ∀ (N i : Nat) (M : XM), d < N → Geo L b1 b2 M → x_i M 21 2 = nI n → x_i M 21 3 = nI p → x_i M (24 + c) 0 = nI kd → x_i M (24 + c) 1 = nI a → x_i M (24 + c) 4 = nI hd → i + d = n → (∀ y, y ≤ n → BT (x_i M (rwc b2) y) (S y)) → (∀ y, y ≤ n → BT (x_i M (nxc b2) y) (NP p kd a hd S i y)) →
    ∃ M', lp_X3_fewestBreaks_47 κ N 59 21 v3 (24 + c) v5 (nI i) M = κ 59 21 v3 (24 + c) (v5 + nI 1) M' ∧ Geo L b1 (!b2) M' ∧ (∀ y, y ≤ n → BT (x_i M' (rwc (!b2)) y) (NP p kd a hd S n y)) ∧ Fr (fun a _ => a = 60 ∨ a = 61) M M' := by
  have hnb := nxc_b b2
  induction d with
  | zero =>
    intro N i M hN hG en ep k0 k1 k4 hi hr hx
    obtain ⟨N, rfl⟩ : ∃ i, N = i + 1 := ⟨N - 1, by omega⟩
    have e : i = n := by omega
    subst e
    obtain ⟨M1, s1, s2, s3, s4⟩ := c_swap hG
    refine ⟨M1, ?_, s2, fun y hy => ?_, ⟨fun a k _ => s3 a k, s4⟩⟩
    · rw [s_lp_X3_fewestBreaks_47]
      simp (disch := first | assumption | omega) only [bd_X3_fewestBreaks_47, f_X3_fewestBreaks_c72, gt_21, gt_59, en, s1, l_of, n_ltT, n_ltF, n_leT, n_leF, n_eqT, n_eqF, n_neM, n_Mne, n_M0, n_Mlt, n_0leM, nI_clamp, x_in_nI, n_1, nI_add, x_at, x_bd_s, x_bv_s, ↓x_lt, decide_true, decide_false, Bool.and_self, Bool.true_and, Bool.and_true, if_true, if_false, ite_true, ite_false, ↓reduceIte, not_true_eq_false, not_false_eq_true, Nat.reduceAdd, Nat.reduceMul, Nat.reduceEqDiff, eq_self, true_and, and_true, false_and, and_false, Option.some.injEq, Prod.mk.injEq, l_0, l_1, l_2, l_3, l_4, l_5, l_6, l_7, l_8, l_9, l_10, l_100, l_160, ↓m_1, ↓m_2, ↓m_3, ↓m_4, ↓m_5, ↓m_6, ↓m_7]
    · rw [s3, rwc_n]
      exact hx y hy
  | succ d ih =>
    intro N i M hN hG en ep k0 k1 k4 hi hr hx
    obtain ⟨N, rfl⟩ : ∃ i, N = i + 1 := ⟨N - 1, by omega⟩
    obtain ⟨M1, g1, g2, g3, g4⟩ := c_spread (S := S) (i := i) hc hn (by omega) hkd ha hp hp2 hh hG ep k0 k1 k4 hr hx
    obtain ⟨M2, u1, u2, u3, u4⟩ := ih N (i + 1) M1 (by omega) g2 ((g4.1 _ _ (by omega)).trans en) ((g4.1 _ _ (by omega)).trans ep) ((g4.1 _ _ (by omega)).trans k0) ((g4.1 _ _ (by omega)).trans k1) ((g4.1 _ _ (by omega)).trans k4) (by omega) (fun y hy => by
      rw [g4.1 _ _ (fun q => (rn_ne b2).mp q)]
      exact hr y hy) g3
    refine ⟨M2, ?_, u2, u3, (g4.mono (fun a k q => by omega)).tr u4⟩
    rw [s_lp_X3_fewestBreaks_47]
    simp (disch := first | assumption | omega) only [bd_X3_fewestBreaks_47, f_X3_fewestBreaks_c62, gt_21, gt_59, en, g1, l_of, n_ltT, n_ltF, n_leT, n_leF, n_eqT, n_eqF, n_neM, n_Mne, n_M0, n_Mlt, n_0leM, nI_clamp, x_in_nI, n_1, nI_add, x_at, x_bd_s, x_bv_s, ↓x_lt, decide_true, decide_false, Bool.and_self, Bool.true_and, Bool.and_true, if_true, if_false, ite_true, ite_false, ↓reduceIte, not_true_eq_false, not_false_eq_true, Nat.reduceAdd, Nat.reduceMul, Nat.reduceEqDiff, eq_self, true_and, and_true, false_and, and_false, Option.some.injEq, Prod.mk.injEq, l_0, l_1, l_2, l_3, l_4, l_5, l_6, l_7, l_8, l_9, l_10, l_100, l_160, ↓m_1, ↓m_2, ↓m_3, ↓m_4, ↓m_5, ↓m_6, ↓m_7]
    exact u1
end
theorem NP_0 {p kd a hd : Nat} {S : Nat → Nat → Prop} {y b : Nat} : ¬ NP p kd a hd S 0 y b := fun ⟨x, h, _⟩ => absurd h (by omega)
theorem FS_s {n p kd a hd x0 t y b : Nat} : FS n p kd a hd x0 (t + 1) y b ↔ NP p kd a hd (FS n p kd a hd x0 t) n y b := Iff.rfl
/-- the least, of d from b on, that holds -/
noncomputable def fw (A : Nat → Prop) : Nat → Nat → Option Nat
  | 0, _ => none
  | d + 1, b => @ite _ (A b) (Classical.propDecidable _) (some b) (fw A d (b + 1))
theorem fw_t {A : Nat → Prop} {d b : Nat} (h : A b) : fw A (d + 1) b = some b := @if_pos _ (Classical.propDecidable _) h _ _ _
theorem fw_f {A : Nat → Prop} {d b : Nat} (h : ¬ A b) : fw A (d + 1) b = fw A d (b + 1) := @if_neg _ (Classical.propDecidable _) h _ _ _
theorem fw_some {A : Nat → Prop} {m : Nat} (hA : A m) (d : Nat) : ∀ (b : Nat), b ≤ m → m < b + d → (∀ q, b ≤ q → q < m → ¬ A q) → fw A d b = some m := by
  induction d with
  | zero => intro b h1 h2 _; omega
  | succ d ih =>
    intro b h1 h2 h3
    by_cases hb : b = m
    · rw [hb]; exact fw_t hA
    · rw [fw_f (h3 b (Nat.le_refl _) (by omega))]
      exact ih (b + 1) (by omega) (by omega) (fun q hq1 hq2 => h3 q (by omega) hq2)
theorem fw_none {A : Nat → Prop} (d : Nat) : ∀ (b : Nat), (∀ q, b ≤ q → q < b + d → ¬ A q) → fw A d b = none := by
  induction d with
  | zero => intro b _; rfl
  | succ d ih =>
    intro b h
    rw [fw_f (h b (Nat.le_refl _) (by omega))]
    exact ih (b + 1) (fun q hq1 hq2 => h q (by omega) (by omega))
section
variable {L : Nat} {b1 b2 : Bool} {n p kd a hd c x0 : Nat}
theorem c_f84 {M : XM} {A : Nat → Prop} (hn : n ≤ 200) (hG : Geo L b1 b2 M) (en : x_i M 21 2 = nI n) (hA : BT (x_i M (rwc b2) n) A) (d : Nat) : ∀ (N j : Nat), d < N → j + d = 9 → lp_X3_fewestBreaks_84 N 59 21 (nI j) M = some (oI (fw A d j), M) := by
  induction d with
  | zero =>
    intro N j hN hj
    obtain ⟨N, rfl⟩ : ∃ i, N = i + 1 := ⟨N - 1, by omega⟩
    rw [s_lp_X3_fewestBreaks_84, show j = 9 by omega]
    simp (disch := first | assumption | omega) only [bd_X3_fewestBreaks_84, fw, oI, l_of, n_ltT, n_ltF, n_leT, n_leF, n_eqT, n_eqF, n_neM, n_Mne, n_M0, n_Mlt, n_0leM, nI_clamp, x_in_nI, n_1, nI_add, x_at, x_bd_s, x_bv_s, ↓x_lt, decide_true, decide_false, Bool.and_self, Bool.true_and, Bool.and_true, if_true, if_false, ite_true, ite_false, ↓reduceIte, not_true_eq_false, not_false_eq_true, Nat.reduceAdd, Nat.reduceMul, Nat.reduceEqDiff, eq_self, true_and, and_true, false_and, and_false, Option.some.injEq, Prod.mk.injEq, l_0, l_1, l_2, l_3, l_4, l_5, l_6, l_7, l_8, l_9, l_10, l_100, l_160, ↓m_1, ↓m_2, ↓m_3, ↓m_4, ↓m_5, ↓m_6, ↓m_7]
  | succ d ih =>
    intro N j hN hj
    obtain ⟨N, rfl⟩ : ∃ i, N = i + 1 := ⟨N - 1, by omega⟩
    have hb := bt_has (M := M) hA (show j ≤ 8 by omega)
    rw [s_lp_X3_fewestBreaks_84]
    by_cases hj2 : A j
    · have h1 := hb.1 hj2
      rw [fw_t hj2]
      simp (disch := first | assumption | omega) only [bd_X3_fewestBreaks_84, f_X3_fewestBreaks_c102, gt_59, gt_21, g59_0, grt, grl, en, h1, oI, l_of, n_ltT, n_ltF, n_leT, n_leF, n_eqT, n_eqF, n_neM, n_Mne, n_M0, n_Mlt, n_0leM, nI_clamp, x_in_nI, n_1, nI_add, x_at, x_bd_s, x_bv_s, ↓x_lt, decide_true, decide_false, Bool.and_self, Bool.true_and, Bool.and_true, if_true, if_false, ite_true, ite_false, ↓reduceIte, not_true_eq_false, not_false_eq_true, Nat.reduceAdd, Nat.reduceMul, Nat.reduceEqDiff, eq_self, true_and, and_true, false_and, and_false, Option.some.injEq, Prod.mk.injEq, l_0, l_1, l_2, l_3, l_4, l_5, l_6, l_7, l_8, l_9, l_10, l_100, l_160, ↓m_1, ↓m_2, ↓m_3, ↓m_4, ↓m_5, ↓m_6, ↓m_7]
    · have h1 := hb.2 hj2
      rw [fw_f hj2]
      have g := ih N (j + 1) (by omega) (by omega)
      simp (disch := first | assumption | omega) only [bd_X3_fewestBreaks_84, f_X3_fewestBreaks_c102, gt_59, gt_21, g59_0, grt, grl, en, h1, oI, l_of, n_ltT, n_ltF, n_leT, n_leF, n_eqT, n_eqF, n_neM, n_Mne, n_M0, n_Mlt, n_0leM, nI_clamp, x_in_nI, n_1, nI_add, x_at, x_bd_s, x_bv_s, ↓x_lt, decide_true, decide_false, Bool.and_self, Bool.true_and, Bool.and_true, if_true, if_false, ite_true, ite_false, ↓reduceIte, not_true_eq_false, not_false_eq_true, Nat.reduceAdd, Nat.reduceMul, Nat.reduceEqDiff, eq_self, true_and, and_true, false_and, and_false, Option.some.injEq, Prod.mk.injEq, l_0, l_1, l_2, l_3, l_4, l_5, l_6, l_7, l_8, l_9, l_10, l_100, l_160, ↓m_1, ↓m_2, ↓m_3, ↓m_4, ↓m_5, ↓m_6, ↓m_7]
      exact g
theorem c_f30 {T : Nat} (hc : c < 6) (hn : n ≤ 200) (hkd : kd ≤ 6) (ha : a ≤ 9) (hp : 1 ≤ p) (hp2 : p ≤ 200) (hh : hd ≤ 800000) (hT : T ≤ 100) (d : Nat) : ∀ (N t : Nat) (b2 : Bool) (M : XM), d < N → Geo L b1 b2 M → x_i M 21 2 = nI n → x_i M 21 3 = nI p → x_i M (24 + c) 0 = nI kd → x_i M (24 + c) 1 = nI a → x_i M (24 + c) 4 = nI hd → t + d = T → (∀ y, y ≤ n → BT (x_i M (rwc b2) y) (FS n p kd a hd x0 t y)) →
    ∃ M' b2', lp_X3_fewestBreaks_30 N 59 21 (nI T) (24 + c) (nI t) M = some (oI (fw (FS n p kd a hd x0 T n) 9 0), M') ∧ Geo L b1 b2' M' ∧ Fr (fun a _ => a = 60 ∨ a = 61) M M' := by
  induction d with
  | zero =>
    intro N t b2 M hN hG en ep k0 k1 k4 ht hr
    obtain ⟨N, rfl⟩ : ∃ i, N = i + 1 := ⟨N - 1, by omega⟩
    have e : t = T := by omega
    subst e
    refine ⟨M, b2, ?_, hG, Fr.rf⟩
    rw [s_lp_X3_fewestBreaks_30]
    have g := c_f84 hn hG en (hr n (Nat.le_refl _)) 9 x_fuel 0 (fu (by omega)) (by omega)
    simp (disch := first | assumption | omega) only [bd_X3_fewestBreaks_30, l_of, n_ltT, n_ltF, n_leT, n_leF, n_eqT, n_eqF, n_neM, n_Mne, n_M0, n_Mlt, n_0leM, nI_clamp, x_in_nI, n_1, nI_add, x_at, x_bd_s, x_bv_s, ↓x_lt, decide_true, decide_false, Bool.and_self, Bool.true_and, Bool.and_true, if_true, if_false, ite_true, ite_false, ↓reduceIte, not_true_eq_false, not_false_eq_true, Nat.reduceAdd, Nat.reduceMul, Nat.reduceEqDiff, eq_self, true_and, and_true, false_and, and_false, Option.some.injEq, Prod.mk.injEq, l_0, l_1, l_2, l_3, l_4, l_5, l_6, l_7, l_8, l_9, l_10, l_100, l_160, ↓m_1, ↓m_2, ↓m_3, ↓m_4, ↓m_5, ↓m_6, ↓m_7]
    exact g
  | succ d ih =>
    intro N t b2 M hN hG en ep k0 k1 k4 ht hr
    obtain ⟨N, rfl⟩ : ∃ i, N = i + 1 := ⟨N - 1, by omega⟩
    have hnb := nxc_b b2
    obtain ⟨M0, a1, a2, a3, a4⟩ := c_fillf (v := nI 0) hG (show 201 < 999999 by omega) (gnt hG b2) (gnl hG b2)
    obtain ⟨M1, g1, g2, g3, g4⟩ := c_f47 (L := L) (b1 := b1) (b2 := b2) (S := FS n p kd a hd x0 t) (κ := lp_X3_fewestBreaks_30 N) (v3 := nI T) (v5 := nI t) hc hn hkd ha hp hp2 hh n x_fuel 0 M0 (fu (by omega)) a2 ((a4.1 _ _ (by omega)).trans en) ((a4.1 _ _ (by omega)).trans ep) ((a4.1 _ _ (by omega)).trans k0) ((a4.1 _ _ (by omega)).trans k1) ((a4.1 _ _ (by omega)).trans k4) (by omega) (fun y hy => by
      rw [a4.1 _ _ (fun q => (rn_ne b2).mp q)]
      exact hr y hy) (fun y hy => by
      rw [a3 y (by omega)]
      exact bt_iff bt_0 (fun b _ => ⟨fun q => False.elim q, fun q => NP_0 q⟩))
    have F : Fr (fun a _ => a = 60 ∨ a = 61) M M1 := (a4.mono (fun a k q => by omega)).tr g4
    obtain ⟨M2, b2', u1, u2, u3⟩ := ih N (t + 1) (!b2) M1 (by omega) g2 ((F.1 _ _ (by omega)).trans en) ((F.1 _ _ (by omega)).trans ep) ((F.1 _ _ (by omega)).trans k0) ((F.1 _ _ (by omega)).trans k1) ((F.1 _ _ (by omega)).trans k4) (by omega) g3
    refine ⟨M2, b2', ?_, u2, F.tr u3⟩
    rw [n_1] at g1
    rw [s_lp_X3_fewestBreaks_30]
    simp (disch := first | assumption | omega) only [bd_X3_fewestBreaks_30, f_X3_fewestBreaks_c41, gt_59, g59_1, a1, l_of, n_ltT, n_ltF, n_leT, n_leF, n_eqT, n_eqF, n_neM, n_Mne, n_M0, n_Mlt, n_0leM, nI_clamp, x_in_nI, n_1, nI_add, x_at, x_bd_s, x_bv_s, ↓x_lt, decide_true, decide_false, Bool.and_self, Bool.true_and, Bool.and_true, if_true, if_false, ite_true, ite_false, ↓reduceIte, not_true_eq_false, not_false_eq_true, Nat.reduceAdd, Nat.reduceMul, Nat.reduceEqDiff, eq_self, true_and, and_true, false_and, and_false, Option.some.injEq, Prod.mk.injEq, l_0, l_1, l_2, l_3, l_4, l_5, l_6, l_7, l_8, l_9, l_10, l_100, l_160, ↓m_1, ↓m_2, ↓m_3, ↓m_4, ↓m_5, ↓m_6, ↓m_7]
    exact g1.trans u1
theorem c_fits {M : XM} {T : Nat} (hc : c < 6) (hn : n ≤ 200) (hkd : kd ≤ 6) (ha : a ≤ 9) (hp : 1 ≤ p) (hp2 : p ≤ 200) (hh : hd ≤ 800000) (hT : T ≤ 100) (hx : x0 ≤ n) (hG : Geo L b1 b2 M) (en : x_i M 21 2 = nI n) (ep : x_i M 21 3 = nI p) (k0 : x_i M (24 + c) 0 = nI kd) (k1 : x_i M (24 + c) 1 = nI a) (k2 : x_i M (24 + c) 2 = nI x0) (k4 : x_i M (24 + c) 4 = nI hd) :
    ∃ M' b2', f_X3_fewestBreaks 59 21 (nI c) (nI T) M = some (oI (fw (FS n p kd a hd x0 T n) 9 0), M') ∧ Geo L b1 b2' M' ∧ Fr (fun a _ => a = 60 ∨ a = 61) M M' := by
  have hnb := rwc_b b2
  obtain ⟨M0, a1, a2, a3, a4⟩ := c_fillf (v := nI 0) hG (show 201 < 999999 by omega) (grt hG b2) (grl hG b2)
  have f0 : Fr (fun a _ => a = 60 ∨ a = 61) M (x_wi M0 (rwc b2) x0 (nI 1)) := (a4.mono (fun a k q => by omega)).wi (by omega)
  have k2' := (a4.1 (24 + c) 2 (by omega)).trans k2
  obtain ⟨M1, b2', g1, g2, g3⟩ := c_f30 (L := L) (b1 := b1) (x0 := x0) hc hn hkd ha hp hp2 hh hT T x_fuel 0 b2 (x_wi M0 (rwc b2) x0 (nI 1)) (fu (by omega)) a2 ((f0.1 _ _ (by omega)).trans en) ((f0.1 _ _ (by omega)).trans ep) ((f0.1 _ _ (by omega)).trans k0) ((f0.1 _ _ (by omega)).trans k1) ((f0.1 _ _ (by omega)).trans k4) (by omega) (fun y hy => by
    rw [ii_wi]
    by_cases hq : y = x0
    · rw [if_pos ⟨rfl, hq⟩]
      exact bt_iff bt_1 (fun b _ => ⟨fun q => ⟨hq, q⟩, fun q => q.2⟩)
    · rw [if_neg (fun z => hq z.2), a3 y (by omega)]
      exact bt_iff bt_0 (fun b _ => ⟨fun q => False.elim q, fun q => absurd q.1 hq⟩))
  refine ⟨M1, b2', ?_, g2, f0.tr g3⟩
  simp (disch := first | assumption | omega) only [f_X3_fewestBreaks, f_X3_fewestBreaks_c13, gt_21, gr_21_0, gt_22, gl_22, gc_22, gct_24, gt_59, g59_0, grt, grl, a1, k2', l_of, n_ltT, n_ltF, n_leT, n_leF, n_eqT, n_eqF, n_neM, n_Mne, n_M0, n_Mlt, n_0leM, nI_clamp, x_in_nI, n_1, nI_add, x_at, x_bd_s, x_bv_s, ↓x_lt, decide_true, decide_false, Bool.and_self, Bool.true_and, Bool.and_true, if_true, if_false, ite_true, ite_false, ↓reduceIte, not_true_eq_false, not_false_eq_true, Nat.reduceAdd, Nat.reduceMul, Nat.reduceEqDiff, eq_self, true_and, and_true, false_and, and_false, Option.some.injEq, Prod.mk.injEq, l_0, l_1, l_2, l_3, l_4, l_5, l_6, l_7, l_8, l_9, l_10, l_100, l_160, ↓m_1, ↓m_2, ↓m_3, ↓m_4, ↓m_5, ↓m_6, ↓m_7]
  exact g1
end
