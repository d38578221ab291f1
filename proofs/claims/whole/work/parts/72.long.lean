/-! longest: rows by how many breaks are still to come -/
theorem RR_sw (b1 b2 b3 : Bool) (a k : Nat) (h0 : ¬ (a = 59 ∧ k = 0)) (h1 : ¬ (a = 59 ∧ k = 1)) : RR b1 b2 a k = RR b1 b3 a k := by
  unfold RR
  split <;> first
    | rfl
    | exact absurd ⟨rfl, rfl⟩ h0
    | exact absurd ⟨rfl, rfl⟩ h1
    | (split <;> first | rfl | simp_all)
def rwc (b : Bool) : Nat := if b then 61 else 60
def nxc (b : Bool) : Nat := if b then 60 else 61
section
variable {L : Nat} {b1 b2 : Bool} {M : XM}
theorem g59_0 (h : Geo L b1 b2 M) : x_r M 59 0 = rwc b2 := gr_59_0 h
theorem g59_1 (h : Geo L b1 b2 M) : x_r M 59 1 = nxc b2 := gr_59_1 h
theorem grt (h : Geo L b1 b2 M) (b : Bool) : x_tag M (rwc b) = 1 := by cases b; exact gt_60 h; exact gt_61 h
theorem grl (h : Geo L b1 b2 M) (b : Bool) : x_len M (rwc b) = 201 := by cases b; exact gl_60 h; exact gl_61 h
theorem gnt (h : Geo L b1 b2 M) (b : Bool) : x_tag M (nxc b) = 1 := by cases b; exact gt_61 h; exact gt_60 h
theorem gnl (h : Geo L b1 b2 M) (b : Bool) : x_len M (nxc b) = 201 := by cases b; exact gl_61 h; exact gl_60 h
theorem rn_ne (b : Bool) : (rwc b = nxc b) = False := by cases b <;> exact eq_false (by decide)
theorem nr_ne (b : Bool) : (nxc b = rwc b) = False := by cases b <;> exact eq_false (by decide)
theorem rwc_b (b : Bool) : 60 ≤ rwc b ∧ rwc b ≤ 61 := by cases b <;> decide
theorem nxc_b (b : Bool) : 60 ≤ nxc b ∧ nxc b ≤ 61 := by cases b <;> decide
theorem rwc_n (b : Bool) : rwc (!b) = nxc b := by cases b <;> rfl
theorem nxc_n (b : Bool) : nxc (!b) = rwc b := by cases b <;> rfl
theorem c_swap (hG : Geo L b1 b2 M) : ∃ M', f_X3_swap 59 M = some M' ∧ Geo L b1 (!b2) M' ∧ (∀ a k, x_i M' a k = x_i M a k) ∧ (∀ a k, x_j M' a k = x_j M a k) := by
  refine ⟨x_wr (x_wr M 59 0 (nxc b2)) 59 1 (rwc b2), ?_, ⟨hG.1, ?_⟩, fun _ _ => rfl, fun _ _ => rfl⟩
  · have h1 := g59_0 hG
    have h2 := g59_1 hG
    have h4 := gt_59 hG
    unfold f_X3_swap x_lt
    rw [if_pos h4, h1, h2]
  · funext a k
    show (if a = 59 ∧ k = 1 then rwc b2 else if a = 59 ∧ k = 0 then nxc b2 else M.2.2.2 a k) = _
    by_cases h1 : a = 59 ∧ k = 1
    · rw [if_pos h1, h1.1, h1.2]
      cases b2 <;> rfl
    · rw [if_neg h1]
      by_cases h0 : a = 59 ∧ k = 0
      · rw [if_pos h0, h0.1, h0.2]
        cases b2 <;> rfl
      · rw [if_neg h0, hG.2]
        exact RR_sw _ _ _ _ _ h0 h1
end
def mx (a b : Nat) : Nat := if a < b then b else a
def lgi (f : Nat → Nat) (n : Nat) : Nat → Nat
  | 0 => 0
  | d + 1 => mx (lgi f n d) (f (n - (d + 1))) + 1
def lgv (n p kd a : Nat) : Nat → Nat → Nat → Nat
  | 0, _, _ => 0
  | k + 1, h, y => lgi (lgv n p kd a k (h + 1)) n (n - lf p kd a y (h + 1))
def lg (n p kd a k h x : Nat) : Nat := lgi (lgv n p kd a k h) n (n - x)
theorem lgi_le {f : Nat → Nat} {n F : Nat} (hf : ∀ y, f y ≤ F) (d : Nat) : lgi f n d ≤ F + d := by
  induction d with
  | zero => exact Nat.zero_le _
  | succ d ih =>
    have := hf (n - (d + 1))
    unfold lgi mx
    split <;> omega
theorem lgv_le (n p kd a : Nat) (hn : n ≤ 200) (k : Nat) : ∀ (h y : Nat), lgv n p kd a k h y ≤ 200 * k := by
  induction k with
  | zero => intro h y; exact Nat.zero_le _
  | succ k ih =>
    intro h y
    have := lgi_le (f := lgv n p kd a k (h + 1)) (n := n) (fun y => ih (h + 1) y) (n - lf p kd a y (h + 1))
    unfold lgv
    omega
theorem lg_le {n p kd a k h x : Nat} (hn : n ≤ 200) : lg n p kd a k h x ≤ 200 * k + 200 := by
  have := lgi_le (f := lgv n p kd a k h) (n := n) (fun y => lgv_le n p kd a hn k h y) (n - x)
  unfold lg
  omega
theorem lg_n {n p kd a k h : Nat} : lg n p kd a k h n = 0 := by unfold lg; rw [Nat.sub_self]; rfl
theorem lgi_s (f : Nat → Nat) (n d : Nat) : lgi f n (d + 1) = mx (lgi f n d) (f (n - (d + 1))) + 1 := rfl
theorem lg_s {n p kd a k h x : Nat} (hx : x < n) : lg n p kd a k h x = mx (lg n p kd a k h (x + 1)) (lgv n p kd a k h x) + 1 := by
  unfold lg
  rw [show n - x = (n - (x + 1)) + 1 by omega]
  rw [lgi_s, show n - (n - (x + 1) + 1) = x by omega]
theorem lgv_s {n p kd a k h y : Nat} : lgv n p kd a (k + 1) h y = lg n p kd a k (h + 1) (lf p kd a y (h + 1)) := rfl
theorem mx_0 (a : Nat) : mx a 0 = a := by unfold mx; rw [if_neg (by omega)]
/-- a number counted down: -1 behind 0 -/
def iv : Nat → Int32
  | 0 => nM 1
  | j + 1 => nI j
theorem iv_s (j : Nat) : nI j + nM 1 = iv j := by
  cases j with
  | zero => decide
  | succ j => rw [← m_1]; exact pk_m1 j
section
variable {L : Nat} {b1 : Bool}
set_option maxHeartbeats 1000000 in
theorem c_m34 {c n p kd a hd b br k : Nat} {κ : Nat → Nat → Int32 → Nat → Int32 → XM → Option (Int32 × XM)} (hc : c < 6) (hn : n ≤ 200) (hkd : kd ≤ 6) (ha : a ≤ 9) (hp : 1 ≤ p) (hp2 : p ≤ 200) (hh : hd ≤ 800000) (hb : b ≤ 5) (hbr : br + k = b) (i : Nat) : ∀ (N : Nat) (b2 : Bool) (M : XM), i < N → i ≤ n → Geo L b1 b2 M → x_i M 21 3 = nI p → x_i M (24 + c) 0 = nI kd → x_i M (24 + c) 1 = nI a → x_i M (24 + c) 4 = nI hd →
    (∀ q, i ≤ q → q ≤ n → x_i M (nxc b2) q = nI (lg n p kd a k (hd + br) q)) → (0 < k → ∀ q, q ≤ n → x_i M (rwc b2) q = nI (lg n p kd a (k - 1) (hd + br + 1) q)) →
    ∃ M', lp_X3_most_34 κ N 59 21 (nI b) (24 + c) (nI br) (iv i) M = κ 59 21 (nI b) (24 + c) (nI br + nM 1) M' ∧ Geo L b1 (!b2) M' ∧ (∀ q, q ≤ n → x_i M' (rwc (!b2)) q = nI (lg n p kd a k (hd + br) q)) ∧ Fr (fun a _ => a = 60 ∨ a = 61) M M' := by
  induction i with
  | zero =>
    intro N b2 M hN hi hG ep k0 k1 k4 hx hr
    obtain ⟨N, rfl⟩ : ∃ i, N = i + 1 := ⟨N - 1, by omega⟩
    obtain ⟨M1, s1, s2, s3, s4⟩ := c_swap hG
    refine ⟨M1, ?_, s2, fun q hq => ?_, ⟨fun a k _ => s3 a k, s4⟩⟩
    · rw [s_lp_X3_most_34]
      unfold iv
      simp (disch := first | assumption | omega) only [bd_X3_most_34, f_X3_most_c107, gt_59, s1, n_M0, l_of, n_ltT, n_ltF, n_leT, n_leF, n_eqT, n_eqF, n_neM, n_Mne, n_M0, n_Mlt, n_0leM, nI_clamp, x_in_nI, n_1, nI_add, x_at, x_bd_s, x_bv_s, ↓x_lt, decide_true, decide_false, Bool.and_self, Bool.true_and, Bool.and_true, if_true, if_false, ite_true, ite_false, ↓reduceIte, not_true_eq_false, not_false_eq_true, Nat.reduceAdd, Nat.reduceMul, Nat.reduceEqDiff, eq_self, true_and, and_true, false_and, and_false, Option.some.injEq, Prod.mk.injEq, l_0, l_1, l_2, l_3, l_4, l_5, l_6, l_7, l_8, l_9, l_10, l_100, l_160, ↓m_1, ↓m_2, ↓m_3, ↓m_4, ↓m_5, ↓m_6, ↓m_7]
    · rw [s3, rwc_n]
      exact hx q (by omega) hq
  | succ i ih =>
    intro N b2 M hN hi hG ep k0 k1 k4 hx hr
    obtain ⟨N, rfl⟩ : ∃ i, N = i + 1 := ⟨N - 1, by omega⟩
    have y1 := hx (i + 1) (by omega) (by omega)
    have hnb := nxc_b b2
    have hs := lg_s (n := n) (p := p) (kd := kd) (a := a) (k := k) (h := hd + br) (x := i) (by omega)
    have hle := lg_le (n := n) (p := p) (kd := kd) (a := a) (k := k) (h := hd + br) (x := i) hn
    have f0 : Fr (fun a _ => a = 60 ∨ a = 61) M (x_wi M (nxc b2) i (nI (lg n p kd a k (hd + br) i))) := Fr.rf.wi (by omega)
    obtain ⟨M2, g1, g2, g3, g4⟩ := ih N b2 (x_wi M (nxc b2) i (nI (lg n p kd a k (hd + br) i))) (by omega) (by omega) hG ((f0.1 _ _ (by omega)).trans ep) ((f0.1 _ _ (by omega)).trans k0) ((f0.1 _ _ (by omega)).trans k1) ((f0.1 _ _ (by omega)).trans k4) (fun q h1 h2 => by
      rw [ii_wi]
      by_cases hq : q = i
      · rw [if_pos ⟨rfl, hq⟩, hq]
      · rw [if_neg (fun z => hq z.2)]; exact hx q (by omega) h2) (fun hk q hq => by
      rw [ii_wi, if_neg (fun z => (rn_ne b2).mp z.1)]
      exact hr hk q hq)
    refine ⟨M2, ?_, g2, g3, f0.tr g4⟩
    rw [← iv_s i] at g1
    rw [s_lp_X3_most_34]
    unfold iv
    have hle2 := lg_le (n := n) (p := p) (kd := kd) (a := a) (k := k) (h := hd + br) (x := i + 1) hn
    by_cases hk : k = 0
    · subst hk
      rw [show lgv n p kd a 0 (hd + br) i = 0 from rfl, mx_0] at hs
      rw [hs] at g1
      simp (disch := first | assumption | omega) only [bd_X3_most_34, f_X3_most_89, gt_59, g59_1, gnt, gnl, y1, nI_add, l_of, n_ltT, n_ltF, n_leT, n_leF, n_eqT, n_eqF, n_neM, n_Mne, n_M0, n_Mlt, n_0leM, nI_clamp, x_in_nI, n_1, nI_add, x_at, x_bd_s, x_bv_s, ↓x_lt, decide_true, decide_false, Bool.and_self, Bool.true_and, Bool.and_true, if_true, if_false, ite_true, ite_false, ↓reduceIte, not_true_eq_false, not_false_eq_true, Nat.reduceAdd, Nat.reduceMul, Nat.reduceEqDiff, eq_self, true_and, and_true, false_and, and_false, Option.some.injEq, Prod.mk.injEq, l_0, l_1, l_2, l_3, l_4, l_5, l_6, l_7, l_8, l_9, l_10, l_100, l_160, ↓m_1, ↓m_2, ↓m_3, ↓m_4, ↓m_5, ↓m_6, ↓m_7]
      exact g1
    · obtain ⟨k, rfl⟩ : ∃ j, k = j + 1 := ⟨k - 1, by omega⟩
      have hl := c_left (M := M) (v0 := 24 + c) (x := i) (h := hd + br + 1) (p := p) (gct_24 hG hc) k0 k1 hkd ha (by omega) (by omega) hp hp2
      have hlf := lf_le p kd a i (hd + br + 1)
      have y2 := hr (by omega) (lf p kd a i (hd + br + 1)) (by omega)
      rw [show k + 1 - 1 = k from rfl, ← lgv_s] at y2
      have hle3 := lgv_le n p kd a hn (k + 1) (hd + br) i
      generalize lgv n p kd a (k + 1) (hd + br) i = V at hs y2 hle3
      generalize lg n p kd a (k + 1) (hd + br) (i + 1) = U at hs y1 hle2
      have hlt : br < b := by omega
      by_cases hm : U < V
      · have : mx U V = V := by unfold mx; rw [if_pos hm]
        rw [this] at hs
        rw [hs] at g1
        simp (disch := first | assumption | omega) only [bd_X3_most_34, f_X3_most_89, f_X3_most_c80, gt_59, g59_0, g59_1, gnt, gnl, grt, grl, gct_24, gt_21, y1, y2, k4, ep, hl, nI_add, l_of, n_ltT, n_ltF, n_leT, n_leF, n_eqT, n_eqF, n_neM, n_Mne, n_M0, n_Mlt, n_0leM, nI_clamp, x_in_nI, n_1, nI_add, x_at, x_bd_s, x_bv_s, ↓x_lt, decide_true, decide_false, Bool.and_self, Bool.true_and, Bool.and_true, if_true, if_false, ite_true, ite_false, ↓reduceIte, not_true_eq_false, not_false_eq_true, Nat.reduceAdd, Nat.reduceMul, Nat.reduceEqDiff, eq_self, true_and, and_true, false_and, and_false, Option.some.injEq, Prod.mk.injEq, l_0, l_1, l_2, l_3, l_4, l_5, l_6, l_7, l_8, l_9, l_10, l_100, l_160, ↓m_1, ↓m_2, ↓m_3, ↓m_4, ↓m_5, ↓m_6, ↓m_7]
        exact g1
      · have : mx U V = U := by unfold mx; rw [if_neg hm]
        rw [this] at hs
        rw [hs] at g1
        simp (disch := first | assumption | omega) only [bd_X3_most_34, f_X3_most_89, f_X3_most_c80, gt_59, g59_0, g59_1, gnt, gnl, grt, grl, gct_24, gt_21, y1, y2, k4, ep, hl, nI_add, l_of, n_ltT, n_ltF, n_leT, n_leF, n_eqT, n_eqF, n_neM, n_Mne, n_M0, n_Mlt, n_0leM, nI_clamp, x_in_nI, n_1, nI_add, x_at, x_bd_s, x_bv_s, ↓x_lt, decide_true, decide_false, Bool.and_self, Bool.true_and, Bool.and_true, if_true, if_false, ite_true, ite_false, ↓reduceIte, not_true_eq_false, not_false_eq_true, Nat.reduceAdd, Nat.reduceMul, Nat.reduceEqDiff, eq_self, true_and, and_true, false_and, and_false, Option.some.injEq, Prod.mk.injEq, l_0, l_1, l_2, l_3, l_4, l_5, l_6, l_7, l_8, l_9, l_10, l_100, l_160, ↓m_1, ↓m_2, ↓m_3, ↓m_4, ↓m_5, ↓m_6, ↓m_7]
        exact g1
theorem c_m11 {c n p kd a hd b x : Nat} (hc : c < 6) (hn1 : 1 ≤ n) (hn : n ≤ 200) (hkd : kd ≤ 6) (ha : a ≤ 9) (hp : 1 ≤ p) (hp2 : p ≤ 200) (hh : hd ≤ 800000) (hb : b ≤ 5) (hx : x ≤ n) (j : Nat) : ∀ (N : Nat) (b2 : Bool) (M : XM), j < N → j ≤ b + 1 → Geo L b1 b2 M → x_i M 21 2 = nI n → x_i M 21 3 = nI p → x_i M (24 + c) 0 = nI kd → x_i M (24 + c) 1 = nI a → x_i M (24 + c) 2 = nI x → x_i M (24 + c) 4 = nI hd →
    (j ≤ b → ∀ q, q ≤ n → x_i M (rwc b2) q = nI (lg n p kd a (b - j) (hd + j) q)) →
    ∃ M' b2', lp_X3_most_11 N 59 21 (nI b) (24 + c) (iv j) M = some (nI (lg n p kd a b hd x), M') ∧ Geo L b1 b2' M' ∧ Fr (fun a _ => a = 60 ∨ a = 61) M M' := by
  induction j with
  | zero =>
    intro N b2 M hN hj hG en ep k0 k1 k2 k4 hr
    obtain ⟨N, rfl⟩ : ∃ i, N = i + 1 := ⟨N - 1, by omega⟩
    refine ⟨M, b2, ?_, hG, Fr.rf⟩
    have y := hr (by omega) x hx
    rw [Nat.sub_zero, Nat.add_zero] at y
    rw [s_lp_X3_most_11]
    unfold iv
    simp (disch := first | assumption | omega) only [bd_X3_most_11, gt_59, g59_0, grt, grl, gct_24, k2, y, n_M0, l_of, n_ltT, n_ltF, n_leT, n_leF, n_eqT, n_eqF, n_neM, n_Mne, n_M0, n_Mlt, n_0leM, nI_clamp, x_in_nI, n_1, nI_add, x_at, x_bd_s, x_bv_s, ↓x_lt, decide_true, decide_false, Bool.and_self, Bool.true_and, Bool.and_true, if_true, if_false, ite_true, ite_false, ↓reduceIte, not_true_eq_false, not_false_eq_true, Nat.reduceAdd, Nat.reduceMul, Nat.reduceEqDiff, eq_self, true_and, and_true, false_and, and_false, Option.some.injEq, Prod.mk.injEq, l_0, l_1, l_2, l_3, l_4, l_5, l_6, l_7, l_8, l_9, l_10, l_100, l_160, ↓m_1, ↓m_2, ↓m_3, ↓m_4, ↓m_5, ↓m_6, ↓m_7]
  | succ j ih =>
    intro N b2 M hN hj hG en ep k0 k1 k2 k4 hr
    obtain ⟨N, rfl⟩ : ∃ i, N = i + 1 := ⟨N - 1, by omega⟩
    have hnb := nxc_b b2
    have hrb := rwc_b b2
    have f0 : Fr (fun a _ => a = 60 ∨ a = 61) M (x_wi M (nxc b2) n (nI 0)) := Fr.rf.wi (by omega)
    obtain ⟨M1, g1, g2, g3, g4⟩ := c_m34 (L := L) (b1 := b1) (k := b - j) (κ := lp_X3_most_11 N) hc hn hkd ha hp hp2 hh hb (show j + (b - j) = b by omega) n x_fuel b2 (x_wi M (nxc b2) n (nI 0)) (fu (by omega)) (by omega) hG ((f0.1 _ _ (by omega)).trans ep) ((f0.1 _ _ (by omega)).trans k0) ((f0.1 _ _ (by omega)).trans k1) ((f0.1 _ _ (by omega)).trans k4) (fun q h1 h2 => by
      rw [ii_wi, if_pos ⟨rfl, by omega⟩, show q = n by omega, lg_n]) (fun hk q hq => by
      rw [ii_wi, if_neg (fun z => (rn_ne b2).mp z.1)]
      have y := hr (by omega) q hq
      rw [show b - (j + 1) = b - j - 1 by omega] at y
      exact y)
    have f1 : Fr (fun a _ => a = 60 ∨ a = 61) M M1 := f0.tr g4
    obtain ⟨M2, b2', u1, u2, u3⟩ := ih N (!b2) M1 (by omega) (by omega) g2 ((f1.1 _ _ (by omega)).trans en) ((f1.1 _ _ (by omega)).trans ep) ((f1.1 _ _ (by omega)).trans k0) ((f1.1 _ _ (by omega)).trans k1) ((f1.1 _ _ (by omega)).trans k2) ((f1.1 _ _ (by omega)).trans k4) (fun _ q hq => g3 q hq)
    refine ⟨M2, b2', ?_, u2, f1.tr u3⟩
    rw [iv_s] at g1
    have g5 := g1.trans u1
    obtain ⟨n', rfl⟩ : ∃ i, n = i + 1 := ⟨n - 1, by omega⟩
    have en' : x_i (x_wi M (nxc b2) (n' + 1) (nI 0)) 21 2 = nI (n' + 1) := (f0.1 _ _ (by omega)).trans en
    have z : nI (n' + 1) - nI 1 = nI n' := n_pm1 n'
    rw [s_lp_X3_most_11]
    unfold iv
    simp (disch := first | assumption | omega) only [bd_X3_most_11, gt_59, g59_1, gnt, gnl, gt_21, en, en', z, l_of, n_ltT, n_ltF, n_leT, n_leF, n_eqT, n_eqF, n_neM, n_Mne, n_M0, n_Mlt, n_0leM, nI_clamp, x_in_nI, n_1, nI_add, x_at, x_bd_s, x_bv_s, ↓x_lt, decide_true, decide_false, Bool.and_self, Bool.true_and, Bool.and_true, if_true, if_false, ite_true, ite_false, ↓reduceIte, not_true_eq_false, not_false_eq_true, Nat.reduceAdd, Nat.reduceMul, Nat.reduceEqDiff, eq_self, true_and, and_true, false_and, and_false, Option.some.injEq, Prod.mk.injEq, l_0, l_1, l_2, l_3, l_4, l_5, l_6, l_7, l_8, l_9, l_10, l_100, l_160, ↓m_1, ↓m_2, ↓m_3, ↓m_4, ↓m_5, ↓m_6, ↓m_7]
    exact g5
end
