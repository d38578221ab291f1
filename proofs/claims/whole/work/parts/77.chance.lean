/-! CHANCES, the class: rows by residues, a window -/
def pwc (b : Bool) : Nat := if b then 57 else 56
def nwc (b : Bool) : Nat := if b then 56 else 57
theorem RR_sw1 (b1 b2 b3 : Bool) (a k : Nat) (h0 : ¬ (a = 55 ∧ k = 0)) (h1 : ¬ (a = 55 ∧ k = 1)) : RR b1 b2 a k = RR b3 b2 a k := by
  unfold RR
  split <;> first
    | rfl
    | exact absurd ⟨rfl, rfl⟩ h0
    | exact absurd ⟨rfl, rfl⟩ h1
    | (split <;> first | rfl | simp_all)
section
variable {L : Nat} {b1 b2 : Bool} {M : XM}
theorem g55_0 (h : Geo L b1 b2 M) : x_r M 55 0 = pwc b1 := gr_55_0 h
theorem g55_1 (h : Geo L b1 b2 M) : x_r M 55 1 = nwc b1 := gr_55_1 h
theorem gpt (h : Geo L b1 b2 M) (b : Bool) : x_tag M (pwc b) = 1 := by cases b; exact gt_56 h; exact gt_57 h
theorem gpl (h : Geo L b1 b2 M) (b : Bool) : x_len M (pwc b) = 2000 := by cases b; exact gl_56 h; exact gl_57 h
theorem gwt (h : Geo L b1 b2 M) (b : Bool) : x_tag M (nwc b) = 1 := by cases b; exact gt_57 h; exact gt_56 h
theorem gwl (h : Geo L b1 b2 M) (b : Bool) : x_len M (nwc b) = 2000 := by cases b; exact gl_57 h; exact gl_56 h
theorem pwc_b (b : Bool) : (56 ≤ pwc b ∧ pwc b ≤ 57) ∧ 56 ≤ nwc b ∧ nwc b ≤ 57 ∧ pwc b ≠ nwc b := by cases b <;> decide
theorem pwc_n (b : Bool) : pwc (!b) = nwc b := by cases b <;> rfl
theorem nwc_n (b : Bool) : nwc (!b) = pwc b := by cases b <;> rfl
end
/-- what Chances hold: N, ODDS, residues, those through, the window (of the next row), parts, the next row, where breaks leave -/
def CH (b : Bool) (n o T p kd a : Nat) (P N : Nat → Nat → Nat) (A lo hi : Nat) (M : XM) : Prop :=
  x_i M 55 3 = nI n ∧ x_i M 55 4 = nI o ∧ x_i M 55 5 = nI T ∧ x_i M 55 6 = nI A ∧ x_i M 55 7 = nI lo ∧ x_i M 55 8 = iv hi ∧ (∀ x h, x < n → h < T → x_i M (pwc b) (h * 200 + x) = nI (P x h)) ∧ (∀ x h, x < n → h < T → x_i M (nwc b) (h * 200 + x) = nI (N x h)) ∧ ∀ x h, x < n → h < T → x_i M 58 (h * 200 + x) = nI (lf p kd a x (h + 1))
def WN (n T : Nat) (N : Nat → Nat → Nat) (lo hi : Nat) : Prop := lo ≤ n ∧ hi ≤ n ∧ ∀ y g, y < n → g < T → N y g ≠ 0 → lo ≤ y ∧ y < hi
abbrev PX : Nat → Nat → Prop := fun a _ => 55 ≤ a ∧ a < 59
section
variable {b : Bool} {n o T p kd a : Nat} {P N : Nat → Nat → Nat} {A lo hi : Nat} {M : XM}
theorem CH.z (h : CH b n o T p kd a P N A lo hi M) {i r : Nat} (hi' : i < n) (hn : n ≤ 200) : CH b n o T p kd a (fun x g => if x = i ∧ g = r then 0 else P x g) N A lo hi (x_wi M (pwc b) (r * 200 + i) (nI 0)) := by
  obtain ⟨h1, h2, h3, h4, h5, h6, h7, h8, h9⟩ := h
  have hb := pwc_b b
  have hz : ∀ c k, c ≠ pwc b → x_i (x_wi M (pwc b) (r * 200 + i) (nI 0)) c k = x_i M c k := fun c k hc => by rw [ii_wi, if_neg (fun q => hc q.1)]
  refine ⟨(hz _ _ (by omega)).trans h1, (hz _ _ (by omega)).trans h2, (hz _ _ (by omega)).trans h3, (hz _ _ (by omega)).trans h4, (hz _ _ (by omega)).trans h5, (hz _ _ (by omega)).trans h6, fun x g hx hg => ?_, fun x g hx hg => (hz _ _ (by omega)).trans (h8 x g hx hg), fun x g hx hg => (hz _ _ (by omega)).trans (h9 x g hx hg)⟩
  rw [ii_wi]
  dsimp only
  by_cases q : x = i ∧ g = r
  · rw [if_pos ⟨rfl, by rw [q.1, q.2]⟩, if_pos q]
  · rw [if_neg (by omega), if_neg q]
    exact h7 x g hx hg
theorem CH.na (h : CH b n o T p kd a P N A lo hi M) {y0 g0 v : Nat} (hy : y0 < n) (hg0 : g0 < T) (hn : n ≤ 200) : CH b n o T p kd a P (fun y g => N y g + if y = y0 ∧ g = g0 then v else 0) A lo hi (x_wi M (nwc b) (g0 * 200 + y0) (nI (N y0 g0 + v))) := by
  obtain ⟨h1, h2, h3, h4, h5, h6, h7, h8, h9⟩ := h
  have hb := pwc_b b
  have hz : ∀ c k, c ≠ nwc b → x_i (x_wi M (nwc b) (g0 * 200 + y0) (nI (N y0 g0 + v))) c k = x_i M c k := fun c k hc => by rw [ii_wi, if_neg (fun q => hc q.1)]
  refine ⟨(hz _ _ (by omega)).trans h1, (hz _ _ (by omega)).trans h2, (hz _ _ (by omega)).trans h3, (hz _ _ (by omega)).trans h4, (hz _ _ (by omega)).trans h5, (hz _ _ (by omega)).trans h6, fun x g hx hg => (hz _ _ (by omega)).trans (h7 x g hx hg), fun x g hx hg => ?_, fun x g hx hg => (hz _ _ (by omega)).trans (h9 x g hx hg)⟩
  rw [ii_wi]
  dsimp only
  by_cases q : x = y0 ∧ g = g0
  · rw [if_pos ⟨rfl, by rw [q.1, q.2]⟩, if_pos q, q.1, q.2]
  · rw [if_neg (by omega), if_neg q]
    exact h8 x g hx hg
theorem CH.s (h : CH b n o T p kd a P N A lo hi M) {k : Nat} {v : Int32} (hk : k = 6 ∨ k = 7 ∨ k = 8) {A' lo' hi' : Nat} (hA : nI A' = if k = 6 then v else nI A) (hlo : nI lo' = if k = 7 then v else nI lo) (hhi : iv hi' = if k = 8 then v else iv hi) : CH b n o T p kd a P N A' lo' hi' (x_wi M 55 k v) := by
  obtain ⟨h1, h2, h3, h4, h5, h6, h7, h8, h9⟩ := h
  have hb := pwc_b b
  have hz : ∀ c j, c ≠ 55 → x_i (x_wi M 55 k v) c j = x_i M c j := fun c j hc => by rw [ii_wi, if_neg (fun q => hc q.1)]
  refine ⟨?_, ?_, ?_, ?_, ?_, ?_, fun x g hx hg => (hz _ _ (by omega)).trans (h7 x g hx hg), fun x g hx hg => (hz _ _ (by omega)).trans (h8 x g hx hg), fun x g hx hg => (hz _ _ (by omega)).trans (h9 x g hx hg)⟩
  · rw [ii_wi, if_neg (by omega)]; exact h1
  · rw [ii_wi, if_neg (by omega)]; exact h2
  · rw [ii_wi, if_neg (by omega)]; exact h3
  · rw [ii_wi, hA]
    by_cases q : k = 6
    · rw [if_pos ⟨rfl, q.symm⟩, if_pos q]
    · rw [if_neg (fun z => q z.2.symm), if_neg q]; exact h4
  · rw [ii_wi, hlo]
    by_cases q : k = 7
    · rw [if_pos ⟨rfl, q.symm⟩, if_pos q]
    · rw [if_neg (fun z => q z.2.symm), if_neg q]; exact h5
  · rw [ii_wi, hhi]
    by_cases q : k = 8
    · rw [if_pos ⟨rfl, q.symm⟩, if_pos q]
    · rw [if_neg (fun z => q z.2.symm), if_neg q]; exact h6
theorem CH.c (h : CH b n o T p kd a P N A lo hi M) {P' N' : Nat → Nat → Nat} {A' : Nat} (hP : ∀ x g, x < n → g < T → P' x g = P x g) (hN : ∀ x g, x < n → g < T → N' x g = N x g) (hA : A' = A) : CH b n o T p kd a P' N' A' lo hi M := by
  obtain ⟨h1, h2, h3, h4, h5, h6, h7, h8, h9⟩ := h
  exact ⟨h1, h2, h3, by rw [hA]; exact h4, h5, h6, fun x g hx hg => by rw [hP x g hx hg]; exact h7 x g hx hg, fun x g hx hg => by rw [hN x g hx hg]; exact h8 x g hx hg, h9⟩
end
theorem iv_leT {l h : Nat} (q : l < h) (hh : h < 2147483648) : (nI l ≤ iv h) = True := by
  obtain ⟨h', rfl⟩ : ∃ i, h = i + 1 := ⟨h - 1, by omega⟩
  exact n_leT (by omega) (by omega)
theorem iv_leF {l h : Nat} (q : h ≤ l) (hh : l < 2147483648) : (nI l ≤ iv h) = False := by
  cases h with
  | zero => exact n_0leM (by omega) (by omega) hh
  | succ h => exact n_leF (by omega) hh
theorem iv_ltF {l h : Nat} (q : l < h) (hh : h < 2147483648) : (iv h < nI l) = False := by
  obtain ⟨h', rfl⟩ : ∃ i, h = i + 1 := ⟨h - 1, by omega⟩
  exact n_ltF (by omega) (by omega)
theorem iv_ltT {l h : Nat} (q : h ≤ l) (hh : l < 2147483648) : (iv h < nI l) = True := by
  cases h with
  | zero => exact n_MltT (by omega) (by omega) hh
  | succ h => exact n_ltT (by omega) hh
section
variable {L : Nat} {b1 b2 : Bool} {n o T p kd a : Nat}
/-- the window is widened by a number -/
theorem c_hi {κ : Nat → Int32 → Int32 → Int32 → Int32 → XM → Option XM} {M : XM} {P N : Nat → Nat → Nat} {A lo hi l : Nat} {v1 v2 v4 v5 v6 v7 : Int32} (hG : Geo L b1 b2 M) (hC : CH b1 n o T p kd a P N A lo hi M) (hh : hi ≤ 200) (hl : l < 200) :
    ∃ M' hi', f_X1_passRest_97 κ 55 v1 v2 v4 v5 v6 v7 (nI l) M = f_X1_passRest_112 κ 55 v1 v2 v4 v5 v6 v7 M' ∧ Geo L b1 b2 M' ∧ CH b1 n o T p kd a P N A lo hi' M' ∧ (hi ≤ hi' ∧ l < hi' ∧ hi' ≤ max hi (l + 1)) ∧ Fr PX M M' := by
  have h6 := hC.2.2.2.2.2.1
  by_cases q : l < hi
  · refine ⟨M, hi, ?_, hG, hC, by omega, Fr.rf⟩
    simp (disch := first | assumption | omega) only [f_X1_passRest_97, gt_55, h6, iv_leT, l_of, n_ltT, n_ltF, n_leT, n_leF, n_eqT, n_eqF, n_neM, n_Mne, n_M0, n_Mlt, n_0leM, nI_clamp, x_in_nI, n_1, nI_add, x_at, x_bd_s, x_bv_s, ↓x_lt, decide_true, decide_false, Bool.and_self, Bool.true_and, Bool.and_true, if_true, if_false, ite_true, ite_false, ↓reduceIte, not_true_eq_false, not_false_eq_true, Nat.reduceAdd, Nat.reduceMul, Nat.reduceEqDiff, eq_self, true_and, and_true, false_and, and_false, Option.some.injEq, Prod.mk.injEq, l_0, l_1, l_2, l_3, l_4, l_5, l_6, l_7, l_8, l_9, l_10, l_100, l_160, ↓m_1, ↓m_2, ↓m_3, ↓m_4, ↓m_5, ↓m_6, ↓m_7]
  · refine ⟨x_wi M 55 8 (nI l), l + 1, ?_, hG, hC.s (Or.inr (Or.inr rfl)) (by rw [if_neg (by omega)]) (by rw [if_neg (by omega)]) (by rw [if_pos rfl]; rfl), by omega, Fr.rf.wi (by omega)⟩
    simp (disch := first | assumption | omega) only [f_X1_passRest_97, gt_55, h6, iv_leF, l_of, n_ltT, n_ltF, n_leT, n_leF, n_eqT, n_eqF, n_neM, n_Mne, n_M0, n_Mlt, n_0leM, nI_clamp, x_in_nI, n_1, nI_add, x_at, x_bd_s, x_bv_s, ↓x_lt, decide_true, decide_false, Bool.and_self, Bool.true_and, Bool.and_true, if_true, if_false, ite_true, ite_false, ↓reduceIte, not_true_eq_false, not_false_eq_true, Nat.reduceAdd, Nat.reduceMul, Nat.reduceEqDiff, eq_self, true_and, and_true, false_and, and_false, Option.some.injEq, Prod.mk.injEq, l_0, l_1, l_2, l_3, l_4, l_5, l_6, l_7, l_8, l_9, l_10, l_100, l_160, ↓m_1, ↓m_2, ↓m_3, ↓m_4, ↓m_5, ↓m_6, ↓m_7]
theorem c_hi2 {κ : Nat → Int32 → Int32 → Int32 → Int32 → XM → Option XM} {M : XM} {P N : Nat → Nat → Nat} {A lo hi i : Nat} {v1 v2 v4 : Int32} (hG : Geo L b1 b2 M) (hC : CH b1 n o T p kd a P N A lo hi M) (hh : hi ≤ 200) (hl : i + 1 < 200) :
    ∃ M' hi', f_X1_passRest_185 κ 55 v1 v2 v4 (nI i) M = κ 55 v1 v2 v4 (nI (i + 1)) M' ∧ Geo L b1 b2 M' ∧ CH b1 n o T p kd a P N A lo hi' M' ∧ (hi ≤ hi' ∧ i + 1 < hi' ∧ hi' ≤ max hi (i + 2)) ∧ Fr PX M M' := by
  have h6 := hC.2.2.2.2.2.1
  by_cases q : i + 1 < hi
  · refine ⟨M, hi, ?_, hG, hC, by omega, Fr.rf⟩
    simp (disch := first | assumption | omega) only [f_X1_passRest_185, f_X1_passRest_204, gt_55, h6, iv_leT, l_of, n_ltT, n_ltF, n_leT, n_leF, n_eqT, n_eqF, n_neM, n_Mne, n_M0, n_Mlt, n_0leM, nI_clamp, x_in_nI, n_1, nI_add, x_at, x_bd_s, x_bv_s, ↓x_lt, decide_true, decide_false, Bool.and_self, Bool.true_and, Bool.and_true, if_true, if_false, ite_true, ite_false, ↓reduceIte, not_true_eq_false, not_false_eq_true, Nat.reduceAdd, Nat.reduceMul, Nat.reduceEqDiff, eq_self, true_and, and_true, false_and, and_false, Option.some.injEq, Prod.mk.injEq, l_0, l_1, l_2, l_3, l_4, l_5, l_6, l_7, l_8, l_9, l_10, l_100, l_160, ↓m_1, ↓m_2, ↓m_3, ↓m_4, ↓m_5, ↓m_6, ↓m_7]
  · refine ⟨x_wi M 55 8 (nI (i + 1)), i + 2, ?_, hG, hC.s (Or.inr (Or.inr rfl)) (by rw [if_neg (by omega)]) (by rw [if_neg (by omega)]) (by rw [if_pos rfl]; rfl), by omega, Fr.rf.wi (by omega)⟩
    simp (disch := first | assumption | omega) only [f_X1_passRest_185, f_X1_passRest_204, gt_55, h6, iv_leF, l_of, n_ltT, n_ltF, n_leT, n_leF, n_eqT, n_eqF, n_neM, n_Mne, n_M0, n_Mlt, n_0leM, nI_clamp, x_in_nI, n_1, nI_add, x_at, x_bd_s, x_bv_s, ↓x_lt, decide_true, decide_false, Bool.and_self, Bool.true_and, Bool.and_true, if_true, if_false, ite_true, ite_false, ↓reduceIte, not_true_eq_false, not_false_eq_true, Nat.reduceAdd, Nat.reduceMul, Nat.reduceEqDiff, eq_self, true_and, and_true, false_and, and_false, Option.some.injEq, Prod.mk.injEq, l_0, l_1, l_2, l_3, l_4, l_5, l_6, l_7, l_8, l_9, l_10, l_100, l_160, ↓m_1, ↓m_2, ↓m_3, ↓m_4, ↓m_5, ↓m_6, ↓m_7]
/-- the way on -/
theorem c_112 {κ : Nat → Int32 → Int32 → Int32 → Int32 → XM → Option XM} {M : XM} {P N : Nat → Nat → Nat} {A lo hi i r v w : Nat} {v2 v4 : Int32} (hG : Geo L b1 b2 M) (hC : CH b1 n o T p kd a P N A lo hi M) (hW : WN n T N lo hi) (hn : n ≤ 200) (hi' : i < n) (hr : r < T) (hT : T ≤ 10) (hv : v ≤ 1000000) (hw : w ≤ v) :
    ∃ M' lo' hi', f_X1_passRest_112 κ 55 (nI (r * 200)) v2 v4 (nI i) (nI v) (nI w) M = κ 55 (nI (r * 200)) v2 v4 (nI (i + 1)) M' ∧ Geo L b1 b2 M' ∧ CH b1 n o T p kd a P (fun y g => N y g + if y = i + 1 ∧ g = r then v - w else 0) (A + if i + 1 = n then v - w else 0) lo' hi' M' ∧ WN n T (fun y g => N y g + if y = i + 1 ∧ g = r then v - w else 0) lo' hi' ∧ Fr PX M M' := by
  obtain ⟨h1, h2, h3, h4, h5, h6, h7, h8, h9⟩ := id hC
  obtain ⟨w1, w2, w3⟩ := id hW
  have hb := pwc_b b1
  have zs : nI v - nI w = nI (v - w) := pk_sub hw
  by_cases q : i + 1 < n
  · by_cases qv : v ≤ w
    · have e : v - w = 0 := by omega
      refine ⟨M, lo, hi, ?_, hG, hC.c (fun _ _ _ _ => rfl) (fun x g _ _ => by rw [e]; split <;> rfl) (by rw [if_neg (by omega)]; rfl), ⟨w1, w2, fun y g hy hg hz => w3 y g hy hg (by
        intro z
        refine hz ?_
        dsimp only
        rw [z, e]
        split <;> rfl)⟩, Fr.rf⟩
      simp (disch := first | assumption | omega) only [f_X1_passRest_112, f_X1_passRest_204, gt_55, h1, l_of, n_ltT, n_ltF, n_leT, n_leF, n_eqT, n_eqF, n_neM, n_Mne, n_M0, n_Mlt, n_0leM, nI_clamp, x_in_nI, n_1, nI_add, x_at, x_bd_s, x_bv_s, ↓x_lt, decide_true, decide_false, Bool.and_self, Bool.true_and, Bool.and_true, if_true, if_false, ite_true, ite_false, ↓reduceIte, not_true_eq_false, not_false_eq_true, Nat.reduceAdd, Nat.reduceMul, Nat.reduceEqDiff, eq_self, true_and, and_true, false_and, and_false, Option.some.injEq, Prod.mk.injEq, l_0, l_1, l_2, l_3, l_4, l_5, l_6, l_7, l_8, l_9, l_10, l_100, l_160, ↓m_1, ↓m_2, ↓m_3, ↓m_4, ↓m_5, ↓m_6, ↓m_7]
    · have y1 := h8 (i + 1) r q hr
      have hCn := hC.na (v := v - w) q hr hn
      rw [← Nat.add_assoc] at y1 hCn
      have f0 : Fr PX M (x_wi M (nwc b1) (r * 200 + i + 1) (nI (N (i + 1) r + (v - w)))) := Fr.rf.wi (by omega)
      have hlo := hCn.2.2.2.2.1
      have wn : ∀ lo' hi', lo' ≤ lo → lo' ≤ i + 1 → lo' ≤ n → hi ≤ hi' → i + 1 < hi' → hi' ≤ n → WN n T (fun y g => N y g + if y = i + 1 ∧ g = r then v - w else 0) lo' hi' := fun lo' hi' c1 c2 c3 c4 c5 c6 => ⟨c3, c6, fun y g hy hg hz => by
        by_cases z : N y g = 0
        · dsimp only at hz
          rw [z] at hz
          by_cases z2 : y = i + 1 ∧ g = r
          · omega
          · rw [if_neg z2] at hz; exact absurd rfl hz
        · have := w3 y g hy hg z
          omega⟩
      have hA : A = A + if i + 1 = n then v - w else 0 := by rw [if_neg (by omega)]; rfl
      by_cases ql : lo ≤ i + 1
      · obtain ⟨M2, hi2, s1, s2, s3, s4, s5⟩ := c_hi2 (κ := κ) (v1 := nI (r * 200)) (v2 := v2) (v4 := v4) (i := i) (show Geo L b1 b2 (x_wi M (nwc b1) (r * 200 + i + 1) (nI (N (i + 1) r + (v - w)))) from hG) hCn (by omega) (by omega)
        refine ⟨M2, lo, hi2, ?_, s2, s3.c (fun _ _ _ _ => rfl) (fun _ _ _ _ => rfl) hA.symm, wn lo hi2 (Nat.le_refl _) ql w1 s4.1 s4.2.1 (by omega), f0.tr s5⟩
        simp (disch := first | assumption | omega) only [f_X1_passRest_112, gt_55, h1, g55_1, gwt, gwl, y1, zs, hlo, nI_add, ti_wi, li_wi, ri_wi, l_of, n_ltT, n_ltF, n_leT, n_leF, n_eqT, n_eqF, n_neM, n_Mne, n_M0, n_Mlt, n_0leM, nI_clamp, x_in_nI, n_1, nI_add, x_at, x_bd_s, x_bv_s, ↓x_lt, decide_true, decide_false, Bool.and_self, Bool.true_and, Bool.and_true, if_true, if_false, ite_true, ite_false, ↓reduceIte, not_true_eq_false, not_false_eq_true, Nat.reduceAdd, Nat.reduceMul, Nat.reduceEqDiff, eq_self, true_and, and_true, false_and, and_false, Option.some.injEq, Prod.mk.injEq, l_0, l_1, l_2, l_3, l_4, l_5, l_6, l_7, l_8, l_9, l_10, l_100, l_160, ↓m_1, ↓m_2, ↓m_3, ↓m_4, ↓m_5, ↓m_6, ↓m_7]
        exact s1
      · have hCl := hCn.s (k := 7) (v := nI (i + 1)) (A' := A) (lo' := i + 1) (hi' := hi) (Or.inr (Or.inl rfl)) (by rw [if_neg (by omega)]) (by rw [if_pos rfl]) (by rw [if_neg (by omega)])
        obtain ⟨M2, hi2, s1, s2, s3, s4, s5⟩ := c_hi2 (κ := κ) (v1 := nI (r * 200)) (v2 := v2) (v4 := v4) (i := i) (show Geo L b1 b2 (x_wi (x_wi M (nwc b1) (r * 200 + i + 1) (nI (N (i + 1) r + (v - w)))) 55 7 (nI (i + 1))) from hG) hCl (by omega) (by omega)
        refine ⟨M2, i + 1, hi2, ?_, s2, s3.c (fun _ _ _ _ => rfl) (fun _ _ _ _ => rfl) hA.symm, wn (i + 1) hi2 (by omega) (Nat.le_refl _) (by omega) s4.1 s4.2.1 (by omega), (f0.wi (by omega)).tr s5⟩
        simp (disch := first | assumption | omega) only [f_X1_passRest_112, gt_55, h1, g55_1, gwt, gwl, y1, zs, hlo, nI_add, ti_wi, li_wi, ri_wi, l_of, n_ltT, n_ltF, n_leT, n_leF, n_eqT, n_eqF, n_neM, n_Mne, n_M0, n_Mlt, n_0leM, nI_clamp, x_in_nI, n_1, nI_add, x_at, x_bd_s, x_bv_s, ↓x_lt, decide_true, decide_false, Bool.and_self, Bool.true_and, Bool.and_true, if_true, if_false, ite_true, ite_false, ↓reduceIte, not_true_eq_false, not_false_eq_true, Nat.reduceAdd, Nat.reduceMul, Nat.reduceEqDiff, eq_self, true_and, and_true, false_and, and_false, Option.some.injEq, Prod.mk.injEq, l_0, l_1, l_2, l_3, l_4, l_5, l_6, l_7, l_8, l_9, l_10, l_100, l_160, ↓m_1, ↓m_2, ↓m_3, ↓m_4, ↓m_5, ↓m_6, ↓m_7]
        exact s1
  · have e : i + 1 = n := by omega
    refine ⟨x_wi M 55 6 (nI (A + (v - w))), lo, hi, ?_, hG, (hC.s (k := 6) (v := nI (A + (v - w))) (A' := A + (v - w)) (lo' := lo) (hi' := hi) (Or.inl rfl) (by rw [if_pos rfl]) (by rw [if_neg (by omega)]) (by rw [if_neg (by omega)])).c (fun _ _ _ _ => rfl) (fun x g hx _ => by rw [if_neg (by omega)]; rfl) (by rw [if_pos e]), ⟨w1, w2, fun y g hy hg hz => w3 y g hy hg (by
        intro z
        refine hz ?_
        dsimp only
        rw [z, if_neg (by omega)])⟩, Fr.rf.wi (by omega)⟩
    simp (disch := first | assumption | omega) only [f_X1_passRest_112, f_X1_passRest_204, gt_55, h1, h4, zs, e, nI_add, l_of, n_ltT, n_ltF, n_leT, n_leF, n_eqT, n_eqF, n_neM, n_Mne, n_M0, n_Mlt, n_0leM, nI_clamp, x_in_nI, n_1, nI_add, x_at, x_bd_s, x_bv_s, ↓x_lt, decide_true, decide_false, Bool.and_self, Bool.true_and, Bool.and_true, if_true, if_false, ite_true, ite_false, ↓reduceIte, not_true_eq_false, not_false_eq_true, Nat.reduceAdd, Nat.reduceMul, Nat.reduceEqDiff, eq_self, true_and, and_true, false_and, and_false, Option.some.injEq, Prod.mk.injEq, l_0, l_1, l_2, l_3, l_4, l_5, l_6, l_7, l_8, l_9, l_10, l_100, l_160, ↓m_1, ↓m_2, ↓m_3, ↓m_4, ↓m_5, ↓m_6, ↓m_7]
end
