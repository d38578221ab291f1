/-! a room read out of a row: the words -/
def nm : Nat → List Nat
  | 0 => [116, 111]
  | 1 => [97, 112, 97, 114, 116]
  | 2 => [111, 100, 100, 115]
  | 3 => [99, 111, 115, 116]
  | 4 => [116, 97, 108, 108, 121]
  | 5 => [99, 111, 117, 110, 116, 101, 114]
  | _ => [97, 115, 107]
def nc (k j : Nat) : Nat := (nm k).getD j 0
def nl (k : Nat) : Nat := (nm k).length
def al (T : Nat → Int32) (n k p : Nat) : Nat → Nat → Nat
  | 0, j => j
  | d + 1, j => if p + j < n ∧ T (p + j) = nI (nc k j) then al T n k p d (j + 1) else j
def A (T : Nat → Int32) (n p k : Nat) : Nat := al T n k p (nl k) 0
def wz (T : Nat → Int32) (n p : Nat) : Nat → Nat → Nat → Nat × Nat
  | 0, _, m => (7, m)
  | d + 1, k, m => if A T n p k = nl k then (k, m) else wz T n p d (k + 1) (if m < A T n p k then A T n p k else m)
/-- the strings of the class -/
def CS (M : XM) : Prop := ∀ k j, k < 7 → j < nl k → x_i M (12 + k) j = nI (nc k j)
theorem CS.ag {M M' : XM} (h : CS M) (g : Agr 0 20 M M') : CS M' := fun k j hk hj => (g.i _ (by omega) (by omega)).trans (h k j hk hj)
/-- the reader -/
def RS (T : Nat → Int32) (n p : Nat) (ft : Int32) (M : XM) : Prop := x_i M 39 0 = ft ∧ x_i M 39 3 = nI n ∧ x_i M 39 4 = nI p ∧ ∀ i, i < n → x_i M 49 i = T i
theorem nl_b (k : Nat) : nl k ≤ 7 ∧ 2 ≤ nl k := by
  unfold nl nm
  split <;> simp only [List.length_cons, List.length_nil] <;> omega
theorem nc_b {k j : Nat} (hj : j < nl k) : 97 ≤ nc k j ∧ nc k j < 128 := by
  unfold nl nm at hj
  unfold nc nm
  split at hj <;> simp only [List.length_cons, List.length_nil] at hj
  all_goals
    rcases (by omega : j = 0 ∨ j = 1 ∨ j = 2 ∨ j = 3 ∨ j = 4 ∨ j = 5 ∨ j = 6) with h | h | h | h | h | h | h <;> subst h <;> first | omega | decide
theorem by_c {c : Nat} (h : c < 128) : (((nI c &&& 255).toUInt32 % 65536).toInt32) = nI c ∧ vp_nar .char (nI c) = nI c := by
  have : ∀ c : Fin 128, (((nI c.1 &&& 255).toUInt32 % 65536).toInt32) = nI c.1 ∧ vp_nar .char (nI c.1) = nI c.1 := by decide
  exact this ⟨c, h⟩
section
variable {L : Nat} {b1 b2 : Bool} {M : XM} {T : Nat → Int32} {n : Nat}
theorem gt_s (hG : Geo L b1 b2 M) {k : Nat} (hk : k < 7) : x_tag M (5 + k) = 7 ∧ x_tag M (5 + k + 7) = 6 ∧ x_len M (5 + k + 7) = nl k := by
  rcases (by omega : k = 0 ∨ k = 1 ∨ k = 2 ∨ k = 3 ∨ k = 4 ∨ k = 5 ∨ k = 6) with h | h | h | h | h | h | h <;> subst h
  · exact ⟨gt_5 hG, gt_12 hG, gl_12 hG⟩
  · exact ⟨gt_6 hG, gt_13 hG, gl_13 hG⟩
  · exact ⟨gt_7 hG, gt_14 hG, gl_14 hG⟩
  · exact ⟨gt_8 hG, gt_15 hG, gl_15 hG⟩
  · exact ⟨gt_9 hG, gt_16 hG, gl_16 hG⟩
  · exact ⟨gt_10 hG, gt_17 hG, gl_17 hG⟩
  · exact ⟨gt_11 hG, gt_18 hG, gl_18 hG⟩
theorem sh_0 (x : Nat) : nI x >>> (0 &&& 31) = nI x := by
  have h : ((0 : Int32) &&& 31) = 0 := by decide
  rw [h]
  apply Int32.toBitVec_inj.mp
  simp
theorem c_slen (hG : Geo L b1 b2 M) {k : Nat} (hk : k < 7) : f_J0_length_8abf5 (5 + k) M = some (nI (nl k), M) := by
  obtain ⟨h1, h2, h3⟩ := gt_s hG hk
  have e1 : 5 + k < 20 := by omega
  have e2 : 5 + k + 7 < 20 := by omega
  have hs := sh_0 (nl k)
  rw [f_J0_length_8abf5, if_pos h1, if_pos e1, if_pos h2, if_pos e2, f_J0_coder_7d493, if_pos h1, if_pos e1, h3]
  exact congrArg (fun v => some (v, M)) hs
theorem c_sat (hG : Geo L b1 b2 M) (hS : CS M) {k j : Nat} (hk : k < 7) (hj : j < nl k) : f_J0_charAt_5068e (5 + k) (nI j) M = some (nI (nc k j), M) := by
  obtain ⟨h1, h2, h3⟩ := gt_s hG hk
  have e1 : 5 + k < 20 := by omega
  have e2 : 5 + k + 7 < 20 := by omega
  have hb := nl_b k
  have hc := nc_b hj
  have hq := hS k j hk hj
  rw [show 12 + k = 5 + k + 7 by omega] at hq
  obtain ⟨z1, z2⟩ := by_c hc.2
  have e3 : nI j < nI (nl k) := by rw [Int32.lt_iff_toInt_lt, nI_toInt (by omega), nI_toInt (by omega)]; omega
  have ha : x_at M (5 + k + 7) 6 (nI j) = true := by
    simp (disch := first | assumption | omega) only [x_at, x_in_nI, h2, h3, l_of, n_ltT, n_ltF, n_leT, n_leF, n_eqT, n_eqF, n_neM, n_Mne, n_M0, n_Mlt, n_0leM, nI_clamp, x_in_nI, n_1, nI_add, x_at, x_bd_s, x_bv_s, ↓x_lt, decide_true, decide_false, Bool.and_self, Bool.true_and, Bool.and_true, if_true, if_false, ite_true, ite_false, ↓reduceIte, not_true_eq_false, not_false_eq_true, Nat.reduceAdd, Nat.reduceMul, Nat.reduceEqDiff, eq_self, true_and, and_true, false_and, and_false, Option.some.injEq, Prod.mk.injEq, l_0, l_1, l_2, l_3, l_4, l_5, l_6, l_7, l_8, l_9, l_10, l_100, l_160, ↓m_1, ↓m_2, ↓m_3, ↓m_4, ↓m_5, ↓m_6, ↓m_7]
  have hf : f_J0_checkIndex_df160 (nI j) (Int32.ofNat (x_len M (5 + k + 7))) M = some M := by
    simp (disch := first | assumption | omega) only [f_J0_checkIndex_df160, f_J3_checkIndex_8e157, h3, l_of, n_ltT, n_ltF, n_leT, n_leF, n_eqT, n_eqF, n_neM, n_Mne, n_M0, n_Mlt, n_0leM, nI_clamp, x_in_nI, n_1, nI_add, x_at, x_bd_s, x_bv_s, ↓x_lt, decide_true, decide_false, Bool.and_self, Bool.true_and, Bool.and_true, if_true, if_false, ite_true, ite_false, ↓reduceIte, not_true_eq_false, not_false_eq_true, Nat.reduceAdd, Nat.reduceMul, Nat.reduceEqDiff, eq_self, true_and, and_true, false_and, and_false, Option.some.injEq, Prod.mk.injEq, l_0, l_1, l_2, l_3, l_4, l_5, l_6, l_7, l_8, l_9, l_10, l_100, l_160, ↓m_1, ↓m_2, ↓m_3, ↓m_4, ↓m_5, ↓m_6, ↓m_7]
  have hN : (nI j).toNatClampNeg = j := nI_clamp (by omega)
  rw [f_J0_charAt_5068e, if_pos h1, if_pos e1, f_J0_isLatin1_aae02, if_pos h1, if_pos e1]
  show f_J0_charAt_5068e_c1 (5 + k) (nI j) (nI 1) M = _
  rw [f_J0_charAt_5068e_c1, if_neg (by decide), if_pos h1, if_pos e1, f_J1_charAt_3b067, if_pos h2, if_pos e2, hf]
  show x_bd (f_J1_charAt_3b067_c3 (5 + k + 7) (nI j) M) _ = _
  rw [f_J1_charAt_3b067_c3, if_pos ha, if_pos e2, hN, hq, z1, if_pos z2]
  show (if vp_nar .char (nI (nc k j)) = nI (nc k j) then some (nI (nc k j), M) else none) = _
  rw [if_pos z2]
end
