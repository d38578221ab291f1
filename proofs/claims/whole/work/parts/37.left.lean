/-! where a break leaves a COUNTER -/
def lf (p kd a x h : Nat) : Nat :=
  if kd = 1 then x - x % p else if kd = 2 then x else if kd = 3 then x - x % (a + 2) else if kd = 4 then (if h % (a + 1) = 0 then 0 else x)
  else if kd = 5 then (if a < x % p then x - x % p else x) else if kd = 6 then (if h % (a + 1) = 0 then x / 2 else x) else 0
def of (kd a : Nat) (o : Int32) : Int32 := if kd = 2 then o + nI (a + 1) else if kd = 3 then o + nI 1 else o
theorem lf_le (p kd a x h : Nat) : lf p kd a x h ≤ x := by
  unfold lf
  have h2 : x / 2 ≤ x := Nat.div_le_self _ _
  repeat' split
  all_goals first | exact Nat.sub_le _ _ | exact Nat.le_refl _ | exact Nat.zero_le _ | exact h2
theorem n_half {x : Nat} (h : x < 2147483648) : nI x / nI 2 = nI (x / 2) := pk_div (by omega) (by omega) (by omega)
theorem x_wi_id {M : XM} {a k : Nat} {v : Int32} (h : x_i M a k = v) : x_wi M a k v = M := by
  obtain ⟨t, i, j, r⟩ := M
  subst h
  show (t, _, j, r) = (t, i, j, r)
  congr 2
  funext b q
  show (if b = a ∧ q = k then i a k else i b q) = i b q
  split
  · next e => rw [e.1, e.2]
  · rfl
set_option maxHeartbeats 800000 in
theorem c_left {M : XM} {v0 kd a x h p : Nat} (ht : x_tag M v0 = 12) (e0 : x_i M v0 0 = nI kd) (e1 : x_i M v0 1 = nI a) (hk : kd ≤ 6) (ha : a ≤ 9) (hx : x ≤ 200) (hh : h < 1000000) (hp : 1 ≤ p) (hp2 : p ≤ 200) :
    f_X2_leftAt v0 (nI x) (nI h) (nI p) M = some (nI (lf p kd a x h), M) := by
  have r1 : nI x - nI x / nI p * nI p = nI (x % p) := pk_rem (by omega) hp (by omega)
  have r2 : nI x - nI x / nI (a + 2) * nI (a + 2) = nI (x % (a + 2)) := pk_rem (by omega) (by omega) (by omega)
  have r3 : nI h - nI h / nI (a + 1) * nI (a + 1) = nI (h % (a + 1)) := pk_rem (by omega) (by omega) (by omega)
  have m1 := Nat.mod_le x p
  have m2 := Nat.mod_le x (a + 2)
  have m3 := Nat.mod_le h (a + 1)
  unfold lf
  generalize x % p = q1 at *
  generalize x % (a + 2) = q2 at *
  generalize h % (a + 1) = q3 at *
  by_cases hq : q3 = 0 <;> by_cases hq1 : a < q1 <;>
  (rcases (by omega : kd = 0 ∨ kd = 1 ∨ kd = 2 ∨ kd = 3 ∨ kd = 4 ∨ kd = 5 ∨ kd = 6) with rfl | rfl | rfl | rfl | rfl | rfl | rfl) <;>
  simp (disch := first | assumption | omega) only [f_X2_leftAt_37, f_X2_leftAt, ht, e0, e1, l_of, n_ltT, n_ltF, n_leT, n_leF, n_eqT, n_eqF, n_neM, n_Mne, n_M0, n_Mlt, n_0leM, nI_clamp, x_in_nI, n_1, nI_add, x_at, x_bd_s, x_bv_s, ↓x_lt, decide_true, decide_false, Bool.and_self, Bool.true_and, Bool.and_true, if_true, if_false, ite_true, ite_false, ↓reduceIte, not_true_eq_false, not_false_eq_true, Nat.reduceAdd, Nat.reduceMul, Nat.reduceEqDiff, eq_self, true_and, and_true, false_and, and_false, Option.some.injEq, Prod.mk.injEq, l_0, l_1, l_2, l_3, l_4, l_5, l_6, l_7, l_8, l_9, l_10, l_100, l_160, ↓m_1, ↓m_2, ↓m_3, ↓m_4, ↓m_5, ↓m_6, ↓m_7, r1, r2, r3, pk_sub, n_half, hq, hq1]
set_option maxHeartbeats 800000 in
theorem m_left {L : Nat} {b1 b2 : Bool} {M : XM} {c kd a x h p : Nat} (hG : Geo L b1 b2 M) (hc : c < 6) (e0 : x_i M 85 c = nI kd) (e1 : x_i M 86 c = nI a) (ep : x_i M 83 2 = nI p) (hk : kd ≤ 6) (ha : a ≤ 9) (hx : x ≤ 200) (hh : h < 1000000) (hp : 1 ≤ p) (hp2 : p ≤ 200) :
    f_X9_left 83 (nI c) (nI x) (nI h) M = some (nI (lf p kd a x h), M) := by
  have r1 : nI x - nI x / nI p * nI p = nI (x % p) := pk_rem (by omega) hp (by omega)
  have r2 : nI x - nI x / nI (a + 2) * nI (a + 2) = nI (x % (a + 2)) := pk_rem (by omega) (by omega) (by omega)
  have r3 : nI h - nI h / nI (a + 1) * nI (a + 1) = nI (h % (a + 1)) := pk_rem (by omega) (by omega) (by omega)
  have m1 := Nat.mod_le x p
  have m2 := Nat.mod_le x (a + 2)
  have m3 := Nat.mod_le h (a + 1)
  unfold lf
  generalize x % p = q1 at *
  generalize x % (a + 2) = q2 at *
  generalize h % (a + 1) = q3 at *
  by_cases hq : q3 = 0 <;> by_cases hq1 : a < q1 <;>
  (rcases (by omega : kd = 0 ∨ kd = 1 ∨ kd = 2 ∨ kd = 3 ∨ kd = 4 ∨ kd = 5 ∨ kd = 6) with rfl | rfl | rfl | rfl | rfl | rfl | rfl) <;>
  simp (disch := first | assumption | omega) only [f_X9_left, gt_83, gr_83_10, gr_83_11, gt_85, gl_85, gt_86, gl_86, ep, e0, e1, l_of, n_ltT, n_ltF, n_leT, n_leF, n_eqT, n_eqF, n_neM, n_Mne, n_M0, n_Mlt, n_0leM, nI_clamp, x_in_nI, n_1, nI_add, x_at, x_bd_s, x_bv_s, ↓x_lt, decide_true, decide_false, Bool.and_self, Bool.true_and, Bool.and_true, if_true, if_false, ite_true, ite_false, ↓reduceIte, not_true_eq_false, not_false_eq_true, Nat.reduceAdd, Nat.reduceMul, Nat.reduceEqDiff, eq_self, true_and, and_true, false_and, and_false, Option.some.injEq, Prod.mk.injEq, l_0, l_1, l_2, l_3, l_4, l_5, l_6, l_7, l_8, l_9, l_10, l_100, l_160, ↓m_1, ↓m_2, ↓m_3, ↓m_4, ↓m_5, ↓m_6, ↓m_7, r1, r2, r3, pk_sub, n_half, hq, hq1]
