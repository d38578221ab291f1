/-! THE START'S MEMORY: the constructors -/
section
variable {M : XM} {t n a k b j : Nat} {v : Int32} {w : Nat}
theorem nn_new : x_n (x_new M t n) = x_n M + 1 := by unfold x_n x_new; rw [List.length_append]; rfl
theorem nn_wi : x_n (x_wi M a k v) = x_n M := rfl
theorem nn_wr : x_n (x_wr M a k w) = x_n M := rfl
theorem tg_new (l : List (Nat × Nat)) (p : Nat × Nat) (a : Nat) : (l ++ [p]).getD a (0, 0) = if a = l.length then p else l.getD a (0, 0) := by
  rw [List.getD_eq_getElem?_getD, List.getD_eq_getElem?_getD]
  by_cases h : a = l.length
  · rw [if_pos h, h, List.getElem?_append_right (Nat.le_refl _), Nat.sub_self]; rfl
  rw [if_neg h]
  rcases Nat.lt_or_ge a l.length with q | q
  · rw [List.getElem?_append_left q]
  · rw [List.getElem?_append_right q, List.getElem?_eq_none (l := l) q, List.getElem?_eq_none (by rw [List.length_singleton]; omega)]
theorem nt_new : x_tag (x_new M t n) a = if a = x_n M then t else x_tag M a := by
  show ((M.1 ++ [(t, n)]).getD a (0, 0)).1 = _
  rw [tg_new]
  unfold x_n x_tag
  split <;> rfl
theorem nl_new : x_len (x_new M t n) a = if a = x_n M then n else x_len M a := by
  show ((M.1 ++ [(t, n)]).getD a (0, 0)).2 = _
  rw [tg_new]
  unfold x_n x_len
  split <;> rfl
theorem nt_wr : x_tag (x_wr M a k w) b = x_tag M b := rfl
theorem nl_wr : x_len (x_wr M a k w) b = x_len M b := rfl
theorem nr_wr : x_r (x_wr M a k w) b j = if b = a ∧ j = k then w else x_r M b j := rfl
theorem nr_new : x_r (x_new M t n) b j = if b = x_n M then 0 else x_r M b j := rfl
def X4 (a : Nat) (M : XM) : XM :=
  x_wr (x_new (x_wr (x_new (x_wr (x_new (x_wr (x_new (x_wr (x_new (x_wr (x_new (x_wi (x_wr (x_new (x_wi (x_wi (x_wi (x_wi (x_wr (x_new M 3 6) a 0 (a + 1)) a 2 (nI 20)) a 3 (nI 5)) a 4 (nI 100)) a 5 (nI 1)) 1 8) a 6 (a + 2)) a 9 (nI 1)) 12 0) (a + 1) 0 (a + 3)) 12 0) (a + 1) 1 (a + 4)) 12 0) (a + 1) 2 (a + 5)) 12 0) (a + 1) 3 (a + 6)) 12 0) (a + 1) 4 (a + 7)) 12 0) (a + 1) 5 (a + 8)
end
theorem X4_n (a : Nat) (M : XM) : x_n (X4 a M) = x_n M + 8 := by unfold X4; simp only [nn_new, nn_wi, nn_wr]
theorem al_s {β : Type} {M : XM} {t n : Nat} {k : Nat → XM → Option β} {r : Option β} (h : k (x_n M) (x_new M t n) = r) : x_al M t n k = r := h
theorem lts_s {β : Type} {M : XM} {k : XM → Option β} {r : Option β} (h : k M = r) : x_lt M k = r := h
theorem if_s {α : Type} {c : Prop} [Decidable c] {a b r : α} (hc : c) (h : a = r) : (if c then a else b) = r := by rw [if_pos hc]; exact h
theorem if_n {α : Type} {c : Prop} [Decidable c] {a b r : α} (hc : ¬ c) (h : b = r) : (if c then a else b) = r := by rw [if_neg hc]; exact h
theorem bv_s {β : Type} {o : Option XM} {M1 : XM} {k : XM → Option β} {r : Option β} (ho : o = some M1) (h : k M1 = r) : x_bv o k = r := by rw [ho]; exact h
theorem x2_s {M : XM} {a : Nat} (h : x_tag M a = 12) : f_X2_init a M = some M := if_pos h
section
variable {M : XM}
theorem x4_21 (hn : x_n M = 22) (ht : x_tag M 21 = 14) : f_X4_init 21 M = some (X4 21 M) := by
  unfold f_X4_init
  repeat (first
    | with_reducible apply al_s
    | with_reducible apply lts_s
    | (with_reducible refine bv_s (x2_s ?_) ?_
       · simp only [nn_new, nn_wi, nn_wr, hn, ht, nt_new, nt_wr, ti_wi, ↓reduceIte, Nat.reduceAdd, Nat.reduceEqDiff])
    | (with_reducible refine if_s ?_ ?_
       · simp (disch := first | assumption | omega) only [nn_new, nn_wi, nn_wr, hn, ht, nt_new, nl_new, nt_wr, nl_wr, ti_wi, li_wi, nr_wr, nr_new, ri_wi, l_of, n_ltT, n_ltF, n_leT, n_leF, n_eqT, n_eqF, n_neM, n_Mne, n_M0, n_Mlt, n_0leM, nI_clamp, x_in_nI, n_1, nI_add, x_at, x_bd_s, x_bv_s, ↓x_lt, decide_true, decide_false, Bool.and_self, Bool.true_and, Bool.and_true, if_true, if_false, ite_true, ite_false, ↓reduceIte, not_true_eq_false, not_false_eq_true, Nat.reduceAdd, Nat.reduceMul, Nat.reduceEqDiff, eq_self, true_and, and_true, false_and, and_false, Option.some.injEq, Prod.mk.injEq, l_0, l_1, l_2, l_3, l_4, l_5, l_6, l_7, l_8, l_9, l_10, l_100, l_160, ↓m_1, ↓m_2, ↓m_3, ↓m_4, ↓m_5, ↓m_6, ↓m_7])
    | (with_reducible refine if_n ?_ ?_
       · simp (disch := first | assumption | omega) only [nn_new, nn_wi, nn_wr, hn, ht, nt_new, nl_new, nt_wr, nl_wr, ti_wi, li_wi, nr_wr, nr_new, ri_wi, l_of, n_ltT, n_ltF, n_leT, n_leF, n_eqT, n_eqF, n_neM, n_Mne, n_M0, n_Mlt, n_0leM, nI_clamp, x_in_nI, n_1, nI_add, x_at, x_bd_s, x_bv_s, ↓x_lt, decide_true, decide_false, Bool.and_self, Bool.true_and, Bool.and_true, if_true, if_false, ite_true, ite_false, ↓reduceIte, not_true_eq_false, not_false_eq_true, Nat.reduceAdd, Nat.reduceMul, Nat.reduceEqDiff, eq_self, true_and, and_true, false_and, and_false, Option.some.injEq, Prod.mk.injEq, l_0, l_1, l_2, l_3, l_4, l_5, l_6, l_7, l_8, l_9, l_10, l_100, l_160, ↓m_1, ↓m_2, ↓m_3, ↓m_4, ↓m_5, ↓m_6, ↓m_7]))
  simp (disch := first | assumption | omega) only [X4, nn_new, nn_wi, nn_wr, hn, nr_wr, nr_new, ri_wi, l_20, l_100, l_of, n_ltT, n_ltF, n_leT, n_leF, n_eqT, n_eqF, n_neM, n_Mne, n_M0, n_Mlt, n_0leM, nI_clamp, x_in_nI, n_1, nI_add, x_at, x_bd_s, x_bv_s, ↓x_lt, decide_true, decide_false, Bool.and_self, Bool.true_and, Bool.and_true, if_true, if_false, ite_true, ite_false, ↓reduceIte, not_true_eq_false, not_false_eq_true, Nat.reduceAdd, Nat.reduceMul, Nat.reduceEqDiff, eq_self, true_and, and_true, false_and, and_false, Option.some.injEq, Prod.mk.injEq, l_0, l_1, l_2, l_3, l_4, l_5, l_6, l_7, l_8, l_9, l_10, l_100, l_160, ↓m_1, ↓m_2, ↓m_3, ↓m_4, ↓m_5, ↓m_6, ↓m_7]
theorem x4_30 (hn : x_n M = 31) (ht : x_tag M 30 = 14) : f_X4_init 30 M = some (X4 30 M) := by
  unfold f_X4_init
  repeat (first
    | with_reducible apply al_s
    | with_reducible apply lts_s
    | (with_reducible refine bv_s (x2_s ?_) ?_
       · simp only [nn_new, nn_wi, nn_wr, hn, ht, nt_new, nt_wr, ti_wi, ↓reduceIte, Nat.reduceAdd, Nat.reduceEqDiff])
    | (with_reducible refine if_s ?_ ?_
       · simp (disch := first | assumption | omega) only [nn_new, nn_wi, nn_wr, hn, ht, nt_new, nl_new, nt_wr, nl_wr, ti_wi, li_wi, nr_wr, nr_new, ri_wi, l_of, n_ltT, n_ltF, n_leT, n_leF, n_eqT, n_eqF, n_neM, n_Mne, n_M0, n_Mlt, n_0leM, nI_clamp, x_in_nI, n_1, nI_add, x_at, x_bd_s, x_bv_s, ↓x_lt, decide_true, decide_false, Bool.and_self, Bool.true_and, Bool.and_true, if_true, if_false, ite_true, ite_false, ↓reduceIte, not_true_eq_false, not_false_eq_true, Nat.reduceAdd, Nat.reduceMul, Nat.reduceEqDiff, eq_self, true_and, and_true, false_and, and_false, Option.some.injEq, Prod.mk.injEq, l_0, l_1, l_2, l_3, l_4, l_5, l_6, l_7, l_8, l_9, l_10, l_100, l_160, ↓m_1, ↓m_2, ↓m_3, ↓m_4, ↓m_5, ↓m_6, ↓m_7])
    | (with_reducible refine if_n ?_ ?_
       · simp (disch := first | assumption | omega) only [nn_new, nn_wi, nn_wr, hn, ht, nt_new, nl_new, nt_wr, nl_wr, ti_wi, li_wi, nr_wr, nr_new, ri_wi, l_of, n_ltT, n_ltF, n_leT, n_leF, n_eqT, n_eqF, n_neM, n_Mne, n_M0, n_Mlt, n_0leM, nI_clamp, x_in_nI, n_1, nI_add, x_at, x_bd_s, x_bv_s, ↓x_lt, decide_true, decide_false, Bool.and_self, Bool.true_and, Bool.and_true, if_true, if_false, ite_true, ite_false, ↓reduceIte, not_true_eq_false, not_false_eq_true, Nat.reduceAdd, Nat.reduceMul, Nat.reduceEqDiff, eq_self, true_and, and_true, false_and, and_false, Option.some.injEq, Prod.mk.injEq, l_0, l_1, l_2, l_3, l_4, l_5, l_6, l_7, l_8, l_9, l_10, l_100, l_160, ↓m_1, ↓m_2, ↓m_3, ↓m_4, ↓m_5, ↓m_6, ↓m_7]))
  simp (disch := first | assumption | omega) only [X4, nn_new, nn_wi, nn_wr, hn, nr_wr, nr_new, ri_wi, l_20, l_100, l_of, n_ltT, n_ltF, n_leT, n_leF, n_eqT, n_eqF, n_neM, n_Mne, n_M0, n_Mlt, n_0leM, nI_clamp, x_in_nI, n_1, nI_add, x_at, x_bd_s, x_bv_s, ↓x_lt, decide_true, decide_false, Bool.and_self, Bool.true_and, Bool.and_true, if_true, if_false, ite_true, ite_false, ↓reduceIte, not_true_eq_false, not_false_eq_true, Nat.reduceAdd, Nat.reduceMul, Nat.reduceEqDiff, eq_self, true_and, and_true, false_and, and_false, Option.some.injEq, Prod.mk.injEq, l_0, l_1, l_2, l_3, l_4, l_5, l_6, l_7, l_8, l_9, l_10, l_100, l_160, ↓m_1, ↓m_2, ↓m_3, ↓m_4, ↓m_5, ↓m_6, ↓m_7]
theorem x4_40 (hn : x_n M = 41) (ht : x_tag M 40 = 14) : f_X4_init 40 M = some (X4 40 M) := by
  unfold f_X4_init
  repeat (first
    | with_reducible apply al_s
    | with_reducible apply lts_s
    | (with_reducible refine bv_s (x2_s ?_) ?_
       · simp only [nn_new, nn_wi, nn_wr, hn, ht, nt_new, nt_wr, ti_wi, ↓reduceIte, Nat.reduceAdd, Nat.reduceEqDiff])
    | (with_reducible refine if_s ?_ ?_
       · simp (disch := first | assumption | omega) only [nn_new, nn_wi, nn_wr, hn, ht, nt_new, nl_new, nt_wr, nl_wr, ti_wi, li_wi, nr_wr, nr_new, ri_wi, l_of, n_ltT, n_ltF, n_leT, n_leF, n_eqT, n_eqF, n_neM, n_Mne, n_M0, n_Mlt, n_0leM, nI_clamp, x_in_nI, n_1, nI_add, x_at, x_bd_s, x_bv_s, ↓x_lt, decide_true, decide_false, Bool.and_self, Bool.true_and, Bool.and_true, if_true, if_false, ite_true, ite_false, ↓reduceIte, not_true_eq_false, not_false_eq_true, Nat.reduceAdd, Nat.reduceMul, Nat.reduceEqDiff, eq_self, true_and, and_true, false_and, and_false, Option.some.injEq, Prod.mk.injEq, l_0, l_1, l_2, l_3, l_4, l_5, l_6, l_7, l_8, l_9, l_10, l_100, l_160, ↓m_1, ↓m_2, ↓m_3, ↓m_4, ↓m_5, ↓m_6, ↓m_7])
    | (with_reducible refine if_n ?_ ?_
       · simp (disch := first | assumption | omega) only [nn_new, nn_wi, nn_wr, hn, ht, nt_new, nl_new, nt_wr, nl_wr, ti_wi, li_wi, nr_wr, nr_new, ri_wi, l_of, n_ltT, n_ltF, n_leT, n_leF, n_eqT, n_eqF, n_neM, n_Mne, n_M0, n_Mlt, n_0leM, nI_clamp, x_in_nI, n_1, nI_add, x_at, x_bd_s, x_bv_s, ↓x_lt, decide_true, decide_false, Bool.and_self, Bool.true_and, Bool.and_true, if_true, if_false, ite_true, ite_false, ↓reduceIte, not_true_eq_false, not_false_eq_true, Nat.reduceAdd, Nat.reduceMul, Nat.reduceEqDiff, eq_self, true_and, and_true, false_and, and_false, Option.some.injEq, Prod.mk.injEq, l_0, l_1, l_2, l_3, l_4, l_5, l_6, l_7, l_8, l_9, l_10, l_100, l_160, ↓m_1, ↓m_2, ↓m_3, ↓m_4, ↓m_5, ↓m_6, ↓m_7]))
  simp (disch := first | assumption | omega) only [X4, nn_new, nn_wi, nn_wr, hn, nr_wr, nr_new, ri_wi, l_20, l_100, l_of, n_ltT, n_ltF, n_leT, n_leF, n_eqT, n_eqF, n_neM, n_Mne, n_M0, n_Mlt, n_0leM, nI_clamp, x_in_nI, n_1, nI_add, x_at, x_bd_s, x_bv_s, ↓x_lt, decide_true, decide_false, Bool.and_self, Bool.true_and, Bool.and_true, if_true, if_false, ite_true, ite_false, ↓reduceIte, not_true_eq_false, not_false_eq_true, Nat.reduceAdd, Nat.reduceMul, Nat.reduceEqDiff, eq_self, true_and, and_true, false_and, and_false, Option.some.injEq, Prod.mk.injEq, l_0, l_1, l_2, l_3, l_4, l_5, l_6, l_7, l_8, l_9, l_10, l_100, l_160, ↓m_1, ↓m_2, ↓m_3, ↓m_4, ↓m_5, ↓m_6, ↓m_7]
end
