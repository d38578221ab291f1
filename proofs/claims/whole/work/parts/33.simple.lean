/-! numbers: what is decided by its Nat -/
def nM (k : Nat) : Int32 := -(nI k)
theorem m_1 : (-1 : Int32) = nM 1 := by decide
theorem m_2 : (-2 : Int32) = nM 2 := by decide
theorem m_3 : (-3 : Int32) = nM 3 := by decide
theorem m_4 : (-4 : Int32) = nM 4 := by decide
theorem m_5 : (-5 : Int32) = nM 5 := by decide
theorem m_6 : (-6 : Int32) = nM 6 := by decide
theorem m_7 : (-7 : Int32) = nM 7 := by decide
theorem l_0 : (0 : Int32) = nI 0 := rfl
theorem l_1 : (1 : Int32) = nI 1 := rfl
theorem l_2 : (2 : Int32) = nI 2 := rfl
theorem l_3 : (3 : Int32) = nI 3 := rfl
theorem l_4 : (4 : Int32) = nI 4 := rfl
theorem l_5 : (5 : Int32) = nI 5 := rfl
theorem l_6 : (6 : Int32) = nI 6 := rfl
theorem l_7 : (7 : Int32) = nI 7 := rfl
theorem l_8 : (8 : Int32) = nI 8 := rfl
theorem l_9 : (9 : Int32) = nI 9 := rfl
theorem l_10 : (10 : Int32) = nI 10 := rfl
theorem l_100 : (100 : Int32) = nI 100 := rfl
theorem l_160 : (160 : Int32) = nI 160 := rfl
theorem n_ltT {a b : Nat} (h : a < b) (hb : b < 2147483648) : (nI a < nI b) = True := eq_true ((nI_ltI (by omega) (by omega)).mpr h)
theorem n_ltF {a b : Nat} (h : b ≤ a) (ha : a < 2147483648) : (nI a < nI b) = False := eq_false (fun q => by have := (nI_ltI (by omega) (by omega)).mp q; omega)
theorem n_leT {a b : Nat} (h : a ≤ b) (hb : b < 2147483648) : (nI a ≤ nI b) = True := eq_true ((nI_leI (by omega) (by omega)).mpr h)
theorem n_leF {a b : Nat} (h : b < a) (ha : a < 2147483648) : (nI a ≤ nI b) = False := eq_false (fun q => by have := (nI_leI (by omega) (by omega)).mp q; omega)
theorem n_eqT {a b : Nat} (h : a = b) : (nI a = nI b) = True := eq_true (by rw [h])
theorem n_eqF {a b : Nat} (h : a ≠ b) (ha : a < 2147483648) (hb : b < 2147483648) : (nI a = nI b) = False := eq_false (fun q => h ((nI_eq (by omega) (by omega)).mp q))
theorem nM_toInt {k : Nat} (h : k < 2147483648) : (nM k).toInt = -(k : Int) := by
  unfold nM
  rw [Int32.toInt_neg, nI_toInt (by omega)]
  rw [Int.bmod_eq_of_le] <;> omega
theorem n_neM {a k : Nat} (ha : a < 2147483648) (h0 : 0 < k) (hk : k < 2147483648) : (nI a = nM k) = False := eq_false (fun q => by
  have := congrArg Int32.toInt q
  rw [nI_toInt (by omega), nM_toInt (by omega)] at this
  omega)
theorem n_Mne {a k : Nat} (ha : a < 2147483648) (h0 : 0 < k) (hk : k < 2147483648) : (nM k = nI a) = False := eq_false (fun q => by
  have := congrArg Int32.toInt q
  rw [nI_toInt (by omega), nM_toInt (by omega)] at this
  omega)
theorem n_M0 {k : Nat} (h0 : 0 < k) (hk : k < 2147483648) : (nM k < nI 0) = True := eq_true (by
  rw [Int32.lt_iff_toInt_lt, nI_toInt (by omega), nM_toInt (by omega)]
  omega)
theorem n_Mlt {a k : Nat} (h0 : 0 < k) (hk : k < 2147483648) (ha : a < 2147483648) : (nM k ≤ nI a) = True := eq_true (by
  rw [Int32.le_iff_toInt_le, nI_toInt (by omega), nM_toInt (by omega)]
  omega)
theorem n_0leM {a k : Nat} (h0 : 0 < k) (hk : k < 2147483648) (ha : a < 2147483648) : (nI a ≤ nM k) = False := eq_false (fun q => by
  rw [Int32.le_iff_toInt_le, nI_toInt (by omega), nM_toInt (by omega)] at q
  omega)
theorem n_1 (a : Nat) : nI a + nI 1 = nI (a + 1) := nI_add a 1
theorem i_cs (v : Int32) : v < nI 0 ∨ ∃ j, j < 2147483648 ∧ v = nI j := by
  by_cases h : v < 0
  · exact Or.inl h
  · exact Or.inr (nI_of h)
theorem l_of (n : Nat) : Int32.ofNat n = nI n := rfl
theorem n_sub10 {k : Nat} (hk : k < 1000) : nM k - nI 10 = nM (k + 10) := by
  apply Int32.toInt_inj.mp
  rw [Int32.toInt_sub, nM_toInt (by omega), nM_toInt (by omega), nI_toInt (by omega)]
  rw [Int.bmod_eq_of_le] <;> omega
theorem n_negM (k : Nat) : -(nM k) = nI k := by unfold nM; exact Int32.neg_neg
def b_no (M : XM) (k : Nat) : XM := x_wi M 51 k (x_i M 51 k + nI 1)
def a_no (M : XM) (k : Nat) : XM := x_wi M 84 k (x_i M 84 k + nI 1)
section
variable {L : Nat} {b1 b2 : Bool} {M : XM} {σ : XS}
theorem c_refM {k : Nat} (hG : Geo L b1 b2 M) (h1 : 1 ≤ k) (h7 : k ≤ 7) : f_X8_refuse 20 (nM k) M = some (nM k, b_no M k) := by
  simp (disch := first | assumption | omega) only [f_X8_refuse, l_of, n_ltT, n_ltF, n_leT, n_leF, n_eqT, n_eqF, n_neM, n_Mne, n_M0, n_Mlt, n_0leM, nI_clamp, x_in_nI, n_1, nI_add, x_at, x_bd_s, x_bv_s, ↓x_lt, decide_true, decide_false, Bool.and_self, Bool.true_and, Bool.and_true, if_true, if_false, ite_true, ite_false, ↓reduceIte, not_true_eq_false, not_false_eq_true, Nat.reduceAdd, Nat.reduceMul, Nat.reduceEqDiff, eq_self, true_and, and_true, false_and, and_false, Option.some.injEq, Prod.mk.injEq, l_0, l_1, l_2, l_3, l_4, l_5, l_6, l_7, l_8, l_9, l_10, l_100, l_160, ↓m_1, ↓m_2, ↓m_3, ↓m_4, ↓m_5, ↓m_6, ↓m_7, gt_1, gl_1, gt_2, gl_2, gt_3, gl_3, gt_4, gl_4, gt_5, gt_6, gt_7, gt_8, gt_9, gt_10, gt_11, gt_12, gl_12, gt_13, gl_13, gt_14, gl_14, gt_15, gl_15, gt_16, gl_16, gt_17, gl_17, gt_18, gl_18, gt_19, gt_20, gt_21, gt_22, gl_22, gt_23, gl_23, gt_24, gt_25, gt_26, gt_27, gt_28, gt_29, gt_30, gt_31, gl_31, gt_32, gl_32, gt_33, gt_34, gt_35, gt_36, gt_37, gt_38, gt_39, gt_40, gt_41, gl_41, gt_42, gl_42, gt_43, gt_44, gt_45, gt_46, gt_47, gt_48, gt_49, gl_49, gt_50, gl_50, gt_51, gl_51, gt_52, gt_53, gt_54, gl_54, gt_55, gt_56, gl_56, gt_57, gl_57, gt_58, gl_58, gt_59, gt_60, gl_60, gt_61, gl_61, gt_62, gt_63, gl_63, gt_64, gl_64, gt_65, gt_66, gl_66, gt_67, gt_68, gl_68, gt_69, gt_70, gl_70, gt_71, gt_72, gl_72, gt_73, gt_74, gl_74, gt_75, gt_76, gl_76, gt_77, gt_78, gl_78, gt_79, gt_80, gl_80, gt_81, gt_82, gl_82, gt_83, gt_84, gl_84, gt_85, gl_85, gt_86, gl_86, gt_87, gl_87, gt_88, gl_88, gt_89, gl_89, gt_90, gl_90, gt_91, gl_91, gt_92, gl_92, gt_93, gl_93, gt_94, gl_94, gt_95, gl_95, gt_96, gl_96, gt_97, gl_97, gt_98, gl_98, gt_99, gl_99, gt_100, gl_100, gt_101, gl_101, gt_102, gl_102, gt_103, gl_103, gt_104, gl_104, gr_20_0, gr_20_1, gr_20_3, gr_20_5, gr_20_6, gr_20_7, gr_20_8, gr_20_9, gr_20_10, gr_20_11, gr_20_12, gr_20_13, gr_21_0, gr_21_6, gr_22_0, gr_22_1, gr_22_2, gr_22_3, gr_22_4, gr_22_5, gr_30_0, gr_30_6, gr_31_0, gr_31_1, gr_31_2, gr_31_3, gr_31_4, gr_31_5, gr_39_1, gr_39_2, gr_40_0, gr_40_6, gr_41_0, gr_41_1, gr_41_2, gr_41_3, gr_41_4, gr_41_5, gr_50_0, gr_50_1, gr_50_2, gr_50_3, gr_50_4, gr_50_5, gr_50_6, gr_50_7, gr_52_0, gr_52_1, gr_55_2, gr_65_1, gr_67_3, gr_69_3, gr_71_3, gr_73_3, gr_75_3, gr_77_3, gr_79_3, gr_81_3, gr_83_9, gr_83_10, gr_83_11, gr_83_12, gr_83_13, gr_83_14, gr_83_15, gr_83_16, gr_83_17, gr_83_18, gr_83_19, gr_83_20, gr_83_21, gr_83_22, gr_83_23, gr_83_29, gr_83_30, gr_83_35, gr_83_36, gr_83_38, gr_83_39, gr_55_0, gr_55_1, gr_59_0, gr_59_1, gc_22, gct_24, gc_31, gct_33, gc_41, gct_43, gs_50, gst_67, gsr_67, gst_68, gsl_68, n_negM]
  rfl
theorem m_noM {k : Nat} (hG : Geo L b1 b2 M) (h7 : k < 8) : f_X9_no 83 (nM k) M = some (nM k, a_no M k) := by
  simp (disch := first | assumption | omega) only [f_X9_no, l_of, n_ltT, n_ltF, n_leT, n_leF, n_eqT, n_eqF, n_neM, n_Mne, n_M0, n_Mlt, n_0leM, nI_clamp, x_in_nI, n_1, nI_add, x_at, x_bd_s, x_bv_s, ↓x_lt, decide_true, decide_false, Bool.and_self, Bool.true_and, Bool.and_true, if_true, if_false, ite_true, ite_false, ↓reduceIte, not_true_eq_false, not_false_eq_true, Nat.reduceAdd, Nat.reduceMul, Nat.reduceEqDiff, eq_self, true_and, and_true, false_and, and_false, Option.some.injEq, Prod.mk.injEq, l_0, l_1, l_2, l_3, l_4, l_5, l_6, l_7, l_8, l_9, l_10, l_100, l_160, ↓m_1, ↓m_2, ↓m_3, ↓m_4, ↓m_5, ↓m_6, ↓m_7, gt_1, gl_1, gt_2, gl_2, gt_3, gl_3, gt_4, gl_4, gt_5, gt_6, gt_7, gt_8, gt_9, gt_10, gt_11, gt_12, gl_12, gt_13, gl_13, gt_14, gl_14, gt_15, gl_15, gt_16, gl_16, gt_17, gl_17, gt_18, gl_18, gt_19, gt_20, gt_21, gt_22, gl_22, gt_23, gl_23, gt_24, gt_25, gt_26, gt_27, gt_28, gt_29, gt_30, gt_31, gl_31, gt_32, gl_32, gt_33, gt_34, gt_35, gt_36, gt_37, gt_38, gt_39, gt_40, gt_41, gl_41, gt_42, gl_42, gt_43, gt_44, gt_45, gt_46, gt_47, gt_48, gt_49, gl_49, gt_50, gl_50, gt_51, gl_51, gt_52, gt_53, gt_54, gl_54, gt_55, gt_56, gl_56, gt_57, gl_57, gt_58, gl_58, gt_59, gt_60, gl_60, gt_61, gl_61, gt_62, gt_63, gl_63, gt_64, gl_64, gt_65, gt_66, gl_66, gt_67, gt_68, gl_68, gt_69, gt_70, gl_70, gt_71, gt_72, gl_72, gt_73, gt_74, gl_74, gt_75, gt_76, gl_76, gt_77, gt_78, gl_78, gt_79, gt_80, gl_80, gt_81, gt_82, gl_82, gt_83, gt_84, gl_84, gt_85, gl_85, gt_86, gl_86, gt_87, gl_87, gt_88, gl_88, gt_89, gl_89, gt_90, gl_90, gt_91, gl_91, gt_92, gl_92, gt_93, gl_93, gt_94, gl_94, gt_95, gl_95, gt_96, gl_96, gt_97, gl_97, gt_98, gl_98, gt_99, gl_99, gt_100, gl_100, gt_101, gl_101, gt_102, gl_102, gt_103, gl_103, gt_104, gl_104, gr_20_0, gr_20_1, gr_20_3, gr_20_5, gr_20_6, gr_20_7, gr_20_8, gr_20_9, gr_20_10, gr_20_11, gr_20_12, gr_20_13, gr_21_0, gr_21_6, gr_22_0, gr_22_1, gr_22_2, gr_22_3, gr_22_4, gr_22_5, gr_30_0, gr_30_6, gr_31_0, gr_31_1, gr_31_2, gr_31_3, gr_31_4, gr_31_5, gr_39_1, gr_39_2, gr_40_0, gr_40_6, gr_41_0, gr_41_1, gr_41_2, gr_41_3, gr_41_4, gr_41_5, gr_50_0, gr_50_1, gr_50_2, gr_50_3, gr_50_4, gr_50_5, gr_50_6, gr_50_7, gr_52_0, gr_52_1, gr_55_2, gr_65_1, gr_67_3, gr_69_3, gr_71_3, gr_73_3, gr_75_3, gr_77_3, gr_79_3, gr_81_3, gr_83_9, gr_83_10, gr_83_11, gr_83_12, gr_83_13, gr_83_14, gr_83_15, gr_83_16, gr_83_17, gr_83_18, gr_83_19, gr_83_20, gr_83_21, gr_83_22, gr_83_23, gr_83_29, gr_83_30, gr_83_35, gr_83_36, gr_83_38, gr_83_39, gr_55_0, gr_55_1, gr_59_0, gr_59_1, gc_22, gct_24, gc_31, gct_33, gc_41, gct_43, gs_50, gst_67, gsr_67, gst_68, gsl_68, n_negM]
  rfl
theorem m_noTen {k : Nat} (hG : Geo L b1 b2 M) (h7 : k < 8) : f_X9_noTen 83 (nM k) M = some (nM (k + 10), a_no M k) := by
  simp (disch := first | assumption | omega) only [f_X9_noTen, l_of, n_ltT, n_ltF, n_leT, n_leF, n_eqT, n_eqF, n_neM, n_Mne, n_M0, n_Mlt, n_0leM, nI_clamp, x_in_nI, n_1, nI_add, x_at, x_bd_s, x_bv_s, ↓x_lt, decide_true, decide_false, Bool.and_self, Bool.true_and, Bool.and_true, if_true, if_false, ite_true, ite_false, ↓reduceIte, not_true_eq_false, not_false_eq_true, Nat.reduceAdd, Nat.reduceMul, Nat.reduceEqDiff, eq_self, true_and, and_true, false_and, and_false, Option.some.injEq, Prod.mk.injEq, l_0, l_1, l_2, l_3, l_4, l_5, l_6, l_7, l_8, l_9, l_10, l_100, l_160, ↓m_1, ↓m_2, ↓m_3, ↓m_4, ↓m_5, ↓m_6, ↓m_7, gt_1, gl_1, gt_2, gl_2, gt_3, gl_3, gt_4, gl_4, gt_5, gt_6, gt_7, gt_8, gt_9, gt_10, gt_11, gt_12, gl_12, gt_13, gl_13, gt_14, gl_14, gt_15, gl_15, gt_16, gl_16, gt_17, gl_17, gt_18, gl_18, gt_19, gt_20, gt_21, gt_22, gl_22, gt_23, gl_23, gt_24, gt_25, gt_26, gt_27, gt_28, gt_29, gt_30, gt_31, gl_31, gt_32, gl_32, gt_33, gt_34, gt_35, gt_36, gt_37, gt_38, gt_39, gt_40, gt_41, gl_41, gt_42, gl_42, gt_43, gt_44, gt_45, gt_46, gt_47, gt_48, gt_49, gl_49, gt_50, gl_50, gt_51, gl_51, gt_52, gt_53, gt_54, gl_54, gt_55, gt_56, gl_56, gt_57, gl_57, gt_58, gl_58, gt_59, gt_60, gl_60, gt_61, gl_61, gt_62, gt_63, gl_63, gt_64, gl_64, gt_65, gt_66, gl_66, gt_67, gt_68, gl_68, gt_69, gt_70, gl_70, gt_71, gt_72, gl_72, gt_73, gt_74, gl_74, gt_75, gt_76, gl_76, gt_77, gt_78, gl_78, gt_79, gt_80, gl_80, gt_81, gt_82, gl_82, gt_83, gt_84, gl_84, gt_85, gl_85, gt_86, gl_86, gt_87, gl_87, gt_88, gl_88, gt_89, gl_89, gt_90, gl_90, gt_91, gl_91, gt_92, gl_92, gt_93, gl_93, gt_94, gl_94, gt_95, gl_95, gt_96, gl_96, gt_97, gl_97, gt_98, gl_98, gt_99, gl_99, gt_100, gl_100, gt_101, gl_101, gt_102, gl_102, gt_103, gl_103, gt_104, gl_104, gr_20_0, gr_20_1, gr_20_3, gr_20_5, gr_20_6, gr_20_7, gr_20_8, gr_20_9, gr_20_10, gr_20_11, gr_20_12, gr_20_13, gr_21_0, gr_21_6, gr_22_0, gr_22_1, gr_22_2, gr_22_3, gr_22_4, gr_22_5, gr_30_0, gr_30_6, gr_31_0, gr_31_1, gr_31_2, gr_31_3, gr_31_4, gr_31_5, gr_39_1, gr_39_2, gr_40_0, gr_40_6, gr_41_0, gr_41_1, gr_41_2, gr_41_3, gr_41_4, gr_41_5, gr_50_0, gr_50_1, gr_50_2, gr_50_3, gr_50_4, gr_50_5, gr_50_6, gr_50_7, gr_52_0, gr_52_1, gr_55_2, gr_65_1, gr_67_3, gr_69_3, gr_71_3, gr_73_3, gr_75_3, gr_77_3, gr_79_3, gr_81_3, gr_83_9, gr_83_10, gr_83_11, gr_83_12, gr_83_13, gr_83_14, gr_83_15, gr_83_16, gr_83_17, gr_83_18, gr_83_19, gr_83_20, gr_83_21, gr_83_22, gr_83_23, gr_83_29, gr_83_30, gr_83_35, gr_83_36, gr_83_38, gr_83_39, gr_55_0, gr_55_1, gr_59_0, gr_59_1, gc_22, gct_24, gc_31, gct_33, gc_41, gct_43, gs_50, gst_67, gsr_67, gst_68, gsl_68, n_negM, n_sub10]
  rfl
theorem CInv.rf {k : Nat} (h : CInv σ M) : CInv (u_rf σ k) (b_no M k) := by
  obtain ⟨h1, h2, h3, h4, h5, h6, h7⟩ := h
  have g1 : Agr 20 39 M (b_no M k) := Agr.rf.wi (by omega)
  have g3 : Agr 65 83 M (b_no M k) := Agr.rf.wi (by omega)
  refine ⟨h1.ag (g1.mono (by omega) (by omega)), ?_, h3.ag (g3.mono (by omega) (by omega)), fun j hj => ?_, (g1.i _ (by omega) (by omega)).trans h5, (g3.i _ (by omega) (by omega)).trans h6, fun i hi hr => (g3.i _ (by omega) (by omega)).trans (h7 i hi hr)⟩
  · unfold CI at h2 ⊢
    show match s_img σ with | none => _ | some κ => _
    cases hm : s_img σ with
    | none => rw [hm] at h2; exact (g1.i _ (by omega) (by omega)).trans h2
    | some κ => rw [hm] at h2; exact ⟨(g1.i _ (by omega) (by omega)).trans h2.1, h2.2.ag (g1.mono (by omega) (by omega))⟩
  · show x_i (x_wi M 51 k _) 51 j = if j = k then _ else _
    rw [ii_wi]
    by_cases hjk : j = k
    · subst hjk
      rw [if_pos ⟨rfl, rfl⟩, if_pos rfl, h4 j hj]
      rfl
    · rw [if_neg (fun q => hjk q.2), if_neg hjk, h4 j hj]
      rfl

theorem MInv.rf {k : Nat} (h : MInv σ M) : MInv (u_rf σ k) (a_no M k) := by
  have g1 : Agr 83 84 M (a_no M k) := Agr.rf.wi (by omega)
  have g3 : Agr 85 105 M (a_no M k) := Agr.rf.wi (by omega)
  obtain ⟨h1, h2, h3, h4, h5, h6, h7⟩ := h
  have hx : ∀ a j, (83 ≤ a ∧ a < 91) → a ≠ 84 → x_i (a_no M k) a j = x_i M a j := fun a j ha hb => by
    rcases Nat.lt_or_ge a 84 with q | q
    · exact g1.i _ ha.1 q
    · exact g3.i _ (by omega) (by omega)
  refine ⟨?_, ?_, ?_, fun j hj => ?_, (g1.i _ (by omega) (by omega)).trans h5, (g1.i _ (by omega) (by omega)).trans h6, fun i hi hr => (g3.i _ (by omega) (by omega)).trans (h7 i hi hr)⟩
  · obtain ⟨⟨a1, a2, a3, a4, a5, a6, a7, a8⟩, hc, ht⟩ := h1
    refine ⟨⟨(g1.i _ (by omega) (by omega)).trans a1, (g1.i _ (by omega) (by omega)).trans a2, (g1.i _ (by omega) (by omega)).trans a3, (g1.i _ (by omega) (by omega)).trans a4, (g1.i _ (by omega) (by omega)).trans a5, (g1.i _ (by omega) (by omega)).trans a6, (g1.i _ (by omega) (by omega)).trans a7, (g1.i _ (by omega) (by omega)).trans a8⟩, fun c hc' => ?_, fun i hi => (g3.i _ (by omega) (by omega)).trans (ht i hi)⟩
    obtain ⟨q1, q2, q3, q4, q5⟩ := hc c hc'
    exact ⟨(g3.i _ (by omega) (by omega)).trans q1, (g3.i _ (by omega) (by omega)).trans q2, (g3.i _ (by omega) (by omega)).trans q3, (g3.i _ (by omega) (by omega)).trans q4, (g3.i _ (by omega) (by omega)).trans q5⟩
  · unfold MI at h2 ⊢
    show match s_img σ with | none => _ | some κ => _
    cases hm : s_img σ with
    | none => rw [hm] at h2; exact (g1.i _ (by omega) (by omega)).trans h2
    | some κ =>
      rw [hm] at h2
      obtain ⟨e1, ⟨d1, d2, d3, d4, d5, d6, d7, d8⟩, dc, dt⟩ := h2
      refine ⟨(g1.i _ (by omega) (by omega)).trans e1, ⟨(g3.i _ (by omega) (by omega)).trans d1, (g3.i _ (by omega) (by omega)).trans d2, (g3.i _ (by omega) (by omega)).trans d3, (g3.i _ (by omega) (by omega)).trans d4, (g3.i _ (by omega) (by omega)).trans d5, (g3.i _ (by omega) (by omega)).trans d6, (g3.i _ (by omega) (by omega)).trans d7, (g3.i _ (by omega) (by omega)).trans d8⟩, fun c hc' => ?_, fun i hi => (g3.i _ (by omega) (by omega)).trans (dt i hi)⟩
      obtain ⟨q1, q2, q3, q4, q5⟩ := dc c hc'
      exact ⟨(g3.i _ (by omega) (by omega)).trans q1, (g3.i _ (by omega) (by omega)).trans q2, (g3.i _ (by omega) (by omega)).trans q3, (g3.i _ (by omega) (by omega)).trans q4, (g3.i _ (by omega) (by omega)).trans q5⟩
  · intro s hs
    obtain ⟨q0, q1, q2⟩ := h3 s hs
    refine ⟨(g3.i _ (by omega) (by omega)).trans q0, fun e => ?_, fun e => (g3.i _ (by omega) (by omega)).trans (q2 e)⟩
    obtain ⟨p1, p2, p3⟩ := q1 e
    exact ⟨(g3.i _ (by omega) (by omega)).trans p1, (g3.i _ (by omega) (by omega)).trans p2, fun i hi => (g3.j _ (by omega) (by omega)).trans (p3 i hi)⟩
  · show x_i (x_wi M 84 k _) 84 j = if j = k then _ else _
    rw [ii_wi]
    by_cases hjk : j = k
    · subst hjk
      rw [if_pos ⟨rfl, rfl⟩, if_pos rfl, h4 j hj]
      rfl
    · rw [if_neg (fun q => hjk q.2), if_neg hjk, h4 j hj]
      rfl
/-! how a call's proof ends -/
def EndC {α : Type} (L : Nat) (f : XM → Option (α × XM)) (M : XM) (q : α × XS) : Prop := ∃ (M' : XM) (b1' b2' : Bool), f M = some (q.1, M') ∧ Geo L b1' b2' M' ∧ CInv q.2 M' ∧ Agr 0 20 M M' ∧ Agr 83 105 M M'
def EndM {α : Type} (L : Nat) (b1 b2 : Bool) (f : XM → Option (α × XM)) (M : XM) (q : α × XS) : Prop := ∃ (M' : XM), f M = some (q.1, M') ∧ Geo L b1 b2 M' ∧ MInv q.2 M' ∧ MW M' ∧ Agr 0 83 M M'
theorem MW.ag {M M' : XM} (h : MW M) (g : Agr 97 98 M M') : MW M' := fun k hk => (g.i _ (by omega) (by omega)).trans (h k hk)
theorem c_no_end {α : Type} {f : XM → Option (α × XM)} {r : α} {k : Nat} (hG : Geo L b1 b2 M) (hI : CInv σ M) (he : f M = some (r, b_no M k)) : EndC L f M (r, u_rf σ k) :=
  ⟨_, b1, b2, he, hG, hI.rf, Agr.rf.wi (by omega), Agr.rf.wi (by omega)⟩
theorem c_id_end {α : Type} {f : XM → Option (α × XM)} {r : α} (hG : Geo L b1 b2 M) (hI : CInv σ M) (he : f M = some (r, M)) : EndC L f M (r, σ) :=
  ⟨_, b1, b2, he, hG, hI, Agr.rf, Agr.rf⟩
theorem m_no_end {α : Type} {f : XM → Option (α × XM)} {r : α} {k : Nat} (hG : Geo L b1 b2 M) (hI : MInv σ M) (hW : MW M) (he : f M = some (r, a_no M k)) : EndM L b1 b2 f M (r, u_rf σ k) :=
  ⟨_, he, hG, hI.rf, hW.ag (Agr.rf.wi (by omega)), Agr.rf.wi (by omega)⟩
theorem m_id_end {α : Type} {f : XM → Option (α × XM)} {r : α} (hG : Geo L b1 b2 M) (hI : MInv σ M) (hW : MW M) (he : f M = some (r, M)) : EndM L b1 b2 f M (r, σ) :=
  ⟨_, he, hG, hI, hW, Agr.rf⟩
/-- the room changes, all else that is kept stays -/
theorem CInv.now {M' : XM} {ρ : XR} (h : CInv σ M) (hR : CR 21 ρ M') (g0 : x_i M' 20 2 = x_i M 20 2 ∧ x_i M' 20 4 = x_i M 20 4) (g1 : Agr 30 39 M M') (g2 : Agr 51 52 M M') (g3 : Agr 65 83 M M') : CInv (u_now σ ρ) M' := by
  obtain ⟨h1, h2, h3, h4, h5, h6, h7⟩ := h
  refine ⟨hR, ?_, h3.ag (g3.mono (by omega) (by omega)), fun k hk => (g2.i _ (by omega) (by omega)).trans (h4 k hk), g0.2.trans h5, (g3.i _ (by omega) (by omega)).trans h6, fun i hi hr => (g3.i _ (by omega) (by omega)).trans (h7 i hi hr)⟩
  unfold CI at h2 ⊢
  show match s_img σ with | none => _ | some κ => _
  cases hm : s_img σ with
  | none => rw [hm] at h2; exact g0.1.trans h2
  | some κ => rw [hm] at h2; exact ⟨g0.1.trans h2.1, h2.2.ag (g1.mono (by omega) (by omega))⟩
theorem MInv.now {M' : XM} {ρ : XR} (h : MInv σ M) (hR : MR ρ M') (g0 : ∀ j, j = 8 ∨ j = 40 ∨ j = 41 → x_i M' 83 j = x_i M 83 j) (ga : Agr 84 85 M M') (g1 : Agr 91 96 M M') (g2 : Agr 100 101 M M') (g3 : Agr 104 105 M M') : MInv (u_now σ ρ) M' := by
  obtain ⟨-, h2, h3, h4, h5, h6, h7⟩ := h
  refine ⟨hR, ?_, fun s hs => ?_, fun k hk => (ga.i _ (by omega) (by omega)).trans (h4 k hk), (g0 _ (by omega)).trans h5, (g0 _ (by omega)).trans h6, fun i hi hr => (g3.i _ (by omega) (by omega)).trans (h7 i hi hr)⟩
  · unfold MI at h2 ⊢
    show match s_img σ with | none => _ | some κ => _
    cases hm : s_img σ with
    | none => rw [hm] at h2; exact (g0 _ (by omega)).trans h2
    | some κ =>
      rw [hm] at h2
      obtain ⟨e1, ⟨d1, d2, d3, d4, d5, d6, d7, d8⟩, dc, dt⟩ := h2
      refine ⟨(g0 _ (by omega)).trans e1, ⟨(g2.i _ (by omega) (by omega)).trans d1, (g2.i _ (by omega) (by omega)).trans d2, (g2.i _ (by omega) (by omega)).trans d3, (g2.i _ (by omega) (by omega)).trans d4, (g2.i _ (by omega) (by omega)).trans d5, (g2.i _ (by omega) (by omega)).trans d6, (g2.i _ (by omega) (by omega)).trans d7, (g2.i _ (by omega) (by omega)).trans d8⟩, fun c hc' => ?_, fun i hi => (g2.i _ (by omega) (by omega)).trans (dt i hi)⟩
      obtain ⟨q1, q2, q3, q4, q5⟩ := dc c hc'
      exact ⟨(g2.i _ (by omega) (by omega)).trans q1, (g2.i _ (by omega) (by omega)).trans q2, (g2.i _ (by omega) (by omega)).trans q3, (g2.i _ (by omega) (by omega)).trans q4, (g2.i _ (by omega) (by omega)).trans q5⟩
  · obtain ⟨q0, q1, q2⟩ := h3 s hs
    refine ⟨(g1.i _ (by omega) (by omega)).trans q0, fun e => ?_, fun e => (g1.i _ (by omega) (by omega)).trans (q2 e)⟩
    obtain ⟨p1, p2, p3⟩ := q1 e
    exact ⟨(g1.i _ (by omega) (by omega)).trans p1, (g1.i _ (by omega) (by omega)).trans p2, fun i hi => (g1.j _ (by omega) (by omega)).trans (p3 i hi)⟩
end
