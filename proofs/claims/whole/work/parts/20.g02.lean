abbrev m_X4_addTally : XU := (yX4_addTally, cX4_addTally, 2, (some .int))
theorem cn_X4_addTally : m_X4_addTally.1.cls ≠ "java/lang/invoke/MethodHandle" ∧ m_X4_addTally.1.cls ≠ "java/lang/invoke/VarHandle" ∧ (parseMethodDescriptor m_X4_addTally.1.desc).map (fun q => q.parameters.length) = some 1 := by decide +kernel
def f_X4_addTally (v0 : Nat) (v1 : Int32) (M : XM) : Option (Int32 × XM) :=
  if x_tag M v0 = 4 + 10 then (if x_at M (x_r M v0 6) 1 (x_i M v0 7) = true then (x_lt (x_wi M (x_r M v0 6) (x_i M v0 7).toNatClampNeg v1) (fun M3 => x_lt (x_wi M3 v0 7 ((x_i M3 v0 7) + (1 : Int32))) (fun M8 => some ((x_i M8 v0 7), M8)))) else none) else none
set_option maxRecDepth 20000 in
set_option maxHeartbeats 4000000 in
theorem t_X4_addTally (l : Launch) {v0 : Nat} {v1 : Int32} {M : XM} {q : Int32 × XM} (H : f_X4_addTally v0 v1 M = some q) : AW l m_X4_addTally 1 0 0 (x_Ri q) 0 0 0 [some (.ref v0), some (.int v1)] [] M := by
  unfold f_X4_addTally at H
  refine x_aload_n 0 0 dX4_addTally_0 rfl rfl ?_
  obtain ⟨h1, H⟩ := x_ckp H
  refine x_getf 1 30 4 6 (.ref (x_r M v0 6)) dX4_addTally_1 lk_177 (by decide) (by decide) rfl (fun _ => rfl) h1 ?_
  refine x_aload_n 4 0 dX4_addTally_4 rfl rfl ?_
  refine x_getf 5 45 4 7 (.int (x_i M v0 7)) dX4_addTally_5 lk_179 (by decide) (by decide) rfl (fun _ => rfl) h1 ?_
  refine x_iload_n 8 1 dX4_addTally_8 rfl rfl ?_
  obtain ⟨h2, H⟩ := x_ckp H
  obtain ⟨M3, w4, H⟩ := x_lt_of H
  have h5 : x_tag M3 v0 = 4 + 10 := by rw [w4]; exact h1
  have h6 : x_at M3 (x_r M v0 6) 1 (x_i M v0 7) = true := by rw [w4]; exact h2
  have h7 : x_tag M3 (x_r M v0 6) = 1 := by rw [w4]; exact (x_at_1 h2)
  refine x_iast' 9 dX4_addTally_9 h2 w4 ?_
  refine x_aload_n 10 0 dX4_addTally_10 rfl rfl ?_
  refine x_dup 11 dX4_addTally_11 rfl ?_
  refine x_getf 12 45 4 7 (.int (x_i M3 v0 7)) dX4_addTally_12 lk_179 (by decide) (by decide) rfl (fun _ => rfl) h5 ?_
  refine x_iconst 15 (1 : Int32) dX4_addTally_15 (by decide) ?_
  refine x_iadd 16 dX4_addTally_16 ?_
  obtain ⟨M8, w9, H⟩ := x_lt_of H
  have h10 : x_tag M8 v0 = 4 + 10 := by rw [w9]; exact h5
  have h11 : x_at M8 (x_r M v0 6) 1 (x_i M v0 7) = true := by rw [w9]; exact h6
  have h12 : x_tag M8 (x_r M v0 6) = 1 := by rw [w9]; exact h7
  refine x_putI' 17 45 4 7 dX4_addTally_17 lk_179 (by decide) (by decide) rfl (Or.inl rfl) (Or.inl rfl) h5 w9 ?_
  refine x_aload_n 20 0 dX4_addTally_20 rfl rfl ?_
  refine x_getf 21 45 4 7 (.int (x_i M8 v0 7)) dX4_addTally_21 lk_179 (by decide) (by decide) rfl (fun _ => rfl) h10 ?_
  cases H
  exact x_iret 24 dX4_addTally_24 .int rfl rfl (Nat.le_of_ble_eq_true rfl) (Nat.le_of_ble_eq_true rfl) ⟨rfl, rfl⟩

theorem ct_X4_addTally (l : Launch) {v0 : Nat} {v1 : Int32} {M : XM} {q : Int32 × XM} (H : f_X4_addTally v0 v1 M = some q) : Ct l m_X4_addTally 1 0 0 [(.ref v0), (.int v1)] M (x_Ri q) := x_met l m_X4_addTally 1 0 0 [(.ref v0), (.int v1)] M (x_Ri q) _ rfl rfl (Nat.le_of_ble_eq_true rfl) (t_X4_addTally l H)
theorem lk_557 : Cond.methodLink RX4 61 Lib.Math.min.name ∈ x_TB := x_tb (k := 557) (by decide +kernel) rfl
abbrev m_X4_holdAllWithinN : XU := (yX4_holdAllWithinN, cX4_holdAllWithinN, 2, none)
theorem cn_X4_holdAllWithinN : m_X4_holdAllWithinN.1.cls ≠ "java/lang/invoke/MethodHandle" ∧ m_X4_holdAllWithinN.1.cls ≠ "java/lang/invoke/VarHandle" ∧ (parseMethodDescriptor m_X4_holdAllWithinN.1.desc).map (fun q => q.parameters.length) = some 0 := by decide +kernel
def bd_X4_holdAllWithinN_2 (κ2 : Nat → Int32 → XM → Option XM) (v0 : Nat) (v1 : Int32) (M : XM) : Option XM :=
  if x_tag M v0 = 4 + 10 then (if (x_i M v0 1) ≤ v1 then (some M) else (if x_at M (x_r M v0 0) 3 v1 = true then (if x_tag M (x_r M (x_r M v0 0) v1.toNatClampNeg) = 2 + 10 then (x_lt (x_wi M (x_r M (x_r M v0 0) v1.toNatClampNeg) 2 (if (x_i M v0 2) < (x_i M (x_r M (x_r M v0 0) v1.toNatClampNeg) 2) then (x_i M v0 2) else (x_i M (x_r M (x_r M v0 0) v1.toNatClampNeg) 2))) (fun M5 => κ2 v0 (v1 + (1 : Int32)) M5)) else none) else none)) else none
set_option maxRecDepth 20000 in
set_option maxHeartbeats 4000000 in
theorem tb_X4_holdAllWithinN_2 (l : Launch) {κ2 : Nat → Int32 → XM → Option XM} {v0 : Nat} {v1 : Int32} {M : XM} {q : XM} (hκ2 : ∀ (v0 : Nat) (v1 : Int32) (M : XM), κ2 v0 v1 M = some q → AW l m_X4_holdAllWithinN 1 0 0 (x_Rv q) 0 0 2 [some (.ref v0), some (.int v1)] [] M) (H : bd_X4_holdAllWithinN_2 κ2 v0 v1 M = some q) : AW l m_X4_holdAllWithinN 1 0 0 (x_Rv q) 0 0 2 [some (.ref v0), some (.int v1)] [] M := by
  unfold bd_X4_holdAllWithinN_2 at H
  refine x_iload_n 2 1 dX4_holdAllWithinN_2 rfl rfl ?_
  refine x_aload_n 3 0 dX4_holdAllWithinN_3 rfl rfl ?_
  obtain ⟨h1, H⟩ := x_ckp H
  refine x_getf 4 42 4 1 (.int (x_i M v0 1)) dX4_holdAllWithinN_4 lk_159 (by decide) (by decide) rfl (fun _ => rfl) h1 ?_
  refine x_icmp_ge 7 41 dX4_holdAllWithinN_7 (by decide) (fun c2 => ?_) (fun c2 => ?_)
  · replace H := x_ifp c2 H
    cases H
    exact x_vret 41 dX4_holdAllWithinN_41 rfl (Nat.le_of_ble_eq_true rfl) (Nat.le_of_ble_eq_true rfl) ⟨rfl, rfl⟩
  · replace H := x_ifn c2 H
    refine x_aload_n 10 0 dX4_holdAllWithinN_10 rfl rfl ?_
    refine x_getf 11 11 4 0 (.ref (x_r M v0 0)) dX4_holdAllWithinN_11 lk_154 (by decide) (by decide) rfl (fun _ => rfl) h1 ?_
    refine x_iload_n 14 1 dX4_holdAllWithinN_14 rfl rfl ?_
    obtain ⟨h3, H⟩ := x_ckp H
    refine x_aald3 15 dX4_holdAllWithinN_15 h3 ?_
    refine x_aload_n 16 0 dX4_holdAllWithinN_16 rfl rfl ?_
    refine x_getf 17 11 4 0 (.ref (x_r M v0 0)) dX4_holdAllWithinN_17 lk_154 (by decide) (by decide) rfl (fun _ => rfl) h1 ?_
    refine x_iload_n 20 1 dX4_holdAllWithinN_20 rfl rfl ?_
    refine x_aald3 21 dX4_holdAllWithinN_21 h3 ?_
    obtain ⟨h4, H⟩ := x_ckp H
    refine x_getf 22 58 2 2 (.int (x_i M (x_r M (x_r M v0 0) v1.toNatClampNeg) 2)) dX4_holdAllWithinN_22 lk_134 (by decide) (by decide) rfl (fun _ => rfl) h4 ?_
    refine x_aload_n 25 0 dX4_holdAllWithinN_25 rfl rfl ?_
    refine x_getf 26 17 4 2 (.int (x_i M v0 2)) dX4_holdAllWithinN_26 lk_162 (by decide) (by decide) rfl (fun _ => rfl) h1 ?_
    refine x_min 29 61 dX4_holdAllWithinN_29 lk_557 lk_558 lk_97 lk_559 rfl (Nat.le_of_ble_eq_true rfl) (by decide) (Nat.le_of_ble_eq_true rfl) (Nat.le_of_ble_eq_true rfl) ?_
    obtain ⟨M5, w6, H⟩ := x_lt_of H
    have h7 : x_tag M5 v0 = 4 + 10 := by rw [w6]; exact h1
    have h8 : x_at M5 (x_r M v0 0) 3 v1 = true := by rw [w6]; exact h3
    have h9 : x_tag M5 (x_r M v0 0) = 3 := by rw [w6]; exact (x_at_1 h3)
    have h10 : x_tag M5 (x_r M (x_r M v0 0) v1.toNatClampNeg) = 2 + 10 := by rw [w6]; exact h4
    refine x_putI' 32 58 2 2 dX4_holdAllWithinN_32 lk_134 (by decide) (by decide) rfl (Or.inl rfl) (Or.inl rfl) h4 w6 ?_
    refine x_iinc 35 1 (v1 + (1 : Int32)) [some (.ref v0), some (.int (v1 + (1 : Int32)))] dX4_holdAllWithinN_35 rfl (congrArg (fun z : Int32 => v1 + z) (show Int32.ofInt (1) = (1 : Int32) by decide)) rfl (Nat.le_of_ble_eq_true rfl) rfl ?_
    refine x_goto 38 2 dX4_holdAllWithinN_38 (by decide) ?_
    exact hκ2 _ _ _ H

def lp_X4_holdAllWithinN_2 (n : Nat) : Nat → Int32 → XM → Option XM := x_rec (fun _ _ _ => none) (bd_X4_holdAllWithinN_2) n
theorem t_X4_holdAllWithinN_2 (l : Launch) {q : XM} : ∀ (n : Nat) (v0 : Nat) (v1 : Int32) (M : XM), lp_X4_holdAllWithinN_2 n v0 v1 M = some q → AW l m_X4_holdAllWithinN 1 0 0 (x_Rv q) 0 0 2 [some (.ref v0), some (.int v1)] [] M := by
  intro n
  induction n with
  | zero => intro v0 v1 M H; cases H
  | succ n ih => intro v0 v1 M H; exact tb_X4_holdAllWithinN_2 l ih H
def f_X4_holdAllWithinN (v0 : Nat) (M : XM) : Option XM :=
  lp_X4_holdAllWithinN_2 x_fuel v0 (0 : Int32) M
set_option maxRecDepth 20000 in
set_option maxHeartbeats 4000000 in
theorem t_X4_holdAllWithinN (l : Launch) {v0 : Nat} {M : XM} {q : XM} (H : f_X4_holdAllWithinN v0 M = some q) : AW l m_X4_holdAllWithinN 1 0 0 (x_Rv q) 0 0 0 [some (.ref v0), none] [] M := by
  unfold f_X4_holdAllWithinN at H
  refine x_iconst 0 (0 : Int32) dX4_holdAllWithinN_0 (by decide) ?_
  refine x_istore_n 1 1 [some (.ref v0), some (.int (0 : Int32))] dX4_holdAllWithinN_1 rfl rfl (Nat.le_of_ble_eq_true rfl) rfl ?_
  exact t_X4_holdAllWithinN_2 l _ _ _ _ H

theorem ct_X4_holdAllWithinN (l : Launch) {v0 : Nat} {M : XM} {q : XM} (H : f_X4_holdAllWithinN v0 M = some q) : Ct l m_X4_holdAllWithinN 1 0 0 [(.ref v0)] M (x_Rv q) := x_met l m_X4_holdAllWithinN 1 0 0 [(.ref v0)] M (x_Rv q) _ rfl rfl (Nat.le_of_ble_eq_true rfl) (t_X4_holdAllWithinN l H)
theorem lk_556 : Cond.code yX4_holdAllWithinN cX4_holdAllWithinN 2 none ∈ x_TB := x_tb (k := 556) (by decide +kernel) rfl
theorem lk_553 : Cond.methodLink RX4 55 yX4_holdAllWithinN ∈ x_TB := x_tb (k := 553) (by decide +kernel) rfl
theorem lk_4 : Cond.selects RX4 yX4_holdAllWithinN yX4_holdAllWithinN ∈ x_TB := x_tb (k := 4) (by decide +kernel) rfl
theorem lk_555 : Cond.instanceMethod yX4_holdAllWithinN ∈ x_TB := x_tb (k := 555) (by decide +kernel) rfl
abbrev m_X4_change : XU := (yX4_change, cX4_change, 4, (some .int))
theorem cn_X4_change : m_X4_change.1.cls ≠ "java/lang/invoke/MethodHandle" ∧ m_X4_change.1.cls ≠ "java/lang/invoke/VarHandle" ∧ (parseMethodDescriptor m_X4_change.1.desc).map (fun q => q.parameters.length) = some 2 := by decide +kernel
def f_X4_change (v0 : Nat) (v1 : Int32) (v2 : Int32) (M : XM) : Option (Int32 × XM) :=
  if v1 = (0 : Int32) then (if x_tag M v0 = 4 + 10 then (x_lt (x_wi M v0 2 v2) (fun M3 => x_bv (f_X4_holdAllWithinN v0 M3) (fun M6 => some ((x_i M v0 2), M6)))) else none) else if v1 = (1 : Int32) then (if x_tag M v0 = 4 + 10 then (x_lt (x_wi M v0 3 v2) (fun M11 => some ((x_i M v0 3), M11))) else none) else if v1 = (2 : Int32) then (if x_tag M v0 = 4 + 10 then (x_lt (x_wi M v0 4 v2) (fun M16 => some ((x_i M v0 4), M16))) else none) else if x_tag M v0 = 4 + 10 then (x_lt (x_wi M v0 5 v2) (fun M20 => some ((x_i M v0 5), M20))) else none
set_option maxRecDepth 20000 in
set_option maxHeartbeats 4000000 in
theorem t_X4_change (l : Launch) {v0 : Nat} {v1 : Int32} {v2 : Int32} {M : XM} {q : Int32 × XM} (H : f_X4_change v0 v1 v2 M = some q) : AW l m_X4_change 2 0 0 (x_Ri q) 0 0 0 [some (.ref v0), some (.int v1), some (.int v2), none] [] M := by
  unfold f_X4_change at H
  refine x_iload_n 0 1 dX4_change_0 rfl rfl ?_
  by_cases c1 : v1 = (0 : Int32)
  · replace H := x_ifp c1 H
    refine x_tableIn (off := 27) 1 28 dX4_change_1 (by rw [c1]; decide) (by rw [c1]; decide) (by rw [c1]; rfl) (by decide) ?_
    refine x_aload_n 28 0 dX4_change_28 rfl rfl ?_
    obtain ⟨h2, H⟩ := x_ckp H
    refine x_getf 29 17 4 2 (.int (x_i M v0 2)) dX4_change_29 lk_162 (by decide) (by decide) rfl (fun _ => rfl) h2 ?_
    refine x_istore_n 32 3 [some (.ref v0), some (.int v1), some (.int v2), some (.int (x_i M v0 2))] dX4_change_32 rfl rfl (Nat.le_of_ble_eq_true rfl) rfl ?_
    refine x_aload_n 33 0 dX4_change_33 rfl rfl ?_
    refine x_iload_n 34 2 dX4_change_34 rfl rfl ?_
    obtain ⟨M3, w4, H⟩ := x_lt_of H
    have h5 : x_tag M3 v0 = 4 + 10 := by rw [w4]; exact h2
    refine x_putI' 35 17 4 2 dX4_change_35 lk_162 (by decide) (by decide) rfl (Or.inl rfl) (Or.inl rfl) h2 w4 ?_
    refine x_aload_n 38 0 dX4_change_38 rfl rfl ?_
    obtain ⟨M6, e8, H⟩ := x_bv_of H
    refine x_callV 39 55 4 [] [] dX4_change_39 (ct_X4_holdAllWithinN l e8) lk_553 lk_555 lk_4 (by decide) h5 lk_86 lk_556 ⟨cn_X4_holdAllWithinN, (by decide), by decide⟩ rfl (Nat.le_of_ble_eq_true rfl) (Nat.le_of_ble_eq_true rfl) (Nat.le_of_ble_eq_true rfl) (x_rv ?_)
    refine x_iload_n 42 3 dX4_change_42 rfl rfl ?_
    cases H
    exact x_iret 43 dX4_change_43 .int rfl rfl (Nat.le_of_ble_eq_true rfl) (Nat.le_of_ble_eq_true rfl) ⟨rfl, rfl⟩
  · replace H := x_ifn c1 H
    by_cases c9 : v1 = (1 : Int32)
    · replace H := x_ifp c9 H
      refine x_tableIn (off := 43) 1 44 dX4_change_1 (by rw [c9]; decide) (by rw [c9]; decide) (by rw [c9]; rfl) (by decide) ?_
      refine x_aload_n 44 0 dX4_change_44 rfl rfl ?_
      obtain ⟨h10, H⟩ := x_ckp H
      refine x_getf 45 21 4 3 (.int (x_i M v0 3)) dX4_change_45 lk_167 (by decide) (by decide) rfl (fun _ => rfl) h10 ?_
      refine x_istore_n 48 3 [some (.ref v0), some (.int v1), some (.int v2), some (.int (x_i M v0 3))] dX4_change_48 rfl rfl (Nat.le_of_ble_eq_true rfl) rfl ?_
      refine x_aload_n 49 0 dX4_change_49 rfl rfl ?_
      refine x_iload_n 50 2 dX4_change_50 rfl rfl ?_
      obtain ⟨M11, w12, H⟩ := x_lt_of H
      have h13 : x_tag M11 v0 = 4 + 10 := by rw [w12]; exact h10
      refine x_putI' 51 21 4 3 dX4_change_51 lk_167 (by decide) (by decide) rfl (Or.inl rfl) (Or.inl rfl) h10 w12 ?_
      refine x_iload_n 54 3 dX4_change_54 rfl rfl ?_
      cases H
      exact x_iret 55 dX4_change_55 .int rfl rfl (Nat.le_of_ble_eq_true rfl) (Nat.le_of_ble_eq_true rfl) ⟨rfl, rfl⟩
    · replace H := x_ifn c9 H
      by_cases c14 : v1 = (2 : Int32)
      · replace H := x_ifp c14 H
        refine x_tableIn (off := 55) 1 56 dX4_change_1 (by rw [c14]; decide) (by rw [c14]; decide) (by rw [c14]; rfl) (by decide) ?_
        refine x_aload_n 56 0 dX4_change_56 rfl rfl ?_
        obtain ⟨h15, H⟩ := x_ckp H
        refine x_getf 57 24 4 4 (.int (x_i M v0 4)) dX4_change_57 lk_172 (by decide) (by decide) rfl (fun _ => rfl) h15 ?_
        refine x_istore_n 60 3 [some (.ref v0), some (.int v1), some (.int v2), some (.int (x_i M v0 4))] dX4_change_60 rfl rfl (Nat.le_of_ble_eq_true rfl) rfl ?_
        refine x_aload_n 61 0 dX4_change_61 rfl rfl ?_
        refine x_iload_n 62 2 dX4_change_62 rfl rfl ?_
        obtain ⟨M16, w17, H⟩ := x_lt_of H
        have h18 : x_tag M16 v0 = 4 + 10 := by rw [w17]; exact h15
        refine x_putI' 63 24 4 4 dX4_change_63 lk_172 (by decide) (by decide) rfl (Or.inl rfl) (Or.inl rfl) h15 w17 ?_
        refine x_iload_n 66 3 dX4_change_66 rfl rfl ?_
        cases H
        exact x_iret 67 dX4_change_67 .int rfl rfl (Nat.le_of_ble_eq_true rfl) (Nat.le_of_ble_eq_true rfl) ⟨rfl, rfl⟩
      · replace H := x_ifn c14 H
        refine x_tableOut 1 68 dX4_change_1 (by have n0 := lv_neT (a := 0) c1 (by decide); have n1 := lv_neT (a := 1) c9 (by decide); have n2 := lv_neT (a := 2) c14 (by decide); omega) (by decide) ?_
        refine x_aload_n 68 0 dX4_change_68 rfl rfl ?_
        obtain ⟨h19, H⟩ := x_ckp H
        refine x_getf 69 27 4 5 (.int (x_i M v0 5)) dX4_change_69 lk_175 (by decide) (by decide) rfl (fun _ => rfl) h19 ?_
        refine x_istore_n 72 3 [some (.ref v0), some (.int v1), some (.int v2), some (.int (x_i M v0 5))] dX4_change_72 rfl rfl (Nat.le_of_ble_eq_true rfl) rfl ?_
        refine x_aload_n 73 0 dX4_change_73 rfl rfl ?_
        refine x_iload_n 74 2 dX4_change_74 rfl rfl ?_
        obtain ⟨M20, w21, H⟩ := x_lt_of H
        have h22 : x_tag M20 v0 = 4 + 10 := by rw [w21]; exact h19
        refine x_putI' 75 27 4 5 dX4_change_75 lk_175 (by decide) (by decide) rfl (Or.inl rfl) (Or.inl rfl) h19 w21 ?_
        refine x_iload_n 78 3 dX4_change_78 rfl rfl ?_
        cases H
        exact x_iret 79 dX4_change_79 .int rfl rfl (Nat.le_of_ble_eq_true rfl) (Nat.le_of_ble_eq_true rfl) ⟨rfl, rfl⟩

theorem ct_X4_change (l : Launch) {v0 : Nat} {v1 : Int32} {v2 : Int32} {M : XM} {q : Int32 × XM} (H : f_X4_change v0 v1 v2 M = some q) : Ct l m_X4_change 2 0 0 [(.ref v0), (.int v1), (.int v2)] M (x_Ri q) := x_met l m_X4_change 2 0 0 [(.ref v0), (.int v1), (.int v2)] M (x_Ri q) _ rfl rfl (Nat.le_of_ble_eq_true rfl) (t_X4_change l H)
theorem lk_702 : Cond.methodLink RX4 67 yX4_isThrough ∈ x_TB := x_tb (k := 702) (by decide +kernel) rfl
abbrev m_X4_countThrough : XU := (yX4_countThrough, cX4_countThrough, 3, (some .int))
theorem cn_X4_countThrough : m_X4_countThrough.1.cls ≠ "java/lang/invoke/MethodHandle" ∧ m_X4_countThrough.1.cls ≠ "java/lang/invoke/VarHandle" ∧ (parseMethodDescriptor m_X4_countThrough.1.desc).map (fun q => q.parameters.length) = some 0 := by decide +kernel
def f_X4_countThrough_23 (κ4 : Nat → Int32 → Int32 → XM → Option (Int32 × XM)) (v0 : Nat) (v1 : Int32) (v2 : Int32) (M : XM) : Option (Int32 × XM) :=
  κ4 v0 v1 (v2 + (1 : Int32)) M
set_option maxRecDepth 20000 in
set_option maxHeartbeats 4000000 in
theorem t_X4_countThrough_23 (l : Launch) {κ4 : Nat → Int32 → Int32 → XM → Option (Int32 × XM)} {v0 : Nat} {v1 : Int32} {v2 : Int32} {M : XM} {q : Int32 × XM} (hκ4 : ∀ (v0 : Nat) (v1 : Int32) (v2 : Int32) (M : XM), κ4 v0 v1 v2 M = some q → AW l m_X4_countThrough 2 0 0 (x_Ri q) 0 0 4 [some (.ref v0), some (.int v1), some (.int v2)] [] M) (H : f_X4_countThrough_23 κ4 v0 v1 v2 M = some q) : AW l m_X4_countThrough 2 0 0 (x_Ri q) 0 0 23 [some (.ref v0), some (.int v1), some (.int v2)] [] M := by
  unfold f_X4_countThrough_23 at H
  refine x_iinc 23 2 (v2 + (1 : Int32)) [some (.ref v0), some (.int v1), some (.int (v2 + (1 : Int32)))] dX4_countThrough_23 rfl (congrArg (fun z : Int32 => v2 + z) (show Int32.ofInt (1) = (1 : Int32) by decide)) rfl (Nat.le_of_ble_eq_true rfl) rfl ?_
  refine x_goto 26 4 dX4_countThrough_26 (by decide) ?_
  exact hκ4 _ _ _ _ H

def bd_X4_countThrough_4 (κ4 : Nat → Int32 → Int32 → XM → Option (Int32 × XM)) (v0 : Nat) (v1 : Int32) (v2 : Int32) (M : XM) : Option (Int32 × XM) :=
  if x_tag M v0 = 4 + 10 then (if (x_i M v0 1) ≤ v2 then (some (v1, M)) else (x_bd (f_X4_isThrough v0 v2 M) (fun r4 M3 => if r4 = 0 then (f_X4_countThrough_23 κ4 v0 v1 v2 M3) else (f_X4_countThrough_23 κ4 v0 (v1 + (1 : Int32)) v2 M3)))) else none
set_option maxRecDepth 20000 in
set_option maxHeartbeats 4000000 in
theorem tb_X4_countThrough_4 (l : Launch) {κ4 : Nat → Int32 → Int32 → XM → Option (Int32 × XM)} {v0 : Nat} {v1 : Int32} {v2 : Int32} {M : XM} {q : Int32 × XM} (hκ4 : ∀ (v0 : Nat) (v1 : Int32) (v2 : Int32) (M : XM), κ4 v0 v1 v2 M = some q → AW l m_X4_countThrough 2 0 0 (x_Ri q) 0 0 4 [some (.ref v0), some (.int v1), some (.int v2)] [] M) (H : bd_X4_countThrough_4 κ4 v0 v1 v2 M = some q) : AW l m_X4_countThrough 2 0 0 (x_Ri q) 0 0 4 [some (.ref v0), some (.int v1), some (.int v2)] [] M := by
  unfold bd_X4_countThrough_4 at H
  refine x_iload_n 4 2 dX4_countThrough_4 rfl rfl ?_
  refine x_aload_n 5 0 dX4_countThrough_5 rfl rfl ?_
  obtain ⟨h1, H⟩ := x_ckp H
  refine x_getf 6 42 4 1 (.int (x_i M v0 1)) dX4_countThrough_6 lk_159 (by decide) (by decide) rfl (fun _ => rfl) h1 ?_
  refine x_icmp_ge 9 29 dX4_countThrough_9 (by decide) (fun c2 => ?_) (fun c2 => ?_)
  · replace H := x_ifp c2 H
    refine x_iload_n 29 1 dX4_countThrough_29 rfl rfl ?_
    cases H
    exact x_iret 30 dX4_countThrough_30 .int rfl rfl (Nat.le_of_ble_eq_true rfl) (Nat.le_of_ble_eq_true rfl) ⟨rfl, rfl⟩
  · replace H := x_ifn c2 H
    refine x_aload_n 12 0 dX4_countThrough_12 rfl rfl ?_
    refine x_iload_n 13 2 dX4_countThrough_13 rfl rfl ?_
    obtain ⟨r4, M3, e5, H⟩ := x_bd_of H
    refine x_callV 14 67 4 [(.int v2)] [] dX4_countThrough_14 (ct_X4_isThrough l e5) lk_702 lk_695 lk_696 (by decide) h1 lk_86 lk_697 ⟨cn_X4_isThrough, (by decide), by decide⟩ rfl (Nat.le_of_ble_eq_true rfl) (Nat.le_of_ble_eq_true rfl) (Nat.le_of_ble_eq_true rfl) (x_ri ?_)
    refine x_if_eq 17 23 dX4_countThrough_17 (by decide) (fun c6 => ?_) (fun c6 => ?_)
    · replace H := x_ifp c6 H
      exact t_X4_countThrough_23 l hκ4 H
    · replace H := x_ifn c6 H
      refine x_iinc 20 1 (v1 + (1 : Int32)) [some (.ref v0), some (.int (v1 + (1 : Int32))), some (.int v2)] dX4_countThrough_20 rfl (congrArg (fun z : Int32 => v1 + z) (show Int32.ofInt (1) = (1 : Int32) by decide)) rfl (Nat.le_of_ble_eq_true rfl) rfl ?_
      exact t_X4_countThrough_23 l hκ4 H

def lp_X4_countThrough_4 (n : Nat) : Nat → Int32 → Int32 → XM → Option (Int32 × XM) := x_rec (fun _ _ _ _ => none) (bd_X4_countThrough_4) n
theorem t_X4_countThrough_4 (l : Launch) {q : Int32 × XM} : ∀ (n : Nat) (v0 : Nat) (v1 : Int32) (v2 : Int32) (M : XM), lp_X4_countThrough_4 n v0 v1 v2 M = some q → AW l m_X4_countThrough 2 0 0 (x_Ri q) 0 0 4 [some (.ref v0), some (.int v1), some (.int v2)] [] M := by
  intro n
  induction n with
  | zero => intro v0 v1 v2 M H; cases H
  | succ n ih => intro v0 v1 v2 M H; exact tb_X4_countThrough_4 l ih H
def f_X4_countThrough (v0 : Nat) (M : XM) : Option (Int32 × XM) :=
  lp_X4_countThrough_4 x_fuel v0 (0 : Int32) (0 : Int32) M
set_option maxRecDepth 20000 in
set_option maxHeartbeats 4000000 in
theorem t_X4_countThrough (l : Launch) {v0 : Nat} {M : XM} {q : Int32 × XM} (H : f_X4_countThrough v0 M = some q) : AW l m_X4_countThrough 2 0 0 (x_Ri q) 0 0 0 [some (.ref v0), none, none] [] M := by
  unfold f_X4_countThrough at H
  refine x_iconst 0 (0 : Int32) dX4_countThrough_0 (by decide) ?_
  refine x_istore_n 1 1 [some (.ref v0), some (.int (0 : Int32)), none] dX4_countThrough_1 rfl rfl (Nat.le_of_ble_eq_true rfl) rfl ?_
  refine x_iconst 2 (0 : Int32) dX4_countThrough_2 (by decide) ?_
  refine x_istore_n 3 2 [some (.ref v0), some (.int (0 : Int32)), some (.int (0 : Int32))] dX4_countThrough_3 rfl rfl (Nat.le_of_ble_eq_true rfl) rfl ?_
  exact t_X4_countThrough_4 l _ _ _ _ _ H

theorem ct_X4_countThrough (l : Launch) {v0 : Nat} {M : XM} {q : Int32 × XM} (H : f_X4_countThrough v0 M = some q) : Ct l m_X4_countThrough 2 0 0 [(.ref v0)] M (x_Ri q) := x_met l m_X4_countThrough 2 0 0 [(.ref v0)] M (x_Ri q) _ rfl rfl (Nat.le_of_ble_eq_true rfl) (t_X4_countThrough l H)
theorem lk_706 : Cond.code yX2_hear cX2_hear 2 none ∈ x_TB := x_tb (k := 706) (by decide +kernel) rfl
theorem lk_703 : Cond.methodLink RX4 71 yX2_hear ∈ x_TB := x_tb (k := 703) (by decide +kernel) rfl
theorem lk_705 : Cond.selects RX2 yX2_hear yX2_hear ∈ x_TB := x_tb (k := 705) (by decide +kernel) rfl
theorem lk_704 : Cond.instanceMethod yX2_hear ∈ x_TB := x_tb (k := 704) (by decide +kernel) rfl
abbrev m_X4_pass : XU := (yX4_pass, cX4_pass, 3, none)
theorem cn_X4_pass : m_X4_pass.1.cls ≠ "java/lang/invoke/MethodHandle" ∧ m_X4_pass.1.cls ≠ "java/lang/invoke/VarHandle" ∧ (parseMethodDescriptor m_X4_pass.1.desc).map (fun q => q.parameters.length) = some 2 := by decide +kernel
def f_X4_pass_44 (v0 : Nat) (v1 : Int32) (M : XM) : Option XM :=
  if x_tag M v0 = 4 + 10 then (x_bd (f_X4_isThrough v0 v1 M) (fun r18 M17 => if r18 = 0 then (some M17) else (if x_tag M17 v0 = 4 + 10 then (x_lt (x_wi M17 v0 8 ((x_i M17 v0 8) + (1 : Int32))) (fun M22 => some M22)) else none))) else none
set_option maxRecDepth 20000 in
set_option maxHeartbeats 4000000 in
theorem t_X4_pass_44 (l : Launch) {v0 : Nat} {v1 : Int32} {M : XM} {q : XM} (H : f_X4_pass_44 v0 v1 M = some q) : AW l m_X4_pass 3 0 0 (x_Rv q) 0 0 44 [some (.ref v0), some (.int v1), none] [] M := by
  unfold f_X4_pass_44 at H
  refine x_aload_n 44 0 dX4_pass_44 rfl rfl ?_
  refine x_iload_n 45 1 dX4_pass_45 rfl rfl ?_
  obtain ⟨h16, H⟩ := x_ckp H
  obtain ⟨r18, M17, e19, H⟩ := x_bd_of H
  refine x_callV 46 67 4 [(.int v1)] [] dX4_pass_46 (ct_X4_isThrough l e19) lk_702 lk_695 lk_696 (by decide) h16 lk_86 lk_697 ⟨cn_X4_isThrough, (by decide), by decide⟩ rfl (Nat.le_of_ble_eq_true rfl) (Nat.le_of_ble_eq_true rfl) (Nat.le_of_ble_eq_true rfl) (x_ri ?_)
  refine x_if_eq 49 62 dX4_pass_49 (by decide) (fun c20 => ?_) (fun c20 => ?_)
  · replace H := x_ifp c20 H
    cases H
    exact x_vret 62 dX4_pass_62 rfl (Nat.le_of_ble_eq_true rfl) (Nat.le_of_ble_eq_true rfl) ⟨rfl, rfl⟩
  · replace H := x_ifn c20 H
    refine x_aload_n 52 0 dX4_pass_52 rfl rfl ?_
    refine x_dup 53 dX4_pass_53 rfl ?_
    obtain ⟨h21, H⟩ := x_ckp H
    refine x_getf 54 48 4 8 (.int (x_i M17 v0 8)) dX4_pass_54 lk_181 (by decide) (by decide) rfl (fun _ => rfl) h21 ?_
    refine x_iconst 57 (1 : Int32) dX4_pass_57 (by decide) ?_
    refine x_iadd 58 dX4_pass_58 ?_
    obtain ⟨M22, w23, H⟩ := x_lt_of H
    have h24 : x_tag M22 v0 = 4 + 10 := by rw [w23]; exact h21
    refine x_putI' 59 48 4 8 dX4_pass_59 lk_181 (by decide) (by decide) rfl (Or.inl rfl) (Or.inl rfl) h21 w23 ?_
    cases H
    exact x_vret 62 dX4_pass_62 rfl (Nat.le_of_ble_eq_true rfl) (Nat.le_of_ble_eq_true rfl) ⟨rfl, rfl⟩

def f_X4_pass (v0 : Nat) (v1 : Int32) (v2 : Int32) (M : XM) : Option XM :=
  if x_tag M v0 = 4 + 10 then (x_bd (f_X4_isThrough v0 v1 M) (fun r3 M2 => if r3 = 0 then (if v2 = 0 then (if x_tag M2 v0 = 4 + 10 then (if x_at M2 (x_r M2 v0 0) 3 v1 = true then (if x_tag M2 (x_r M2 (x_r M2 v0 0) v1.toNatClampNeg) = 2 + 10 then (x_lt (x_wi M2 (x_r M2 (x_r M2 v0 0) v1.toNatClampNeg) 2 ((x_i M2 (x_r M2 (x_r M2 v0 0) v1.toNatClampNeg) 2) + (1 : Int32))) (fun M10 => f_X4_pass_44 v0 v1 M10)) else none) else none) else none) else (if x_tag M2 v0 = 4 + 10 then (if x_at M2 (x_r M2 v0 0) 3 v1 = true then (if x_tag M2 (x_r M2 (x_r M2 v0 0) v1.toNatClampNeg) = 2 + 10 then (x_bv (f_X2_hear (x_r M2 (x_r M2 v0 0) v1.toNatClampNeg) (x_i M2 v0 3) M2) (fun M28 => f_X4_pass_44 v0 v1 M28)) else none) else none) else none)) else (some M2))) else none
set_option maxRecDepth 20000 in
set_option maxHeartbeats 4000000 in
theorem t_X4_pass (l : Launch) {v0 : Nat} {v1 : Int32} {v2 : Int32} {M : XM} {q : XM} (H : f_X4_pass v0 v1 v2 M = some q) : AW l m_X4_pass 3 0 0 (x_Rv q) 0 0 0 [some (.ref v0), some (.int v1), some (.int v2)] [] M := by
  unfold f_X4_pass at H
  refine x_aload_n 0 0 dX4_pass_0 rfl rfl ?_
  refine x_iload_n 1 1 dX4_pass_1 rfl rfl ?_
  obtain ⟨h1, H⟩ := x_ckp H
  obtain ⟨r3, M2, e4, H⟩ := x_bd_of H
  refine x_callV 2 67 4 [(.int v1)] [] dX4_pass_2 (ct_X4_isThrough l e4) lk_702 lk_695 lk_696 (by decide) h1 lk_86 lk_697 ⟨cn_X4_isThrough, (by decide), by decide⟩ rfl (Nat.le_of_ble_eq_true rfl) (Nat.le_of_ble_eq_true rfl) (Nat.le_of_ble_eq_true rfl) (x_ri ?_)
  refine x_if_eq 5 9 dX4_pass_5 (by decide) (fun c5 => ?_) (fun c5 => ?_)
  · replace H := x_ifp c5 H
    refine x_iload_n 9 2 dX4_pass_9 rfl rfl ?_
    refine x_if_eq 10 29 dX4_pass_10 (by decide) (fun c6 => ?_) (fun c6 => ?_)
    · replace H := x_ifp c6 H
      refine x_aload_n 29 0 dX4_pass_29 rfl rfl ?_
      obtain ⟨h7, H⟩ := x_ckp H
      refine x_getf 30 11 4 0 (.ref (x_r M2 v0 0)) dX4_pass_30 lk_154 (by decide) (by decide) rfl (fun _ => rfl) h7 ?_
      refine x_iload_n 33 1 dX4_pass_33 rfl rfl ?_
      obtain ⟨h8, H⟩ := x_ckp H
      refine x_aald3 34 dX4_pass_34 h8 ?_
      refine x_dup 35 dX4_pass_35 rfl ?_
      obtain ⟨h9, H⟩ := x_ckp H
      refine x_getf 36 58 2 2 (.int (x_i M2 (x_r M2 (x_r M2 v0 0) v1.toNatClampNeg) 2)) dX4_pass_36 lk_134 (by decide) (by decide) rfl (fun _ => rfl) h9 ?_
      refine x_iconst 39 (1 : Int32) dX4_pass_39 (by decide) ?_
      refine x_iadd 40 dX4_pass_40 ?_
      obtain ⟨M10, w11, H⟩ := x_lt_of H
      have h12 : x_tag M10 v0 = 4 + 10 := by rw [w11]; exact h7
      have h13 : x_at M10 (x_r M2 v0 0) 3 v1 = true := by rw [w11]; exact h8
      have h14 : x_tag M10 (x_r M2 v0 0) = 3 := by rw [w11]; exact (x_at_1 h8)
      have h15 : x_tag M10 (x_r M2 (x_r M2 v0 0) v1.toNatClampNeg) = 2 + 10 := by rw [w11]; exact h9
      refine x_putI' 41 58 2 2 dX4_pass_41 lk_134 (by decide) (by decide) rfl (Or.inl rfl) (Or.inl rfl) h9 w11 ?_
      exact x_wk (le_s (le_s (le_n le_0))) (t_X4_pass_44 l H)
    · replace H := x_ifn c6 H
      refine x_aload_n 13 0 dX4_pass_13 rfl rfl ?_
      obtain ⟨h25, H⟩ := x_ckp H
      refine x_getf 14 11 4 0 (.ref (x_r M2 v0 0)) dX4_pass_14 lk_154 (by decide) (by decide) rfl (fun _ => rfl) h25 ?_
      refine x_iload_n 17 1 dX4_pass_17 rfl rfl ?_
      obtain ⟨h26, H⟩ := x_ckp H
      refine x_aald3 18 dX4_pass_18 h26 ?_
      refine x_aload_n 19 0 dX4_pass_19 rfl rfl ?_
      refine x_getf 20 21 4 3 (.int (x_i M2 v0 3)) dX4_pass_20 lk_167 (by decide) (by decide) rfl (fun _ => rfl) h25 ?_
      obtain ⟨h27, H⟩ := x_ckp H
      obtain ⟨M28, e30, H⟩ := x_bv_of H
      refine x_callV 23 71 2 [(.int (x_i M2 v0 3))] [] dX4_pass_23 (ct_X2_hear l e30) lk_703 lk_704 lk_705 (by decide) h27 lk_87 lk_706 ⟨cn_X2_hear, (by decide), by decide⟩ rfl (Nat.le_of_ble_eq_true rfl) (Nat.le_of_ble_eq_true rfl) (Nat.le_of_ble_eq_true rfl) (x_rv ?_)
      refine x_goto 26 44 dX4_pass_26 (by decide) ?_
      exact x_wk (le_s (le_s (le_n le_0))) (t_X4_pass_44 l H)
  · replace H := x_ifn c5 H
    cases H
    exact x_vret 8 dX4_pass_8 rfl (Nat.le_of_ble_eq_true rfl) (Nat.le_of_ble_eq_true rfl) ⟨rfl, rfl⟩

theorem ct_X4_pass (l : Launch) {v0 : Nat} {v1 : Int32} {v2 : Int32} {M : XM} {q : XM} (H : f_X4_pass v0 v1 v2 M = some q) : Ct l m_X4_pass 3 0 0 [(.ref v0), (.int v1), (.int v2)] M (x_Rv q) := x_met l m_X4_pass 3 0 0 [(.ref v0), (.int v1), (.int v2)] M (x_Rv q) _ rfl rfl (Nat.le_of_ble_eq_true rfl) (t_X4_pass l H)
theorem lk_954 : Cond.code yX4_countThrough cX4_countThrough 3 (some .int) ∈ x_TB := x_tb (k := 954) (by decide +kernel) rfl
theorem lk_951 : Cond.methodLink RX4 78 yX4_countThrough ∈ x_TB := x_tb (k := 951) (by decide +kernel) rfl
theorem lk_953 : Cond.selects RX4 yX4_countThrough yX4_countThrough ∈ x_TB := x_tb (k := 953) (by decide +kernel) rfl
theorem lk_952 : Cond.instanceMethod yX4_countThrough ∈ x_TB := x_tb (k := 952) (by decide +kernel) rfl
theorem lk_959 : Cond.constant RX4 89 (1103515245 : Int32) ∈ x_TB := x_tb (k := 959) (by decide +kernel) rfl
abbrev m_X4_drawThousandth : XU := (yX4_drawThousandth, cX4_drawThousandth, 1, (some .int))
theorem cn_X4_drawThousandth : m_X4_drawThousandth.1.cls ≠ "java/lang/invoke/MethodHandle" ∧ m_X4_drawThousandth.1.cls ≠ "java/lang/invoke/VarHandle" ∧ (parseMethodDescriptor m_X4_drawThousandth.1.desc).map (fun q => q.parameters.length) = some 0 := by decide +kernel
def f_X4_drawThousandth (v0 : Nat) (M : XM) : Option (Int32 × XM) :=
  if x_tag M v0 = 4 + 10 then (x_lt (x_wi M v0 9 (((x_i M v0 9) * (1103515245 : Int32)) + (12345 : Int32))) (fun M2 => some (((((x_i M2 v0 9).toUInt32 >>> ((16 : Int32).toUInt32 &&& Int32.toUInt32 31)).toInt32) - (((x_i M2 v0 9).toUInt32 >>> ((16 : Int32).toUInt32 &&& Int32.toUInt32 31)).toInt32) / (1000 : Int32) * (1000 : Int32)), M2))) else none
set_option maxRecDepth 20000 in
set_option maxHeartbeats 4000000 in
theorem t_X4_drawThousandth (l : Launch) {v0 : Nat} {M : XM} {q : Int32 × XM} (H : f_X4_drawThousandth v0 M = some q) : AW l m_X4_drawThousandth 1 0 0 (x_Ri q) 0 0 0 [some (.ref v0)] [] M := by
  unfold f_X4_drawThousandth at H
  refine x_aload_n 0 0 dX4_drawThousandth_0 rfl rfl ?_
  refine x_aload_n 1 0 dX4_drawThousandth_1 rfl rfl ?_
  obtain ⟨h1, H⟩ := x_ckp H
  refine x_getf 2 34 4 9 (.int (x_i M v0 9)) dX4_drawThousandth_2 lk_183 (by decide) (by decide) rfl (fun _ => rfl) h1 ?_
  refine x_ldc 5 (1103515245 : Int32) dX4_drawThousandth_5 lk_959 ?_
  refine x_imul 7 dX4_drawThousandth_7 ?_
  refine x_sipush 8 (12345 : Int32) dX4_drawThousandth_8 (by decide) ?_
  refine x_iadd 11 dX4_drawThousandth_11 ?_
  obtain ⟨M2, w3, H⟩ := x_lt_of H
  have h4 : x_tag M2 v0 = 4 + 10 := by rw [w3]; exact h1
  refine x_putI' 12 34 4 9 dX4_drawThousandth_12 lk_183 (by decide) (by decide) rfl (Or.inl rfl) (Or.inl rfl) h1 w3 ?_
  refine x_aload_n 15 0 dX4_drawThousandth_15 rfl rfl ?_
  refine x_getf 16 34 4 9 (.int (x_i M2 v0 9)) dX4_drawThousandth_16 lk_183 (by decide) (by decide) rfl (fun _ => rfl) h4 ?_
  refine x_bipush 19 (16 : Int32) dX4_drawThousandth_19 (by decide) ?_
  refine x_iushr 21 dX4_drawThousandth_21 ?_
  refine x_sipush 22 (1000 : Int32) dX4_drawThousandth_22 (by decide) ?_
  refine x_irem 25 dX4_drawThousandth_25 (by decide) ?_
  cases H
  exact x_iret 26 dX4_drawThousandth_26 .int rfl rfl (Nat.le_of_ble_eq_true rfl) (Nat.le_of_ble_eq_true rfl) ⟨rfl, rfl⟩

theorem ct_X4_drawThousandth (l : Launch) {v0 : Nat} {M : XM} {q : Int32 × XM} (H : f_X4_drawThousandth v0 M = some q) : Ct l m_X4_drawThousandth 1 0 0 [(.ref v0)] M (x_Ri q) := x_met l m_X4_drawThousandth 1 0 0 [(.ref v0)] M (x_Ri q) _ rfl rfl (Nat.le_of_ble_eq_true rfl) (t_X4_drawThousandth l H)
theorem lk_958 : Cond.code yX4_drawThousandth cX4_drawThousandth 1 (some .int) ∈ x_TB := x_tb (k := 958) (by decide +kernel) rfl
theorem lk_955 : Cond.methodLink RX4 82 yX4_drawThousandth ∈ x_TB := x_tb (k := 955) (by decide +kernel) rfl
theorem lk_30 : Cond.selects RX4 yX4_drawThousandth yX4_drawThousandth ∈ x_TB := x_tb (k := 30) (by decide +kernel) rfl
theorem lk_957 : Cond.instanceMethod yX4_drawThousandth ∈ x_TB := x_tb (k := 957) (by decide +kernel) rfl
theorem lk_701 : Cond.code yX4_pass cX4_pass 3 none ∈ x_TB := x_tb (k := 701) (by decide +kernel) rfl
theorem lk_960 : Cond.methodLink RX4 85 yX4_pass ∈ x_TB := x_tb (k := 960) (by decide +kernel) rfl
theorem lk_700 : Cond.selects RX4 yX4_pass yX4_pass ∈ x_TB := x_tb (k := 700) (by decide +kernel) rfl
theorem lk_699 : Cond.instanceMethod yX4_pass ∈ x_TB := x_tb (k := 699) (by decide +kernel) rfl
theorem lk_950 : Cond.methodLink RX4 75 yX2_beginAgain ∈ x_TB := x_tb (k := 950) (by decide +kernel) rfl
abbrev m_X4_passEvening : XU := (yX4_passEvening, cX4_passEvening, 3, none)
theorem cn_X4_passEvening : m_X4_passEvening.1.cls ≠ "java/lang/invoke/MethodHandle" ∧ m_X4_passEvening.1.cls ≠ "java/lang/invoke/VarHandle" ∧ (parseMethodDescriptor m_X4_passEvening.1.desc).map (fun q => q.parameters.length) = some 0 := by decide +kernel
def f_X4_passEvening_83 (κ27 : Nat → Int32 → XM → Option XM) (κ46 : Nat → Int32 → Int32 → XM → Option XM) (v0 : Nat) (v1 : Int32) (v2 : Int32) (M : XM) : Option XM :=
  κ46 v0 v1 (v2 + (1 : Int32)) M
set_option maxRecDepth 20000 in
set_option maxHeartbeats 4000000 in
theorem t_X4_passEvening_83 (l : Launch) {κ27 : Nat → Int32 → XM → Option XM} {κ46 : Nat → Int32 → Int32 → XM → Option XM} {v0 : Nat} {v1 : Int32} {v2 : Int32} {M : XM} {q : XM} (hκ27 : ∀ (v0 : Nat) (v1 : Int32) (M : XM), κ27 v0 v1 M = some q → AW l m_X4_passEvening 4 0 0 (x_Rv q) 0 0 27 [some (.ref v0), some (.int v1), none] [] M) (hκ46 : ∀ (v0 : Nat) (v1 : Int32) (v2 : Int32) (M : XM), κ46 v0 v1 v2 M = some q → AW l m_X4_passEvening 4 0 0 (x_Rv q) 0 0 46 [some (.ref v0), some (.int v1), some (.int v2)] [] M) (H : f_X4_passEvening_83 κ27 κ46 v0 v1 v2 M = some q) : AW l m_X4_passEvening 4 0 0 (x_Rv q) 0 0 83 [some (.ref v0), some (.int v1), some (.int v2)] [] M := by
  unfold f_X4_passEvening_83 at H
  refine x_iinc 83 2 (v2 + (1 : Int32)) [some (.ref v0), some (.int v1), some (.int (v2 + (1 : Int32)))] dX4_passEvening_83 rfl (congrArg (fun z : Int32 => v2 + z) (show Int32.ofInt (1) = (1 : Int32) by decide)) rfl (Nat.le_of_ble_eq_true rfl) rfl ?_
  refine x_goto 86 46 dX4_passEvening_86 (by decide) ?_
  exact hκ46 _ _ _ _ H

def f_X4_passEvening_80 (κ27 : Nat → Int32 → XM → Option XM) (κ46 : Nat → Int32 → Int32 → XM → Option XM) (v0 : Nat) (v1 : Int32) (v2 : Int32) (s0 : Int32) (s1 : Int32) (s2 : Nat) (M : XM) : Option XM :=
  if x_tag M s2 = 4 + 10 then (x_bv (f_X4_pass s2 s1 s0 M) (fun M23 => f_X4_passEvening_83 κ27 κ46 v0 v1 v2 M23)) else none
set_option maxRecDepth 20000 in
set_option maxHeartbeats 4000000 in
theorem t_X4_passEvening_80 (l : Launch) {κ27 : Nat → Int32 → XM → Option XM} {κ46 : Nat → Int32 → Int32 → XM → Option XM} {v0 : Nat} {v1 : Int32} {v2 : Int32} {s0 : Int32} {s1 : Int32} {s2 : Nat} {M : XM} {q : XM} (hκ27 : ∀ (v0 : Nat) (v1 : Int32) (M : XM), κ27 v0 v1 M = some q → AW l m_X4_passEvening 4 0 0 (x_Rv q) 0 0 27 [some (.ref v0), some (.int v1), none] [] M) (hκ46 : ∀ (v0 : Nat) (v1 : Int32) (v2 : Int32) (M : XM), κ46 v0 v1 v2 M = some q → AW l m_X4_passEvening 4 0 0 (x_Rv q) 0 0 46 [some (.ref v0), some (.int v1), some (.int v2)] [] M) (H : f_X4_passEvening_80 κ27 κ46 v0 v1 v2 s0 s1 s2 M = some q) : AW l m_X4_passEvening 4 0 0 (x_Rv q) 0 0 80 [some (.ref v0), some (.int v1), some (.int v2)] [(.int s0), (.int s1), (.ref s2)] M := by
  unfold f_X4_passEvening_80 at H
  obtain ⟨h22, H⟩ := x_ckp H
  obtain ⟨M23, e25, H⟩ := x_bv_of H
  refine x_callV 80 85 4 [(.int s1), (.int s0)] [] dX4_passEvening_80 (ct_X4_pass l e25) lk_960 lk_699 lk_700 (by decide) h22 lk_86 lk_701 ⟨cn_X4_pass, (by decide), by decide⟩ rfl (Nat.le_of_ble_eq_true rfl) (Nat.le_of_ble_eq_true rfl) (Nat.le_of_ble_eq_true rfl) (x_rv ?_)
  exact t_X4_passEvening_83 l hκ27 hκ46 H

def bd_X4_passEvening_46 (κ27 : Nat → Int32 → XM → Option XM) (κ46 : Nat → Int32 → Int32 → XM → Option XM) (v0 : Nat) (v1 : Int32) (v2 : Int32) (M : XM) : Option XM :=
  if x_tag M v0 = 4 + 10 then (if (x_i M v0 1) ≤ v2 then (κ27 v0 (v1 + (1 : Int32)) M) else (x_bd (f_X4_isThrough v0 v2 M) (fun r13 M12 => if r13 = 0 then (if x_tag M12 v0 = 4 + 10 then (x_bd (f_X4_drawThousandth v0 M12) (fun r18 M17 => if x_tag M17 v0 = 4 + 10 then (if (x_i M17 v0 4) ≤ r18 then (f_X4_passEvening_80 κ27 κ46 v0 v1 v2 (0 : Int32) v2 v0 M17) else (f_X4_passEvening_80 κ27 κ46 v0 v1 v2 (1 : Int32) v2 v0 M17)) else none)) else none) else (f_X4_passEvening_83 κ27 κ46 v0 v1 v2 M12)))) else none
set_option maxRecDepth 20000 in
set_option maxHeartbeats 4000000 in
theorem tb_X4_passEvening_46 (l : Launch) {κ27 : Nat → Int32 → XM → Option XM} {κ46 : Nat → Int32 → Int32 → XM → Option XM} {v0 : Nat} {v1 : Int32} {v2 : Int32} {M : XM} {q : XM} (hκ27 : ∀ (v0 : Nat) (v1 : Int32) (M : XM), κ27 v0 v1 M = some q → AW l m_X4_passEvening 4 0 0 (x_Rv q) 0 0 27 [some (.ref v0), some (.int v1), none] [] M) (hκ46 : ∀ (v0 : Nat) (v1 : Int32) (v2 : Int32) (M : XM), κ46 v0 v1 v2 M = some q → AW l m_X4_passEvening 4 0 0 (x_Rv q) 0 0 46 [some (.ref v0), some (.int v1), some (.int v2)] [] M) (H : bd_X4_passEvening_46 κ27 κ46 v0 v1 v2 M = some q) : AW l m_X4_passEvening 4 0 0 (x_Rv q) 0 0 46 [some (.ref v0), some (.int v1), some (.int v2)] [] M := by
  unfold bd_X4_passEvening_46 at H
  refine x_iload_n 46 2 dX4_passEvening_46 rfl rfl ?_
  refine x_aload_n 47 0 dX4_passEvening_47 rfl rfl ?_
  obtain ⟨h10, H⟩ := x_ckp H
  refine x_getf 48 42 4 1 (.int (x_i M v0 1)) dX4_passEvening_48 lk_159 (by decide) (by decide) rfl (fun _ => rfl) h10 ?_
  refine x_icmp_ge 51 89 dX4_passEvening_51 (by decide) (fun c11 => ?_) (fun c11 => ?_)
  · replace H := x_ifp c11 H
    refine x_iinc 89 1 (v1 + (1 : Int32)) [some (.ref v0), some (.int (v1 + (1 : Int32))), some (.int v2)] dX4_passEvening_89 rfl (congrArg (fun z : Int32 => v1 + z) (show Int32.ofInt (1) = (1 : Int32) by decide)) rfl (Nat.le_of_ble_eq_true rfl) rfl ?_
    refine x_goto 92 27 dX4_passEvening_92 (by decide) ?_
    exact x_wk (le_s (le_s (le_n le_0))) (hκ27 _ _ _ H)
  · replace H := x_ifn c11 H
    refine x_aload_n 54 0 dX4_passEvening_54 rfl rfl ?_
    refine x_iload_n 55 2 dX4_passEvening_55 rfl rfl ?_
    obtain ⟨r13, M12, e14, H⟩ := x_bd_of H
    refine x_callV 56 67 4 [(.int v2)] [] dX4_passEvening_56 (ct_X4_isThrough l e14) lk_702 lk_695 lk_696 (by decide) h10 lk_86 lk_697 ⟨cn_X4_isThrough, (by decide), by decide⟩ rfl (Nat.le_of_ble_eq_true rfl) (Nat.le_of_ble_eq_true rfl) (Nat.le_of_ble_eq_true rfl) (x_ri ?_)
    refine x_if_ne 59 83 dX4_passEvening_59 (by decide) (fun c15 => ?_) (fun c15 => ?_)
    · replace H := x_ifn c15 H
      exact t_X4_passEvening_83 l hκ27 hκ46 H
    · replace H := x_ifp c15 H
      refine x_aload_n 62 0 dX4_passEvening_62 rfl rfl ?_
      refine x_iload_n 63 2 dX4_passEvening_63 rfl rfl ?_
      refine x_aload_n 64 0 dX4_passEvening_64 rfl rfl ?_
      obtain ⟨h16, H⟩ := x_ckp H
      obtain ⟨r18, M17, e19, H⟩ := x_bd_of H
      refine x_callV 65 82 4 [] [(.int v2), (.ref v0)] dX4_passEvening_65 (ct_X4_drawThousandth l e19) lk_955 lk_957 lk_30 (by decide) h16 lk_86 lk_958 ⟨cn_X4_drawThousandth, (by decide), by decide⟩ rfl (Nat.le_of_ble_eq_true rfl) (Nat.le_of_ble_eq_true rfl) (Nat.le_of_ble_eq_true rfl) (x_ri ?_)
      refine x_aload_n 68 0 dX4_passEvening_68 rfl rfl ?_
      obtain ⟨h20, H⟩ := x_ckp H
      refine x_getf 69 24 4 4 (.int (x_i M17 v0 4)) dX4_passEvening_69 lk_172 (by decide) (by decide) rfl (fun _ => rfl) h20 ?_
      refine x_icmp_ge 72 79 dX4_passEvening_72 (by decide) (fun c21 => ?_) (fun c21 => ?_)
      · replace H := x_ifp c21 H
        refine x_iconst 79 (0 : Int32) dX4_passEvening_79 (by decide) ?_
        exact t_X4_passEvening_80 l hκ27 hκ46 H
      · replace H := x_ifn c21 H
        refine x_iconst 75 (1 : Int32) dX4_passEvening_75 (by decide) ?_
        refine x_goto 76 80 dX4_passEvening_76 (by decide) ?_
        exact t_X4_passEvening_80 l hκ27 hκ46 H

def lp_X4_passEvening_46 (κ27 : Nat → Int32 → XM → Option XM) (n : Nat) : Nat → Int32 → Int32 → XM → Option XM := x_rec (fun _ _ _ _ => none) (bd_X4_passEvening_46 κ27) n
theorem t_X4_passEvening_46 (l : Launch) {κ27 : Nat → Int32 → XM → Option XM} {q : XM} (hκ27 : ∀ (v0 : Nat) (v1 : Int32) (M : XM), κ27 v0 v1 M = some q → AW l m_X4_passEvening 4 0 0 (x_Rv q) 0 0 27 [some (.ref v0), some (.int v1), none] [] M) : ∀ (n : Nat) (v0 : Nat) (v1 : Int32) (v2 : Int32) (M : XM), lp_X4_passEvening_46 κ27 n v0 v1 v2 M = some q → AW l m_X4_passEvening 4 0 0 (x_Rv q) 0 0 46 [some (.ref v0), some (.int v1), some (.int v2)] [] M := by
  intro n
  induction n with
  | zero => intro v0 v1 v2 M H; cases H
  | succ n ih => intro v0 v1 v2 M H; exact tb_X4_passEvening_46 l hκ27 ih H
def bd_X4_passEvening_27 (κ27 : Nat → Int32 → XM → Option XM) (v0 : Nat) (v1 : Int32) (M : XM) : Option XM :=
  if (60 : Int32) ≤ v1 then (some M) else (if x_tag M v0 = 4 + 10 then (x_bd (f_X4_countThrough v0 M) (fun r6 M5 => if x_tag M5 v0 = 4 + 10 then (if (x_i M5 v0 1) ≤ r6 then (some M5) else (lp_X4_passEvening_46 κ27 x_fuel v0 v1 (0 : Int32) M5)) else none)) else none)
set_option maxRecDepth 20000 in
set_option maxHeartbeats 4000000 in
theorem tb_X4_passEvening_27 (l : Launch) {κ27 : Nat → Int32 → XM → Option XM} {v0 : Nat} {v1 : Int32} {M : XM} {q : XM} (hκ27 : ∀ (v0 : Nat) (v1 : Int32) (M : XM), κ27 v0 v1 M = some q → AW l m_X4_passEvening 4 0 0 (x_Rv q) 0 0 27 [some (.ref v0), some (.int v1), none] [] M) (H : bd_X4_passEvening_27 κ27 v0 v1 M = some q) : AW l m_X4_passEvening 4 0 0 (x_Rv q) 0 0 27 [some (.ref v0), some (.int v1), none] [] M := by
  unfold bd_X4_passEvening_27 at H
  refine x_iload_n 27 1 dX4_passEvening_27 rfl rfl ?_
  refine x_bipush 28 (60 : Int32) dX4_passEvening_28 (by decide) ?_
  refine x_icmp_ge 30 95 dX4_passEvening_30 (by decide) (fun c3 => ?_) (fun c3 => ?_)
  · replace H := x_ifp c3 H
    cases H
    exact x_vret 95 dX4_passEvening_95 rfl (Nat.le_of_ble_eq_true rfl) (Nat.le_of_ble_eq_true rfl) ⟨rfl, rfl⟩
  · replace H := x_ifn c3 H
    refine x_aload_n 33 0 dX4_passEvening_33 rfl rfl ?_
    obtain ⟨h4, H⟩ := x_ckp H
    obtain ⟨r6, M5, e7, H⟩ := x_bd_of H
    refine x_callV 34 78 4 [] [] dX4_passEvening_34 (ct_X4_countThrough l e7) lk_951 lk_952 lk_953 (by decide) h4 lk_86 lk_954 ⟨cn_X4_countThrough, (by decide), by decide⟩ rfl (Nat.le_of_ble_eq_true rfl) (Nat.le_of_ble_eq_true rfl) (Nat.le_of_ble_eq_true rfl) (x_ri ?_)
    refine x_aload_n 37 0 dX4_passEvening_37 rfl rfl ?_
    obtain ⟨h8, H⟩ := x_ckp H
    refine x_getf 38 42 4 1 (.int (x_i M5 v0 1)) dX4_passEvening_38 lk_159 (by decide) (by decide) rfl (fun _ => rfl) h8 ?_
    refine x_icmp_ge 41 95 dX4_passEvening_41 (by decide) (fun c9 => ?_) (fun c9 => ?_)
    · replace H := x_ifp c9 H
      cases H
      exact x_vret 95 dX4_passEvening_95 rfl (Nat.le_of_ble_eq_true rfl) (Nat.le_of_ble_eq_true rfl) ⟨rfl, rfl⟩
    · replace H := x_ifn c9 H
      refine x_iconst 44 (0 : Int32) dX4_passEvening_44 (by decide) ?_
      refine x_istore_n 45 2 [some (.ref v0), some (.int v1), some (.int (0 : Int32))] dX4_passEvening_45 rfl rfl (Nat.le_of_ble_eq_true rfl) rfl ?_
      exact t_X4_passEvening_46 l hκ27 _ _ _ _ _ H

def lp_X4_passEvening_27 (n : Nat) : Nat → Int32 → XM → Option XM := x_rec (fun _ _ _ => none) (bd_X4_passEvening_27) n
theorem t_X4_passEvening_27 (l : Launch) {q : XM} : ∀ (n : Nat) (v0 : Nat) (v1 : Int32) (M : XM), lp_X4_passEvening_27 n v0 v1 M = some q → AW l m_X4_passEvening 4 0 0 (x_Rv q) 0 0 27 [some (.ref v0), some (.int v1), none] [] M := by
  intro n
  induction n with
  | zero => intro v0 v1 M H; cases H
  | succ n ih => intro v0 v1 M H; exact tb_X4_passEvening_27 l ih H
def bd_X4_passEvening_2 (κ2 : Nat → Int32 → XM → Option XM) (v0 : Nat) (v1 : Int32) (M : XM) : Option XM :=
  if x_tag M v0 = 4 + 10 then (if (x_i M v0 1) ≤ v1 then (lp_X4_passEvening_27 x_fuel v0 (0 : Int32) M) else (if x_at M (x_r M v0 0) 3 v1 = true then (if x_tag M (x_r M (x_r M v0 0) v1.toNatClampNeg) = 2 + 10 then (x_bv (f_X2_beginAgain (x_r M (x_r M v0 0) v1.toNatClampNeg) M) (fun M28 => κ2 v0 (v1 + (1 : Int32)) M28)) else none) else none)) else none
set_option maxRecDepth 20000 in
set_option maxHeartbeats 4000000 in
theorem tb_X4_passEvening_2 (l : Launch) {κ2 : Nat → Int32 → XM → Option XM} {v0 : Nat} {v1 : Int32} {M : XM} {q : XM} (hκ2 : ∀ (v0 : Nat) (v1 : Int32) (M : XM), κ2 v0 v1 M = some q → AW l m_X4_passEvening 4 0 0 (x_Rv q) 0 0 2 [some (.ref v0), some (.int v1), none] [] M) (H : bd_X4_passEvening_2 κ2 v0 v1 M = some q) : AW l m_X4_passEvening 4 0 0 (x_Rv q) 0 0 2 [some (.ref v0), some (.int v1), none] [] M := by
  unfold bd_X4_passEvening_2 at H
  refine x_iload_n 2 1 dX4_passEvening_2 rfl rfl ?_
  refine x_aload_n 3 0 dX4_passEvening_3 rfl rfl ?_
  obtain ⟨h1, H⟩ := x_ckp H
  refine x_getf 4 42 4 1 (.int (x_i M v0 1)) dX4_passEvening_4 lk_159 (by decide) (by decide) rfl (fun _ => rfl) h1 ?_
  refine x_icmp_ge 7 25 dX4_passEvening_7 (by decide) (fun c2 => ?_) (fun c2 => ?_)
  · replace H := x_ifp c2 H
    refine x_iconst 25 (0 : Int32) dX4_passEvening_25 (by decide) ?_
    refine x_istore_n 26 1 [some (.ref v0), some (.int (0 : Int32)), none] dX4_passEvening_26 rfl rfl (Nat.le_of_ble_eq_true rfl) rfl ?_
    exact t_X4_passEvening_27 l _ _ _ _ H
  · replace H := x_ifn c2 H
    refine x_aload_n 10 0 dX4_passEvening_10 rfl rfl ?_
    refine x_getf 11 11 4 0 (.ref (x_r M v0 0)) dX4_passEvening_11 lk_154 (by decide) (by decide) rfl (fun _ => rfl) h1 ?_
    refine x_iload_n 14 1 dX4_passEvening_14 rfl rfl ?_
    obtain ⟨h26, H⟩ := x_ckp H
    refine x_aald3 15 dX4_passEvening_15 h26 ?_
    obtain ⟨h27, H⟩ := x_ckp H
    obtain ⟨M28, e30, H⟩ := x_bv_of H
    refine x_callV 16 75 2 [] [] dX4_passEvening_16 (ct_X2_beginAgain l e30) lk_950 lk_531 lk_532 (by decide) h27 lk_87 lk_533 ⟨cn_X2_beginAgain, (by decide), by decide⟩ rfl (Nat.le_of_ble_eq_true rfl) (Nat.le_of_ble_eq_true rfl) (Nat.le_of_ble_eq_true rfl) (x_rv ?_)
    refine x_iinc 19 1 (v1 + (1 : Int32)) [some (.ref v0), some (.int (v1 + (1 : Int32))), none] dX4_passEvening_19 rfl (congrArg (fun z : Int32 => v1 + z) (show Int32.ofInt (1) = (1 : Int32) by decide)) rfl (Nat.le_of_ble_eq_true rfl) rfl ?_
    refine x_goto 22 2 dX4_passEvening_22 (by decide) ?_
    exact hκ2 _ _ _ H

def lp_X4_passEvening_2 (n : Nat) : Nat → Int32 → XM → Option XM := x_rec (fun _ _ _ => none) (bd_X4_passEvening_2) n
theorem t_X4_passEvening_2 (l : Launch) {q : XM} : ∀ (n : Nat) (v0 : Nat) (v1 : Int32) (M : XM), lp_X4_passEvening_2 n v0 v1 M = some q → AW l m_X4_passEvening 4 0 0 (x_Rv q) 0 0 2 [some (.ref v0), some (.int v1), none] [] M := by
  intro n
  induction n with
  | zero => intro v0 v1 M H; cases H
  | succ n ih => intro v0 v1 M H; exact tb_X4_passEvening_2 l ih H
def f_X4_passEvening (v0 : Nat) (M : XM) : Option XM :=
  lp_X4_passEvening_2 x_fuel v0 (0 : Int32) M
set_option maxRecDepth 20000 in
set_option maxHeartbeats 4000000 in
theorem t_X4_passEvening (l : Launch) {v0 : Nat} {M : XM} {q : XM} (H : f_X4_passEvening v0 M = some q) : AW l m_X4_passEvening 4 0 0 (x_Rv q) 0 0 0 [some (.ref v0), none, none] [] M := by
  unfold f_X4_passEvening at H
  refine x_iconst 0 (0 : Int32) dX4_passEvening_0 (by decide) ?_
  refine x_istore_n 1 1 [some (.ref v0), some (.int (0 : Int32)), none] dX4_passEvening_1 rfl rfl (Nat.le_of_ble_eq_true rfl) rfl ?_
  exact t_X4_passEvening_2 l _ _ _ _ H

theorem ct_X4_passEvening (l : Launch) {v0 : Nat} {M : XM} {q : XM} (H : f_X4_passEvening v0 M = some q) : Ct l m_X4_passEvening 4 0 0 [(.ref v0)] M (x_Rv q) := x_met l m_X4_passEvening 4 0 0 [(.ref v0)] M (x_Rv q) _ rfl rfl (Nat.le_of_ble_eq_true rfl) (t_X4_passEvening l H)
abbrev m_X4_countAlike : XU := (yX4_countAlike, cX4_countAlike, 4, (some .int))
theorem cn_X4_countAlike : m_X4_countAlike.1.cls ≠ "java/lang/invoke/MethodHandle" ∧ m_X4_countAlike.1.cls ≠ "java/lang/invoke/VarHandle" ∧ (parseMethodDescriptor m_X4_countAlike.1.desc).map (fun q => q.parameters.length) = some 1 := by decide +kernel
def f_X4_countAlike_25 (κ4 : Nat → Int32 → Int32 → Int32 → XM → Option (Int32 × XM)) (v0 : Nat) (v1 : Int32) (v2 : Int32) (v3 : Int32) (M : XM) : Option (Int32 × XM) :=
  κ4 v0 v1 v2 (v3 + (1 : Int32)) M
set_option maxRecDepth 20000 in
set_option maxHeartbeats 4000000 in
theorem t_X4_countAlike_25 (l : Launch) {κ4 : Nat → Int32 → Int32 → Int32 → XM → Option (Int32 × XM)} {v0 : Nat} {v1 : Int32} {v2 : Int32} {v3 : Int32} {M : XM} {q : Int32 × XM} (hκ4 : ∀ (v0 : Nat) (v1 : Int32) (v2 : Int32) (v3 : Int32) (M : XM), κ4 v0 v1 v2 v3 M = some q → AW l m_X4_countAlike 1 0 0 (x_Ri q) 0 0 4 [some (.ref v0), some (.int v1), some (.int v2), some (.int v3)] [] M) (H : f_X4_countAlike_25 κ4 v0 v1 v2 v3 M = some q) : AW l m_X4_countAlike 1 0 0 (x_Ri q) 0 0 25 [some (.ref v0), some (.int v1), some (.int v2), some (.int v3)] [] M := by
  unfold f_X4_countAlike_25 at H
  refine x_iinc 25 3 (v3 + (1 : Int32)) [some (.ref v0), some (.int v1), some (.int v2), some (.int (v3 + (1 : Int32)))] dX4_countAlike_25 rfl (congrArg (fun z : Int32 => v3 + z) (show Int32.ofInt (1) = (1 : Int32) by decide)) rfl (Nat.le_of_ble_eq_true rfl) rfl ?_
  refine x_goto 28 4 dX4_countAlike_28 (by decide) ?_
  exact hκ4 _ _ _ _ _ H

def bd_X4_countAlike_4 (κ4 : Nat → Int32 → Int32 → Int32 → XM → Option (Int32 × XM)) (v0 : Nat) (v1 : Int32) (v2 : Int32) (v3 : Int32) (M : XM) : Option (Int32 × XM) :=
  if x_tag M v0 = 4 + 10 then (if (x_i M v0 7) ≤ v3 then (some (v2, M)) else (if x_at M (x_r M v0 6) 1 v3 = true then (if (x_i M (x_r M v0 6) v3.toNatClampNeg) = v1 then (f_X4_countAlike_25 κ4 v0 v1 (v2 + (1 : Int32)) v3 M) else (f_X4_countAlike_25 κ4 v0 v1 v2 v3 M)) else none)) else none
set_option maxRecDepth 20000 in
set_option maxHeartbeats 4000000 in
theorem tb_X4_countAlike_4 (l : Launch) {κ4 : Nat → Int32 → Int32 → Int32 → XM → Option (Int32 × XM)} {v0 : Nat} {v1 : Int32} {v2 : Int32} {v3 : Int32} {M : XM} {q : Int32 × XM} (hκ4 : ∀ (v0 : Nat) (v1 : Int32) (v2 : Int32) (v3 : Int32) (M : XM), κ4 v0 v1 v2 v3 M = some q → AW l m_X4_countAlike 1 0 0 (x_Ri q) 0 0 4 [some (.ref v0), some (.int v1), some (.int v2), some (.int v3)] [] M) (H : bd_X4_countAlike_4 κ4 v0 v1 v2 v3 M = some q) : AW l m_X4_countAlike 1 0 0 (x_Ri q) 0 0 4 [some (.ref v0), some (.int v1), some (.int v2), some (.int v3)] [] M := by
  unfold bd_X4_countAlike_4 at H
  refine x_iload_n 4 3 dX4_countAlike_4 rfl rfl ?_
  refine x_aload_n 5 0 dX4_countAlike_5 rfl rfl ?_
  obtain ⟨h1, H⟩ := x_ckp H
  refine x_getf 6 45 4 7 (.int (x_i M v0 7)) dX4_countAlike_6 lk_179 (by decide) (by decide) rfl (fun _ => rfl) h1 ?_
  refine x_icmp_ge 9 31 dX4_countAlike_9 (by decide) (fun c2 => ?_) (fun c2 => ?_)
  · replace H := x_ifp c2 H
    refine x_iload_n 31 2 dX4_countAlike_31 rfl rfl ?_
    cases H
    exact x_iret 32 dX4_countAlike_32 .int rfl rfl (Nat.le_of_ble_eq_true rfl) (Nat.le_of_ble_eq_true rfl) ⟨rfl, rfl⟩
  · replace H := x_ifn c2 H
    refine x_aload_n 12 0 dX4_countAlike_12 rfl rfl ?_
    refine x_getf 13 30 4 6 (.ref (x_r M v0 6)) dX4_countAlike_13 lk_177 (by decide) (by decide) rfl (fun _ => rfl) h1 ?_
    refine x_iload_n 16 3 dX4_countAlike_16 rfl rfl ?_
    obtain ⟨h3, H⟩ := x_ckp H
    refine x_iald 17 dX4_countAlike_17 h3 ?_
    refine x_iload_n 18 1 dX4_countAlike_18 rfl rfl ?_
    refine x_icmp_ne 19 25 dX4_countAlike_19 (by decide) (fun c4 => ?_) (fun c4 => ?_)
    · replace H := x_ifn c4 H
      exact t_X4_countAlike_25 l hκ4 H
    · replace H := x_ifp c4 H
      refine x_iinc 22 2 (v2 + (1 : Int32)) [some (.ref v0), some (.int v1), some (.int (v2 + (1 : Int32))), some (.int v3)] dX4_countAlike_22 rfl (congrArg (fun z : Int32 => v2 + z) (show Int32.ofInt (1) = (1 : Int32) by decide)) rfl (Nat.le_of_ble_eq_true rfl) rfl ?_
      exact t_X4_countAlike_25 l hκ4 H

def lp_X4_countAlike_4 (n : Nat) : Nat → Int32 → Int32 → Int32 → XM → Option (Int32 × XM) := x_rec (fun _ _ _ _ _ => none) (bd_X4_countAlike_4) n
theorem t_X4_countAlike_4 (l : Launch) {q : Int32 × XM} : ∀ (n : Nat) (v0 : Nat) (v1 : Int32) (v2 : Int32) (v3 : Int32) (M : XM), lp_X4_countAlike_4 n v0 v1 v2 v3 M = some q → AW l m_X4_countAlike 1 0 0 (x_Ri q) 0 0 4 [some (.ref v0), some (.int v1), some (.int v2), some (.int v3)] [] M := by
  intro n
  induction n with
  | zero => intro v0 v1 v2 v3 M H; cases H
  | succ n ih => intro v0 v1 v2 v3 M H; exact tb_X4_countAlike_4 l ih H
def f_X4_countAlike (v0 : Nat) (v1 : Int32) (M : XM) : Option (Int32 × XM) :=
  lp_X4_countAlike_4 x_fuel v0 v1 (0 : Int32) (0 : Int32) M
set_option maxRecDepth 20000 in
set_option maxHeartbeats 4000000 in
theorem t_X4_countAlike (l : Launch) {v0 : Nat} {v1 : Int32} {M : XM} {q : Int32 × XM} (H : f_X4_countAlike v0 v1 M = some q) : AW l m_X4_countAlike 1 0 0 (x_Ri q) 0 0 0 [some (.ref v0), some (.int v1), none, none] [] M := by
  unfold f_X4_countAlike at H
  refine x_iconst 0 (0 : Int32) dX4_countAlike_0 (by decide) ?_
  refine x_istore_n 1 2 [some (.ref v0), some (.int v1), some (.int (0 : Int32)), none] dX4_countAlike_1 rfl rfl (Nat.le_of_ble_eq_true rfl) rfl ?_
  refine x_iconst 2 (0 : Int32) dX4_countAlike_2 (by decide) ?_
  refine x_istore_n 3 3 [some (.ref v0), some (.int v1), some (.int (0 : Int32)), some (.int (0 : Int32))] dX4_countAlike_3 rfl rfl (Nat.le_of_ble_eq_true rfl) rfl ?_
  exact t_X4_countAlike_4 l _ _ _ _ _ _ H

theorem ct_X4_countAlike (l : Launch) {v0 : Nat} {v1 : Int32} {M : XM} {q : Int32 × XM} (H : f_X4_countAlike v0 v1 M = some q) : Ct l m_X4_countAlike 1 0 0 [(.ref v0), (.int v1)] M (x_Ri q) := x_met l m_X4_countAlike 1 0 0 [(.ref v0), (.int v1)] M (x_Ri q) _ rfl rfl (Nat.le_of_ble_eq_true rfl) (t_X4_countAlike l H)
theorem lk_914 : Cond.code yX4_countAlike cX4_countAlike 4 (some .int) ∈ x_TB := x_tb (k := 914) (by decide +kernel) rfl
theorem lk_911 : Cond.methodLink RX4 90 yX4_countAlike ∈ x_TB := x_tb (k := 911) (by decide +kernel) rfl
theorem lk_29 : Cond.selects RX4 yX4_countAlike yX4_countAlike ∈ x_TB := x_tb (k := 29) (by decide +kernel) rfl
theorem lk_913 : Cond.instanceMethod yX4_countAlike ∈ x_TB := x_tb (k := 913) (by decide +kernel) rfl
abbrev m_X4_leastTrue : XU := (yX4_leastTrue, cX4_leastTrue, 5, (some .int))
theorem cn_X4_leastTrue : m_X4_leastTrue.1.cls ≠ "java/lang/invoke/MethodHandle" ∧ m_X4_leastTrue.1.cls ≠ "java/lang/invoke/VarHandle" ∧ (parseMethodDescriptor m_X4_leastTrue.1.desc).map (fun q => q.parameters.length) = some 0 := by decide +kernel
def f_X4_leastTrue_57 (κ4 : Nat → Int32 → Int32 → XM → Option (Int32 × XM)) (v0 : Nat) (v1 : Int32) (v2 : Int32) (M : XM) : Option (Int32 × XM) :=
  κ4 v0 v1 (v2 + (1 : Int32)) M
set_option maxRecDepth 20000 in
set_option maxHeartbeats 4000000 in
theorem t_X4_leastTrue_57 (l : Launch) {κ4 : Nat → Int32 → Int32 → XM → Option (Int32 × XM)} {v0 : Nat} {v1 : Int32} {v2 : Int32} {M : XM} {q : Int32 × XM} (hκ4 : ∀ (v0 : Nat) (v1 : Int32) (v2 : Int32) (M : XM), κ4 v0 v1 v2 M = some q → AW l m_X4_leastTrue 2 0 0 (x_Ri q) 0 0 4 [some (.ref v0), some (.int v1), some (.int v2), none, none] [] M) (H : f_X4_leastTrue_57 κ4 v0 v1 v2 M = some q) : AW l m_X4_leastTrue 2 0 0 (x_Ri q) 0 0 57 [some (.ref v0), some (.int v1), some (.int v2), none, none] [] M := by
  unfold f_X4_leastTrue_57 at H
  refine x_iinc 57 2 (v2 + (1 : Int32)) [some (.ref v0), some (.int v1), some (.int (v2 + (1 : Int32))), none, none] dX4_leastTrue_57 rfl (congrArg (fun z : Int32 => v2 + z) (show Int32.ofInt (1) = (1 : Int32) by decide)) rfl (Nat.le_of_ble_eq_true rfl) rfl ?_
  refine x_goto 60 4 dX4_leastTrue_60 (by decide) ?_
  exact hκ4 _ _ _ _ H

def f_X4_leastTrue_55 (κ4 : Nat → Int32 → Int32 → XM → Option (Int32 × XM)) (v0 : Nat) (v2 : Int32) (v3 : Int32) (M : XM) : Option (Int32 × XM) :=
  f_X4_leastTrue_57 κ4 v0 v3 v2 M
set_option maxRecDepth 20000 in
set_option maxHeartbeats 4000000 in
theorem t_X4_leastTrue_55 (l : Launch) {κ4 : Nat → Int32 → Int32 → XM → Option (Int32 × XM)} {v0 : Nat} {v2 : Int32} {v3 : Int32} {M : XM} {q : Int32 × XM} (hκ4 : ∀ (v0 : Nat) (v1 : Int32) (v2 : Int32) (M : XM), κ4 v0 v1 v2 M = some q → AW l m_X4_leastTrue 2 0 0 (x_Ri q) 0 0 4 [some (.ref v0), some (.int v1), some (.int v2), none, none] [] M) (H : f_X4_leastTrue_55 κ4 v0 v2 v3 M = some q) : AW l m_X4_leastTrue 2 0 0 (x_Ri q) 0 0 55 [some (.ref v0), none, some (.int v2), some (.int v3), none] [] M := by
  unfold f_X4_leastTrue_55 at H
  refine x_iload_n 55 3 dX4_leastTrue_55 rfl rfl ?_
  refine x_istore_n 56 1 [some (.ref v0), some (.int v3), some (.int v2), some (.int v3), none] dX4_leastTrue_56 rfl rfl (Nat.le_of_ble_eq_true rfl) rfl ?_
  exact x_wk (le_s (le_s (le_s (le_n (le_s le_0))))) (t_X4_leastTrue_57 l hκ4 H)

def f_X4_leastTrue_38 (κ4 : Nat → Int32 → Int32 → XM → Option (Int32 × XM)) (v0 : Nat) (v1 : Int32) (v2 : Int32) (v3 : Int32) (s0 : Int32) (M : XM) : Option (Int32 × XM) :=
  if s0 = 0 then (f_X4_leastTrue_57 κ4 v0 v1 v2 M) else (if v1 = (-1 : Int32) then (f_X4_leastTrue_55 κ4 v0 v2 v3 M) else (if v1 ≤ v3 then (f_X4_leastTrue_57 κ4 v0 v1 v2 M) else (f_X4_leastTrue_55 κ4 v0 v2 v3 M)))
set_option maxRecDepth 20000 in
set_option maxHeartbeats 4000000 in
theorem t_X4_leastTrue_38 (l : Launch) {κ4 : Nat → Int32 → Int32 → XM → Option (Int32 × XM)} {v0 : Nat} {v1 : Int32} {v2 : Int32} {v3 : Int32} {s0 : Int32} {M : XM} {q : Int32 × XM} (hκ4 : ∀ (v0 : Nat) (v1 : Int32) (v2 : Int32) (M : XM), κ4 v0 v1 v2 M = some q → AW l m_X4_leastTrue 2 0 0 (x_Ri q) 0 0 4 [some (.ref v0), some (.int v1), some (.int v2), none, none] [] M) (H : f_X4_leastTrue_38 κ4 v0 v1 v2 v3 s0 M = some q) : AW l m_X4_leastTrue 2 0 0 (x_Ri q) 0 0 38 [some (.ref v0), some (.int v1), some (.int v2), some (.int v3), none] [(.int s0)] M := by
  unfold f_X4_leastTrue_38 at H
  refine x_istore 38 4 [some (.ref v0), some (.int v1), some (.int v2), some (.int v3), some (.int s0)] dX4_leastTrue_38 rfl (Nat.le_of_ble_eq_true rfl) rfl ?_
  refine x_iload 40 4 dX4_leastTrue_40 rfl ?_
  refine x_if_eq 42 57 dX4_leastTrue_42 (by decide) (fun c9 => ?_) (fun c9 => ?_)
  · replace H := x_ifp c9 H
    exact x_wk (le_s (le_s (le_s (le_n (le_n le_0))))) (t_X4_leastTrue_57 l hκ4 H)
  · replace H := x_ifn c9 H
    refine x_iload_n 45 1 dX4_leastTrue_45 rfl rfl ?_
    refine x_iconst 46 (-1 : Int32) dX4_leastTrue_46 (by decide) ?_
    refine x_icmp_eq 47 55 dX4_leastTrue_47 (by decide) (fun c10 => ?_) (fun c10 => ?_)
    · replace H := x_ifp c10 H
      exact x_wk (le_s (le_n (le_s (le_s (le_n le_0))))) (t_X4_leastTrue_55 l hκ4 H)
    · replace H := x_ifn c10 H
      refine x_iload_n 50 3 dX4_leastTrue_50 rfl rfl ?_
      refine x_iload_n 51 1 dX4_leastTrue_51 rfl rfl ?_
      refine x_icmp_ge 52 57 dX4_leastTrue_52 (by decide) (fun c11 => ?_) (fun c11 => ?_)
      · replace H := x_ifp c11 H
        exact x_wk (le_s (le_s (le_s (le_n (le_n le_0))))) (t_X4_leastTrue_57 l hκ4 H)
      · replace H := x_ifn c11 H
        exact x_wk (le_s (le_n (le_s (le_s (le_n le_0))))) (t_X4_leastTrue_55 l hκ4 H)

def bd_X4_leastTrue_4 (κ4 : Nat → Int32 → Int32 → XM → Option (Int32 × XM)) (v0 : Nat) (v1 : Int32) (v2 : Int32) (M : XM) : Option (Int32 × XM) :=
  if x_tag M v0 = 4 + 10 then (if (x_i M v0 7) ≤ v2 then (some (v1, M)) else (if x_at M (x_r M v0 6) 1 v2 = true then (x_bd (f_X4_countAlike v0 (x_i M (x_r M v0 6) v2.toNatClampNeg) M) (fun r5 M4 => if x_tag M4 v0 = 4 + 10 then (if r5 < ((x_i M4 v0 7) - (1 : Int32)) then (f_X4_leastTrue_38 κ4 v0 v1 v2 (x_i M (x_r M v0 6) v2.toNatClampNeg) (0 : Int32) M4) else (f_X4_leastTrue_38 κ4 v0 v1 v2 (x_i M (x_r M v0 6) v2.toNatClampNeg) (1 : Int32) M4)) else none)) else none)) else none
set_option maxRecDepth 20000 in
set_option maxHeartbeats 4000000 in
theorem tb_X4_leastTrue_4 (l : Launch) {κ4 : Nat → Int32 → Int32 → XM → Option (Int32 × XM)} {v0 : Nat} {v1 : Int32} {v2 : Int32} {M : XM} {q : Int32 × XM} (hκ4 : ∀ (v0 : Nat) (v1 : Int32) (v2 : Int32) (M : XM), κ4 v0 v1 v2 M = some q → AW l m_X4_leastTrue 2 0 0 (x_Ri q) 0 0 4 [some (.ref v0), some (.int v1), some (.int v2), none, none] [] M) (H : bd_X4_leastTrue_4 κ4 v0 v1 v2 M = some q) : AW l m_X4_leastTrue 2 0 0 (x_Ri q) 0 0 4 [some (.ref v0), some (.int v1), some (.int v2), none, none] [] M := by
  unfold bd_X4_leastTrue_4 at H
  refine x_iload_n 4 2 dX4_leastTrue_4 rfl rfl ?_
  refine x_aload_n 5 0 dX4_leastTrue_5 rfl rfl ?_
  obtain ⟨h1, H⟩ := x_ckp H
  refine x_getf 6 45 4 7 (.int (x_i M v0 7)) dX4_leastTrue_6 lk_179 (by decide) (by decide) rfl (fun _ => rfl) h1 ?_
  refine x_icmp_ge 9 63 dX4_leastTrue_9 (by decide) (fun c2 => ?_) (fun c2 => ?_)
  · replace H := x_ifp c2 H
    refine x_iload_n 63 1 dX4_leastTrue_63 rfl rfl ?_
    cases H
    exact x_iret 64 dX4_leastTrue_64 .int rfl rfl (Nat.le_of_ble_eq_true rfl) (Nat.le_of_ble_eq_true rfl) ⟨rfl, rfl⟩
  · replace H := x_ifn c2 H
    refine x_aload_n 12 0 dX4_leastTrue_12 rfl rfl ?_
    refine x_getf 13 30 4 6 (.ref (x_r M v0 6)) dX4_leastTrue_13 lk_177 (by decide) (by decide) rfl (fun _ => rfl) h1 ?_
    refine x_iload_n 16 2 dX4_leastTrue_16 rfl rfl ?_
    obtain ⟨h3, H⟩ := x_ckp H
    refine x_iald 17 dX4_leastTrue_17 h3 ?_
    refine x_istore_n 18 3 [some (.ref v0), some (.int v1), some (.int v2), some (.int (x_i M (x_r M v0 6) v2.toNatClampNeg)), none] dX4_leastTrue_18 rfl rfl (Nat.le_of_ble_eq_true rfl) rfl ?_
    refine x_aload_n 19 0 dX4_leastTrue_19 rfl rfl ?_
    refine x_iload_n 20 3 dX4_leastTrue_20 rfl rfl ?_
    obtain ⟨r5, M4, e6, H⟩ := x_bd_of H
    refine x_callV 21 90 4 [(.int (x_i M (x_r M v0 6) v2.toNatClampNeg))] [] dX4_leastTrue_21 (ct_X4_countAlike l e6) lk_911 lk_913 lk_29 (by decide) h1 lk_86 lk_914 ⟨cn_X4_countAlike, (by decide), by decide⟩ rfl (Nat.le_of_ble_eq_true rfl) (Nat.le_of_ble_eq_true rfl) (Nat.le_of_ble_eq_true rfl) (x_ri ?_)
    refine x_aload_n 24 0 dX4_leastTrue_24 rfl rfl ?_
    obtain ⟨h7, H⟩ := x_ckp H
    refine x_getf 25 45 4 7 (.int (x_i M4 v0 7)) dX4_leastTrue_25 lk_179 (by decide) (by decide) rfl (fun _ => rfl) h7 ?_
    refine x_iconst 28 (1 : Int32) dX4_leastTrue_28 (by decide) ?_
    refine x_isub 29 dX4_leastTrue_29 ?_
    refine x_icmp_lt 30 37 dX4_leastTrue_30 (by decide) (fun c8 => ?_) (fun c8 => ?_)
    · replace H := x_ifp c8 H
      refine x_iconst 37 (0 : Int32) dX4_leastTrue_37 (by decide) ?_
      exact t_X4_leastTrue_38 l hκ4 H
    · replace H := x_ifn c8 H
      refine x_iconst 33 (1 : Int32) dX4_leastTrue_33 (by decide) ?_
      refine x_goto 34 38 dX4_leastTrue_34 (by decide) ?_
      exact t_X4_leastTrue_38 l hκ4 H

def lp_X4_leastTrue_4 (n : Nat) : Nat → Int32 → Int32 → XM → Option (Int32 × XM) := x_rec (fun _ _ _ _ => none) (bd_X4_leastTrue_4) n
theorem t_X4_leastTrue_4 (l : Launch) {q : Int32 × XM} : ∀ (n : Nat) (v0 : Nat) (v1 : Int32) (v2 : Int32) (M : XM), lp_X4_leastTrue_4 n v0 v1 v2 M = some q → AW l m_X4_leastTrue 2 0 0 (x_Ri q) 0 0 4 [some (.ref v0), some (.int v1), some (.int v2), none, none] [] M := by
  intro n
  induction n with
  | zero => intro v0 v1 v2 M H; cases H
  | succ n ih => intro v0 v1 v2 M H; exact tb_X4_leastTrue_4 l ih H
def f_X4_leastTrue (v0 : Nat) (M : XM) : Option (Int32 × XM) :=
  lp_X4_leastTrue_4 x_fuel v0 (-1 : Int32) (0 : Int32) M
set_option maxRecDepth 20000 in
set_option maxHeartbeats 4000000 in
theorem t_X4_leastTrue (l : Launch) {v0 : Nat} {M : XM} {q : Int32 × XM} (H : f_X4_leastTrue v0 M = some q) : AW l m_X4_leastTrue 2 0 0 (x_Ri q) 0 0 0 [some (.ref v0), none, none, none, none] [] M := by
  unfold f_X4_leastTrue at H
  refine x_iconst 0 (-1 : Int32) dX4_leastTrue_0 (by decide) ?_
  refine x_istore_n 1 1 [some (.ref v0), some (.int (-1 : Int32)), none, none, none] dX4_leastTrue_1 rfl rfl (Nat.le_of_ble_eq_true rfl) rfl ?_
  refine x_iconst 2 (0 : Int32) dX4_leastTrue_2 (by decide) ?_
  refine x_istore_n 3 2 [some (.ref v0), some (.int (-1 : Int32)), some (.int (0 : Int32)), none, none] dX4_leastTrue_3 rfl rfl (Nat.le_of_ble_eq_true rfl) rfl ?_
  exact t_X4_leastTrue_4 l _ _ _ _ _ H

theorem ct_X4_leastTrue (l : Launch) {v0 : Nat} {M : XM} {q : Int32 × XM} (H : f_X4_leastTrue v0 M = some q) : Ct l m_X4_leastTrue 2 0 0 [(.ref v0)] M (x_Ri q) := x_met l m_X4_leastTrue 2 0 0 [(.ref v0)] M (x_Ri q) _ rfl rfl (Nat.le_of_ble_eq_true rfl) (t_X4_leastTrue l H)
abbrev m_X4_liar : XU := (yX4_liar, cX4_liar, 3, (some .int))
theorem cn_X4_liar : m_X4_liar.1.cls ≠ "java/lang/invoke/MethodHandle" ∧ m_X4_liar.1.cls ≠ "java/lang/invoke/VarHandle" ∧ (parseMethodDescriptor m_X4_liar.1.desc).map (fun q => q.parameters.length) = some 0 := by decide +kernel
def f_X4_liar_61 (κ12 : Nat → Int32 → XM → Option (Int32 × XM)) (v0 : Nat) (v1 : Int32) (M : XM) : Option (Int32 × XM) :=
  κ12 v0 (v1 + (1 : Int32)) M
set_option maxRecDepth 20000 in
set_option maxHeartbeats 4000000 in
theorem t_X4_liar_61 (l : Launch) {κ12 : Nat → Int32 → XM → Option (Int32 × XM)} {v0 : Nat} {v1 : Int32} {M : XM} {q : Int32 × XM} (hκ12 : ∀ (v0 : Nat) (v1 : Int32) (M : XM), κ12 v0 v1 M = some q → AW l m_X4_liar 2 0 0 (x_Ri q) 0 0 12 [some (.ref v0), some (.int v1), none] [] M) (H : f_X4_liar_61 κ12 v0 v1 M = some q) : AW l m_X4_liar 2 0 0 (x_Ri q) 0 0 61 [some (.ref v0), some (.int v1), none] [] M := by
  unfold f_X4_liar_61 at H
  refine x_iinc 61 1 (v1 + (1 : Int32)) [some (.ref v0), some (.int (v1 + (1 : Int32))), none] dX4_liar_61 rfl (congrArg (fun z : Int32 => v1 + z) (show Int32.ofInt (1) = (1 : Int32) by decide)) rfl (Nat.le_of_ble_eq_true rfl) rfl ?_
  refine x_goto 64 12 dX4_liar_64 (by decide) ?_
  exact hκ12 _ _ _ H

def f_X4_liar_33 (κ12 : Nat → Int32 → XM → Option (Int32 × XM)) (v0 : Nat) (v1 : Int32) (s0 : Int32) (s1 : Nat) (M : XM) : Option (Int32 × XM) :=
  if x_at M s1 1 s0 = true then (if x_tag M v0 = 4 + 10 then (if x_at M (x_r M v0 6) 1 v1 = true then (if (x_i M (x_r M v0 6) v1.toNatClampNeg) = (x_i M s1 s0.toNatClampNeg) then (f_X4_liar_61 κ12 v0 v1 M) else (x_bd (f_X4_countAlike v0 (x_i M s1 s0.toNatClampNeg) M) (fun r11 M10 => if x_tag M10 v0 = 4 + 10 then (if r11 = ((x_i M10 v0 7) - (1 : Int32)) then (some (v1, M10)) else (f_X4_liar_61 κ12 v0 v1 M10)) else none))) else none) else none) else none
set_option maxRecDepth 20000 in
set_option maxHeartbeats 4000000 in
theorem t_X4_liar_33 (l : Launch) {κ12 : Nat → Int32 → XM → Option (Int32 × XM)} {v0 : Nat} {v1 : Int32} {s0 : Int32} {s1 : Nat} {M : XM} {q : Int32 × XM} (hκ12 : ∀ (v0 : Nat) (v1 : Int32) (M : XM), κ12 v0 v1 M = some q → AW l m_X4_liar 2 0 0 (x_Ri q) 0 0 12 [some (.ref v0), some (.int v1), none] [] M) (H : f_X4_liar_33 κ12 v0 v1 s0 s1 M = some q) : AW l m_X4_liar 2 0 0 (x_Ri q) 0 0 33 [some (.ref v0), some (.int v1), none] [(.int s0), (.ref s1)] M := by
  unfold f_X4_liar_33 at H
  obtain ⟨h6, H⟩ := x_ckp H
  refine x_iald 33 dX4_liar_33 h6 ?_
  refine x_istore_n 34 2 [some (.ref v0), some (.int v1), some (.int (x_i M s1 s0.toNatClampNeg))] dX4_liar_34 rfl rfl (Nat.le_of_ble_eq_true rfl) rfl ?_
  refine x_aload_n 35 0 dX4_liar_35 rfl rfl ?_
  obtain ⟨h7, H⟩ := x_ckp H
  refine x_getf 36 30 4 6 (.ref (x_r M v0 6)) dX4_liar_36 lk_177 (by decide) (by decide) rfl (fun _ => rfl) h7 ?_
  refine x_iload_n 39 1 dX4_liar_39 rfl rfl ?_
  obtain ⟨h8, H⟩ := x_ckp H
  refine x_iald 40 dX4_liar_40 h8 ?_
  refine x_iload_n 41 2 dX4_liar_41 rfl rfl ?_
  refine x_icmp_eq 42 61 dX4_liar_42 (by decide) (fun c9 => ?_) (fun c9 => ?_)
  · replace H := x_ifp c9 H
    exact x_wk (le_s (le_s (le_n le_0))) (t_X4_liar_61 l hκ12 H)
  · replace H := x_ifn c9 H
    refine x_aload_n 45 0 dX4_liar_45 rfl rfl ?_
    refine x_iload_n 46 2 dX4_liar_46 rfl rfl ?_
    obtain ⟨r11, M10, e12, H⟩ := x_bd_of H
    refine x_callV 47 90 4 [(.int (x_i M s1 s0.toNatClampNeg))] [] dX4_liar_47 (ct_X4_countAlike l e12) lk_911 lk_913 lk_29 (by decide) h7 lk_86 lk_914 ⟨cn_X4_countAlike, (by decide), by decide⟩ rfl (Nat.le_of_ble_eq_true rfl) (Nat.le_of_ble_eq_true rfl) (Nat.le_of_ble_eq_true rfl) (x_ri ?_)
    refine x_aload_n 50 0 dX4_liar_50 rfl rfl ?_
    obtain ⟨h13, H⟩ := x_ckp H
    refine x_getf 51 45 4 7 (.int (x_i M10 v0 7)) dX4_liar_51 lk_179 (by decide) (by decide) rfl (fun _ => rfl) h13 ?_
    refine x_iconst 54 (1 : Int32) dX4_liar_54 (by decide) ?_
    refine x_isub 55 dX4_liar_55 ?_
    refine x_icmp_ne 56 61 dX4_liar_56 (by decide) (fun c14 => ?_) (fun c14 => ?_)
    · replace H := x_ifn c14 H
      exact x_wk (le_s (le_s (le_n le_0))) (t_X4_liar_61 l hκ12 H)
    · replace H := x_ifp c14 H
      refine x_iload_n 59 1 dX4_liar_59 rfl rfl ?_
      cases H
      exact x_iret 60 dX4_liar_60 .int rfl rfl (Nat.le_of_ble_eq_true rfl) (Nat.le_of_ble_eq_true rfl) ⟨rfl, rfl⟩

def bd_X4_liar_12 (κ12 : Nat → Int32 → XM → Option (Int32 × XM)) (v0 : Nat) (v1 : Int32) (M : XM) : Option (Int32 × XM) :=
  if x_tag M v0 = 4 + 10 then (if (x_i M v0 7) ≤ v1 then (some ((-1 : Int32), M)) else (if v1 = 0 then (f_X4_liar_33 κ12 v0 v1 (1 : Int32) (x_r M v0 6) M) else (f_X4_liar_33 κ12 v0 v1 (0 : Int32) (x_r M v0 6) M))) else none
set_option maxRecDepth 20000 in
set_option maxHeartbeats 4000000 in
theorem tb_X4_liar_12 (l : Launch) {κ12 : Nat → Int32 → XM → Option (Int32 × XM)} {v0 : Nat} {v1 : Int32} {M : XM} {q : Int32 × XM} (hκ12 : ∀ (v0 : Nat) (v1 : Int32) (M : XM), κ12 v0 v1 M = some q → AW l m_X4_liar 2 0 0 (x_Ri q) 0 0 12 [some (.ref v0), some (.int v1), none] [] M) (H : bd_X4_liar_12 κ12 v0 v1 M = some q) : AW l m_X4_liar 2 0 0 (x_Ri q) 0 0 12 [some (.ref v0), some (.int v1), none] [] M := by
  unfold bd_X4_liar_12 at H
  refine x_iload_n 12 1 dX4_liar_12 rfl rfl ?_
  refine x_aload_n 13 0 dX4_liar_13 rfl rfl ?_
  obtain ⟨h3, H⟩ := x_ckp H
  refine x_getf 14 45 4 7 (.int (x_i M v0 7)) dX4_liar_14 lk_179 (by decide) (by decide) rfl (fun _ => rfl) h3 ?_
  refine x_icmp_ge 17 67 dX4_liar_17 (by decide) (fun c4 => ?_) (fun c4 => ?_)
  · replace H := x_ifp c4 H
    refine x_iconst 67 (-1 : Int32) dX4_liar_67 (by decide) ?_
    cases H
    exact x_iret 68 dX4_liar_68 .int rfl rfl (Nat.le_of_ble_eq_true rfl) (Nat.le_of_ble_eq_true rfl) ⟨rfl, rfl⟩
  · replace H := x_ifn c4 H
    refine x_aload_n 20 0 dX4_liar_20 rfl rfl ?_
    refine x_getf 21 30 4 6 (.ref (x_r M v0 6)) dX4_liar_21 lk_177 (by decide) (by decide) rfl (fun _ => rfl) h3 ?_
    refine x_iload_n 24 1 dX4_liar_24 rfl rfl ?_
    refine x_if_ne 25 32 dX4_liar_25 (by decide) (fun c5 => ?_) (fun c5 => ?_)
    · replace H := x_ifn c5 H
      refine x_iconst 32 (0 : Int32) dX4_liar_32 (by decide) ?_
      exact t_X4_liar_33 l hκ12 H
    · replace H := x_ifp c5 H
      refine x_iconst 28 (1 : Int32) dX4_liar_28 (by decide) ?_
      refine x_goto 29 33 dX4_liar_29 (by decide) ?_
      exact t_X4_liar_33 l hκ12 H

def lp_X4_liar_12 (n : Nat) : Nat → Int32 → XM → Option (Int32 × XM) := x_rec (fun _ _ _ => none) (bd_X4_liar_12) n
theorem t_X4_liar_12 (l : Launch) {q : Int32 × XM} : ∀ (n : Nat) (v0 : Nat) (v1 : Int32) (M : XM), lp_X4_liar_12 n v0 v1 M = some q → AW l m_X4_liar 2 0 0 (x_Ri q) 0 0 12 [some (.ref v0), some (.int v1), none] [] M := by
  intro n
  induction n with
  | zero => intro v0 v1 M H; cases H
  | succ n ih => intro v0 v1 M H; exact tb_X4_liar_12 l ih H
def f_X4_liar (v0 : Nat) (M : XM) : Option (Int32 × XM) :=
  if x_tag M v0 = 4 + 10 then (if (3 : Int32) ≤ (x_i M v0 7) then (lp_X4_liar_12 x_fuel v0 (0 : Int32) M) else (some ((-1 : Int32), M))) else none
set_option maxRecDepth 20000 in
set_option maxHeartbeats 4000000 in
theorem t_X4_liar (l : Launch) {v0 : Nat} {M : XM} {q : Int32 × XM} (H : f_X4_liar v0 M = some q) : AW l m_X4_liar 2 0 0 (x_Ri q) 0 0 0 [some (.ref v0), none, none] [] M := by
  unfold f_X4_liar at H
  refine x_aload_n 0 0 dX4_liar_0 rfl rfl ?_
  obtain ⟨h1, H⟩ := x_ckp H
  refine x_getf 1 45 4 7 (.int (x_i M v0 7)) dX4_liar_1 lk_179 (by decide) (by decide) rfl (fun _ => rfl) h1 ?_
  refine x_iconst 4 (3 : Int32) dX4_liar_4 (by decide) ?_
  refine x_icmp_ge 5 10 dX4_liar_5 (by decide) (fun c2 => ?_) (fun c2 => ?_)
  · replace H := x_ifp c2 H
    refine x_iconst 10 (0 : Int32) dX4_liar_10 (by decide) ?_
    refine x_istore_n 11 1 [some (.ref v0), some (.int (0 : Int32)), none] dX4_liar_11 rfl rfl (Nat.le_of_ble_eq_true rfl) rfl ?_
    exact t_X4_liar_12 l _ _ _ _ H
  · replace H := x_ifn c2 H
    refine x_iconst 8 (-1 : Int32) dX4_liar_8 (by decide) ?_
    cases H
    exact x_iret 9 dX4_liar_9 .int rfl rfl (Nat.le_of_ble_eq_true rfl) (Nat.le_of_ble_eq_true rfl) ⟨rfl, rfl⟩

theorem ct_X4_liar (l : Launch) {v0 : Nat} {M : XM} {q : Int32 × XM} (H : f_X4_liar v0 M = some q) : Ct l m_X4_liar 2 0 0 [(.ref v0)] M (x_Ri q) := x_met l m_X4_liar 2 0 0 [(.ref v0)] M (x_Ri q) _ rfl rfl (Nat.le_of_ble_eq_true rfl) (t_X4_liar l H)
theorem lk_923 : Cond.methodLink RX4 94 Lib.Math.max.name ∈ x_TB := x_tb (k := 923) (by decide +kernel) rfl
abbrev m_X4_spread : XU := (yX4_spread, cX4_spread, 4, (some .int))
theorem cn_X4_spread : m_X4_spread.1.cls ≠ "java/lang/invoke/MethodHandle" ∧ m_X4_spread.1.cls ≠ "java/lang/invoke/VarHandle" ∧ (parseMethodDescriptor m_X4_spread.1.desc).map (fun q => q.parameters.length) = some 0 := by decide +kernel
def bd_X4_spread_25 (κ25 : Nat → Int32 → Int32 → Int32 → XM → Option (Int32 × XM)) (v0 : Nat) (v1 : Int32) (v2 : Int32) (v3 : Int32) (M : XM) : Option (Int32 × XM) :=
  if x_tag M v0 = 4 + 10 then (if (x_i M v0 7) ≤ v3 then (some ((v2 - v1), M)) else (if x_at M (x_r M v0 6) 1 v3 = true then (κ25 v0 (if (x_i M (x_r M v0 6) v3.toNatClampNeg) < v1 then (x_i M (x_r M v0 6) v3.toNatClampNeg) else v1) (if v2 < (x_i M (x_r M v0 6) v3.toNatClampNeg) then (x_i M (x_r M v0 6) v3.toNatClampNeg) else v2) (v3 + (1 : Int32)) M) else none)) else none
set_option maxRecDepth 20000 in
set_option maxHeartbeats 4000000 in
theorem tb_X4_spread_25 (l : Launch) {κ25 : Nat → Int32 → Int32 → Int32 → XM → Option (Int32 × XM)} {v0 : Nat} {v1 : Int32} {v2 : Int32} {v3 : Int32} {M : XM} {q : Int32 × XM} (hκ25 : ∀ (v0 : Nat) (v1 : Int32) (v2 : Int32) (v3 : Int32) (M : XM), κ25 v0 v1 v2 v3 M = some q → AW l m_X4_spread 1 0 0 (x_Ri q) 0 0 25 [some (.ref v0), some (.int v1), some (.int v2), some (.int v3)] [] M) (H : bd_X4_spread_25 κ25 v0 v1 v2 v3 M = some q) : AW l m_X4_spread 1 0 0 (x_Ri q) 0 0 25 [some (.ref v0), some (.int v1), some (.int v2), some (.int v3)] [] M := by
  unfold bd_X4_spread_25 at H
  refine x_iload_n 25 3 dX4_spread_25 rfl rfl ?_
  refine x_aload_n 26 0 dX4_spread_26 rfl rfl ?_
  obtain ⟨h4, H⟩ := x_ckp H
  refine x_getf 27 45 4 7 (.int (x_i M v0 7)) dX4_spread_27 lk_179 (by decide) (by decide) rfl (fun _ => rfl) h4 ?_
  refine x_icmp_ge 30 61 dX4_spread_30 (by decide) (fun c5 => ?_) (fun c5 => ?_)
  · replace H := x_ifp c5 H
    refine x_iload_n 61 2 dX4_spread_61 rfl rfl ?_
    refine x_iload_n 62 1 dX4_spread_62 rfl rfl ?_
    refine x_isub 63 dX4_spread_63 ?_
    cases H
    exact x_iret 64 dX4_spread_64 .int rfl rfl (Nat.le_of_ble_eq_true rfl) (Nat.le_of_ble_eq_true rfl) ⟨rfl, rfl⟩
  · replace H := x_ifn c5 H
    refine x_iload_n 33 1 dX4_spread_33 rfl rfl ?_
    refine x_aload_n 34 0 dX4_spread_34 rfl rfl ?_
    refine x_getf 35 30 4 6 (.ref (x_r M v0 6)) dX4_spread_35 lk_177 (by decide) (by decide) rfl (fun _ => rfl) h4 ?_
    refine x_iload_n 38 3 dX4_spread_38 rfl rfl ?_
    obtain ⟨h6, H⟩ := x_ckp H
    refine x_iald 39 dX4_spread_39 h6 ?_
    refine x_min 40 61 dX4_spread_40 lk_557 lk_558 lk_97 lk_559 rfl (Nat.le_of_ble_eq_true rfl) (by decide) (Nat.le_of_ble_eq_true rfl) (Nat.le_of_ble_eq_true rfl) ?_
    refine x_istore_n 43 1 [some (.ref v0), some (.int (if (x_i M (x_r M v0 6) v3.toNatClampNeg) < v1 then (x_i M (x_r M v0 6) v3.toNatClampNeg) else v1)), some (.int v2), some (.int v3)] dX4_spread_43 rfl rfl (Nat.le_of_ble_eq_true rfl) rfl ?_
    refine x_iload_n 44 2 dX4_spread_44 rfl rfl ?_
    refine x_aload_n 45 0 dX4_spread_45 rfl rfl ?_
    refine x_getf 46 30 4 6 (.ref (x_r M v0 6)) dX4_spread_46 lk_177 (by decide) (by decide) rfl (fun _ => rfl) h4 ?_
    refine x_iload_n 49 3 dX4_spread_49 rfl rfl ?_
    refine x_iald 50 dX4_spread_50 h6 ?_
    refine x_max 51 94 dX4_spread_51 lk_923 lk_657 lk_97 lk_658 rfl (Nat.le_of_ble_eq_true rfl) (by decide) (Nat.le_of_ble_eq_true rfl) (Nat.le_of_ble_eq_true rfl) ?_
    refine x_istore_n 54 2 [some (.ref v0), some (.int (if (x_i M (x_r M v0 6) v3.toNatClampNeg) < v1 then (x_i M (x_r M v0 6) v3.toNatClampNeg) else v1)), some (.int (if v2 < (x_i M (x_r M v0 6) v3.toNatClampNeg) then (x_i M (x_r M v0 6) v3.toNatClampNeg) else v2)), some (.int v3)] dX4_spread_54 rfl rfl (Nat.le_of_ble_eq_true rfl) rfl ?_
    refine x_iinc 55 3 (v3 + (1 : Int32)) [some (.ref v0), some (.int (if (x_i M (x_r M v0 6) v3.toNatClampNeg) < v1 then (x_i M (x_r M v0 6) v3.toNatClampNeg) else v1)), some (.int (if v2 < (x_i M (x_r M v0 6) v3.toNatClampNeg) then (x_i M (x_r M v0 6) v3.toNatClampNeg) else v2)), some (.int (v3 + (1 : Int32)))] dX4_spread_55 rfl (congrArg (fun z : Int32 => v3 + z) (show Int32.ofInt (1) = (1 : Int32) by decide)) rfl (Nat.le_of_ble_eq_true rfl) rfl ?_
    refine x_goto 58 25 dX4_spread_58 (by decide) ?_
    exact hκ25 _ _ _ _ _ H

def lp_X4_spread_25 (n : Nat) : Nat → Int32 → Int32 → Int32 → XM → Option (Int32 × XM) := x_rec (fun _ _ _ _ _ => none) (bd_X4_spread_25) n
theorem t_X4_spread_25 (l : Launch) {q : Int32 × XM} : ∀ (n : Nat) (v0 : Nat) (v1 : Int32) (v2 : Int32) (v3 : Int32) (M : XM), lp_X4_spread_25 n v0 v1 v2 v3 M = some q → AW l m_X4_spread 1 0 0 (x_Ri q) 0 0 25 [some (.ref v0), some (.int v1), some (.int v2), some (.int v3)] [] M := by
  intro n
  induction n with
  | zero => intro v0 v1 v2 v3 M H; cases H
  | succ n ih => intro v0 v1 v2 v3 M H; exact tb_X4_spread_25 l ih H
def f_X4_spread (v0 : Nat) (M : XM) : Option (Int32 × XM) :=
  if x_tag M v0 = 4 + 10 then (if (x_i M v0 7) = 0 then (some ((0 : Int32), M)) else (if x_at M (x_r M v0 6) 1 (0 : Int32) = true then (lp_X4_spread_25 x_fuel v0 (x_i M (x_r M v0 6) (0 : Int32).toNatClampNeg) (x_i M (x_r M v0 6) (0 : Int32).toNatClampNeg) (1 : Int32) M) else none)) else none
set_option maxRecDepth 20000 in
set_option maxHeartbeats 4000000 in
theorem t_X4_spread (l : Launch) {v0 : Nat} {M : XM} {q : Int32 × XM} (H : f_X4_spread v0 M = some q) : AW l m_X4_spread 1 0 0 (x_Ri q) 0 0 0 [some (.ref v0), none, none, none] [] M := by
  unfold f_X4_spread at H
  refine x_aload_n 0 0 dX4_spread_0 rfl rfl ?_
  obtain ⟨h1, H⟩ := x_ckp H
  refine x_getf 1 45 4 7 (.int (x_i M v0 7)) dX4_spread_1 lk_179 (by decide) (by decide) rfl (fun _ => rfl) h1 ?_
  refine x_if_ne 4 9 dX4_spread_4 (by decide) (fun c2 => ?_) (fun c2 => ?_)
  · replace H := x_ifn c2 H
    refine x_aload_n 9 0 dX4_spread_9 rfl rfl ?_
    refine x_getf 10 30 4 6 (.ref (x_r M v0 6)) dX4_spread_10 lk_177 (by decide) (by decide) rfl (fun _ => rfl) h1 ?_
    refine x_iconst 13 (0 : Int32) dX4_spread_13 (by decide) ?_
    obtain ⟨h3, H⟩ := x_ckp H
    refine x_iald 14 dX4_spread_14 h3 ?_
    refine x_istore_n 15 1 [some (.ref v0), some (.int (x_i M (x_r M v0 6) (0 : Int32).toNatClampNeg)), none, none] dX4_spread_15 rfl rfl (Nat.le_of_ble_eq_true rfl) rfl ?_
    refine x_aload_n 16 0 dX4_spread_16 rfl rfl ?_
    refine x_getf 17 30 4 6 (.ref (x_r M v0 6)) dX4_spread_17 lk_177 (by decide) (by decide) rfl (fun _ => rfl) h1 ?_
    refine x_iconst 20 (0 : Int32) dX4_spread_20 (by decide) ?_
    refine x_iald 21 dX4_spread_21 h3 ?_
    refine x_istore_n 22 2 [some (.ref v0), some (.int (x_i M (x_r M v0 6) (0 : Int32).toNatClampNeg)), some (.int (x_i M (x_r M v0 6) (0 : Int32).toNatClampNeg)), none] dX4_spread_22 rfl rfl (Nat.le_of_ble_eq_true rfl) rfl ?_
    refine x_iconst 23 (1 : Int32) dX4_spread_23 (by decide) ?_
    refine x_istore_n 24 3 [some (.ref v0), some (.int (x_i M (x_r M v0 6) (0 : Int32).toNatClampNeg)), some (.int (x_i M (x_r M v0 6) (0 : Int32).toNatClampNeg)), some (.int (1 : Int32))] dX4_spread_24 rfl rfl (Nat.le_of_ble_eq_true rfl) rfl ?_
    exact t_X4_spread_25 l _ _ _ _ _ _ H
  · replace H := x_ifp c2 H
    refine x_iconst 7 (0 : Int32) dX4_spread_7 (by decide) ?_
    cases H
    exact x_iret 8 dX4_spread_8 .int rfl rfl (Nat.le_of_ble_eq_true rfl) (Nat.le_of_ble_eq_true rfl) ⟨rfl, rfl⟩

theorem ct_X4_spread (l : Launch) {v0 : Nat} {M : XM} {q : Int32 × XM} (H : f_X4_spread v0 M = some q) : Ct l m_X4_spread 1 0 0 [(.ref v0)] M (x_Ri q) := x_met l m_X4_spread 1 0 0 [(.ref v0)] M (x_Ri q) _ rfl rfl (Nat.le_of_ble_eq_true rfl) (t_X4_spread l H)
theorem lk_211 : Cond.methodLink RX5 3 Lib.objectInit ∈ x_TB := x_tb (k := 211) (by decide +kernel) rfl
theorem lk_212 : Cond.fieldLink RX5 9 RX5 "fault" "I" ∈ x_TB := x_tb (k := 212) (by decide +kernel) rfl
theorem lk_215 : Cond.fieldLink RX5 15 RX5 "letters" "[I" ∈ x_TB := x_tb (k := 215) (by decide +kernel) rfl
theorem lk_214 : Cond.fieldLink RX5 19 RX5 "over" "LWhatDidYouSay$Room;" ∈ x_TB := x_tb (k := 214) (by decide +kernel) rfl
abbrev m_X5_init : XU := (yX5_init, cX5_init, 2, none)
theorem cn_X5_init : m_X5_init.1.cls ≠ "java/lang/invoke/MethodHandle" ∧ m_X5_init.1.cls ≠ "java/lang/invoke/VarHandle" ∧ (parseMethodDescriptor m_X5_init.1.desc).map (fun q => q.parameters.length) = some 1 := by decide +kernel
def f_X5_init (v0 : Nat) (v1 : Nat) (M : XM) : Option XM :=
  if x_tag M v0 = 5 + 10 then (x_lt (x_wi M v0 0 (-1 : Int32)) (fun M2 => x_al M2 1 160 (fun a6 M5 => if x_tag M5 v0 = 5 + 10 then (x_lt (x_wr M5 v0 2 a6) (fun M11 => x_lt (x_wr M11 v0 1 v1) (fun M15 => some M15))) else none))) else none
set_option maxRecDepth 20000 in
set_option maxHeartbeats 4000000 in
theorem t_X5_init (l : Launch) {v0 : Nat} {v1 : Nat} {M : XM} {q : XM} (H : f_X5_init v0 v1 M = some q) : AW l m_X5_init 1 1 160 (x_Rv q) 0 0 0 [some (.ref v0), some (.ref v1)] [] M := by
  unfold f_X5_init at H
  refine x_aload_n 0 0 dX5_init_0 rfl rfl ?_
  obtain ⟨h1, H⟩ := x_ckp H
  refine x_objInit 1 3 dX5_init_1 lk_211 lk_108 lk_109 h1 rfl (Nat.le_of_ble_eq_true rfl) (by decide) ?_
  refine x_aload_n 4 0 dX5_init_4 rfl rfl ?_
  refine x_iconst 5 (-1 : Int32) dX5_init_5 (by decide) ?_
  obtain ⟨M2, w3, H⟩ := x_lt_of H
  have h4 : x_tag M2 v0 = 5 + 10 := by rw [w3]; exact h1
  refine x_putI' 6 9 5 0 dX5_init_6 lk_212 (by decide) (by decide) rfl (Or.inl rfl) (Or.inl rfl) h1 w3 ?_
  refine x_aload_n 9 0 dX5_init_9 rfl rfl ?_
  refine x_sipush 10 (160 : Int32) dX5_init_10 (by decide) ?_
  obtain ⟨a6, M5, w7, w8, H⟩ := x_al_of H
  refine x_newI' 13 160 dX5_init_13 lk_153 (by decide) (by decide) (by decide) (Nat.le_of_ble_eq_true rfl) (Nat.le_of_ble_eq_true rfl) w7 w8 ?_
  have h9 : x_tag M5 a6 = 1 := x_al_tag w7 w8
  change AW _ _ _ _ _ _ 1 160 _ _ _ _
  obtain ⟨h10, H⟩ := x_ckp H
  obtain ⟨M11, w12, H⟩ := x_lt_of H
  have h13 : x_tag M11 a6 = 1 := by rw [w12]; exact h9
  have h14 : x_tag M11 v0 = 5 + 10 := by rw [w12]; exact h10
  refine x_putR' 15 15 5 2 dX5_init_15 lk_215 (by decide) (by decide) rfl (Or.inr ⟨_, rfl⟩) (Or.inr ⟨rfl, rfl⟩) h10 w12 ?_
  refine x_aload_n 18 0 dX5_init_18 rfl rfl ?_
  refine x_aload_n 19 1 dX5_init_19 rfl rfl ?_
  obtain ⟨M15, w16, H⟩ := x_lt_of H
  have h17 : x_tag M15 a6 = 1 := by rw [w16]; exact h13
  have h18 : x_tag M15 v0 = 5 + 10 := by rw [w16]; exact h14
  refine x_putR' 20 19 5 1 dX5_init_20 lk_214 (by decide) (by decide) rfl (Or.inl ⟨_, rfl⟩) (Or.inr ⟨rfl, rfl⟩) h14 w16 ?_
  cases H
  exact x_vret 23 dX5_init_23 rfl (Nat.le_of_ble_eq_true rfl) (Nat.le_of_ble_eq_true rfl) ⟨rfl, rfl⟩

theorem ct_X5_init (l : Launch) {v0 : Nat} {v1 : Nat} {M : XM} {q : XM} (H : f_X5_init v0 v1 M = some q) : Ct l m_X5_init 1 1 160 [(.ref v0), (.ref v1)] M (x_Rv q) := x_met l m_X5_init 1 1 160 [(.ref v0), (.ref v1)] M (x_Rv q) _ rfl rfl (Nat.le_of_ble_eq_true rfl) (t_X5_init l H)
theorem lk_343 : Cond.fieldLink RX5 23 RX6 "length" "I" ∈ x_TB := x_tb (k := 343) (by decide +kernel) rfl
theorem lk_580 : Cond.methodLink RX5 28 Lib.Math.min.name ∈ x_TB := x_tb (k := 580) (by decide +kernel) rfl
theorem lk_216 : Cond.fieldLink RX5 34 RX5 "length" "I" ∈ x_TB := x_tb (k := 216) (by decide +kernel) rfl
theorem lk_217 : Cond.fieldLink RX5 39 RX5 "place" "I" ∈ x_TB := x_tb (k := 217) (by decide +kernel) rfl
abbrev m_X5_nameOf : XU := (yX5_nameOf, cX5_nameOf, 1, (some (.object "java/lang/String")))
theorem cn_X5_nameOf : m_X5_nameOf.1.cls ≠ "java/lang/invoke/MethodHandle" ∧ m_X5_nameOf.1.cls ≠ "java/lang/invoke/VarHandle" ∧ (parseMethodDescriptor m_X5_nameOf.1.desc).map (fun q => q.parameters.length) = some 1 := by decide +kernel
def f_X5_nameOf (v0 : Int32) (M : XM) : Option (Nat × XM) :=
  if v0 = (0 : Int32) then (some (5, M)) else if v0 = (1 : Int32) then (some (6, M)) else if v0 = (2 : Int32) then (some (7, M)) else if v0 = (3 : Int32) then (some (8, M)) else if v0 = (4 : Int32) then (some (9, M)) else if v0 = (5 : Int32) then (some (10, M)) else some (11, M)
set_option maxRecDepth 20000 in
set_option maxHeartbeats 4000000 in
theorem t_X5_nameOf (l : Launch) {v0 : Int32} {M : XM} {q : Nat × XM} (H : f_X5_nameOf v0 M = some q) : AW l m_X5_nameOf 1 0 0 (x_Ra q) 0 0 0 [some (.int v0)] [] M := by
  unfold f_X5_nameOf at H
  refine x_iload_n 0 0 dX5_nameOf_0 rfl rfl ?_
  by_cases c1 : v0 = (0 : Int32)
  · replace H := x_ifp c1 H
    refine x_tableIn (off := 39) 1 40 dX5_nameOf_1 (by rw [c1]; decide) (by rw [c1]; decide) (by rw [c1]; rfl) (by decide) ?_
    refine x_ldcS 40 132 0 dX5_nameOf_40 (by decide) (by decide) rfl ?_
    cases H
    exact x_aret 42 dX5_nameOf_42 (.object "java/lang/String") rfl (Or.inl ⟨_, rfl⟩) (Nat.le_of_ble_eq_true rfl) (Nat.le_of_ble_eq_true rfl) ⟨rfl, rfl⟩
  · replace H := x_ifn c1 H
    by_cases c2 : v0 = (1 : Int32)
    · replace H := x_ifp c2 H
      refine x_tableIn (off := 42) 1 43 dX5_nameOf_1 (by rw [c2]; decide) (by rw [c2]; decide) (by rw [c2]; rfl) (by decide) ?_
      refine x_ldcS 43 134 1 dX5_nameOf_43 (by decide) (by decide) rfl ?_
      cases H
      exact x_aret 45 dX5_nameOf_45 (.object "java/lang/String") rfl (Or.inl ⟨_, rfl⟩) (Nat.le_of_ble_eq_true rfl) (Nat.le_of_ble_eq_true rfl) ⟨rfl, rfl⟩
    · replace H := x_ifn c2 H
      by_cases c3 : v0 = (2 : Int32)
      · replace H := x_ifp c3 H
        refine x_tableIn (off := 45) 1 46 dX5_nameOf_1 (by rw [c3]; decide) (by rw [c3]; decide) (by rw [c3]; rfl) (by decide) ?_
        refine x_ldcS 46 136 2 dX5_nameOf_46 (by decide) (by decide) rfl ?_
        cases H
        exact x_aret 48 dX5_nameOf_48 (.object "java/lang/String") rfl (Or.inl ⟨_, rfl⟩) (Nat.le_of_ble_eq_true rfl) (Nat.le_of_ble_eq_true rfl) ⟨rfl, rfl⟩
      · replace H := x_ifn c3 H
        by_cases c4 : v0 = (3 : Int32)
        · replace H := x_ifp c4 H
          refine x_tableIn (off := 48) 1 49 dX5_nameOf_1 (by rw [c4]; decide) (by rw [c4]; decide) (by rw [c4]; rfl) (by decide) ?_
          refine x_ldcS 49 138 3 dX5_nameOf_49 (by decide) (by decide) rfl ?_
          cases H
          exact x_aret 51 dX5_nameOf_51 (.object "java/lang/String") rfl (Or.inl ⟨_, rfl⟩) (Nat.le_of_ble_eq_true rfl) (Nat.le_of_ble_eq_true rfl) ⟨rfl, rfl⟩
        · replace H := x_ifn c4 H
          by_cases c5 : v0 = (4 : Int32)
          · replace H := x_ifp c5 H
            refine x_tableIn (off := 51) 1 52 dX5_nameOf_1 (by rw [c5]; decide) (by rw [c5]; decide) (by rw [c5]; rfl) (by decide) ?_
            refine x_ldcS 52 140 4 dX5_nameOf_52 (by decide) (by decide) rfl ?_
            cases H
            exact x_aret 54 dX5_nameOf_54 (.object "java/lang/String") rfl (Or.inl ⟨_, rfl⟩) (Nat.le_of_ble_eq_true rfl) (Nat.le_of_ble_eq_true rfl) ⟨rfl, rfl⟩
          · replace H := x_ifn c5 H
            by_cases c6 : v0 = (5 : Int32)
            · replace H := x_ifp c6 H
              refine x_tableIn (off := 54) 1 55 dX5_nameOf_1 (by rw [c6]; decide) (by rw [c6]; decide) (by rw [c6]; rfl) (by decide) ?_
              refine x_ldcS 55 142 5 dX5_nameOf_55 (by decide) (by decide) rfl ?_
              cases H
              exact x_aret 57 dX5_nameOf_57 (.object "java/lang/String") rfl (Or.inl ⟨_, rfl⟩) (Nat.le_of_ble_eq_true rfl) (Nat.le_of_ble_eq_true rfl) ⟨rfl, rfl⟩
            · replace H := x_ifn c6 H
              refine x_tableOut 1 58 dX5_nameOf_1 (by have n0 := lv_neT (a := 0) c1 (by decide); have n1 := lv_neT (a := 1) c2 (by decide); have n2 := lv_neT (a := 2) c3 (by decide); have n3 := lv_neT (a := 3) c4 (by decide); have n4 := lv_neT (a := 4) c5 (by decide); have n5 := lv_neT (a := 5) c6 (by decide); omega) (by decide) ?_
              refine x_ldcS 58 144 6 dX5_nameOf_58 (by decide) (by decide) rfl ?_
              cases H
              exact x_aret 60 dX5_nameOf_60 (.object "java/lang/String") rfl (Or.inl ⟨_, rfl⟩) (Nat.le_of_ble_eq_true rfl) (Nat.le_of_ble_eq_true rfl) ⟨rfl, rfl⟩

theorem ct_X5_nameOf (l : Launch) {v0 : Int32} {M : XM} {q : Nat × XM} (H : f_X5_nameOf v0 M = some q) : Ct l m_X5_nameOf 1 0 0 [(.int v0)] M (x_Ra q) := x_met l m_X5_nameOf 1 0 0 [(.int v0)] M (x_Ra q) _ rfl rfl (Nat.le_of_ble_eq_true rfl) (t_X5_nameOf l H)
theorem lk_88 : Cond.initialized RX5 ∈ x_TB := x_tb (k := 88) (by decide +kernel) rfl
theorem lk_596 : Cond.code yX5_nameOf cX5_nameOf 1 (some (.object "java/lang/String")) ∈ x_TB := x_tb (k := 596) (by decide +kernel) rfl
theorem lk_594 : Cond.methodLink RX5 113 yX5_nameOf ∈ x_TB := x_tb (k := 594) (by decide +kernel) rfl
theorem lk_595 : Cond.static yX5_nameOf ∈ x_TB := x_tb (k := 595) (by decide +kernel) rfl
theorem lk_1512 : Cond.fieldLink RJ0 9 "java/lang/String" "value" "[B" ∈ x_TB := x_tb (k := 1512) (by decide +kernel) rfl
theorem lk_616 : Cond.fieldLink RJ0 38 "java/lang/String" "COMPACT_STRINGS" "Z" ∈ x_TB := x_tb (k := 616) (by decide +kernel) rfl
theorem lk_1513 : Cond.fieldLink RJ0 15 "java/lang/String" "coder" "B" ∈ x_TB := x_tb (k := 1513) (by decide +kernel) rfl
abbrev m_J0_coder_7d493 : XU := (yJ0_coder_7d493, cJ0_coder_7d493, 1, (some .byte))
theorem cn_J0_coder_7d493 : m_J0_coder_7d493.1.cls ≠ "java/lang/invoke/MethodHandle" ∧ m_J0_coder_7d493.1.cls ≠ "java/lang/invoke/VarHandle" ∧ (parseMethodDescriptor m_J0_coder_7d493.1.desc).map (fun q => q.parameters.length) = some 0 := by decide +kernel
def f_J0_coder_7d493 (v0 : Nat) (M : XM) : Option (Int32 × XM) :=
  if x_tag M v0 = 7 then (if v0 < 20 then (some ((0 : Int32), M)) else none) else none
set_option maxRecDepth 20000 in
set_option maxHeartbeats 4000000 in
theorem t_J0_coder_7d493 (l : Launch) {v0 : Nat} {M : XM} {q : Int32 × XM} (H : f_J0_coder_7d493 v0 M = some q) : AW l m_J0_coder_7d493 1 0 0 (x_Ri q) 0 0 0 [some (.ref v0)] [] M := by
  unfold f_J0_coder_7d493 at H
  refine x_getsC 0 38 dJ0_coder_7d493_0 lk_616 ?_
  refine x_if_eq 3 13 dJ0_coder_7d493_3 (by decide) (fun z => absurd z (by decide)) (fun _ => ?_)
  refine x_aload_n 6 0 dJ0_coder_7d493_6 rfl rfl ?_
  obtain ⟨h1, H⟩ := x_ckp H
  obtain ⟨h2, H⟩ := x_ckp H
  refine x_getCod 7 15 dJ0_coder_7d493_7 lk_1513 h1 h2 ?_
  refine x_goto 10 14 dJ0_coder_7d493_10 (by decide) ?_
  cases H
  exact x_iret 14 dJ0_coder_7d493_14 .byte rfl rfl (Nat.le_of_ble_eq_true rfl) (Nat.le_of_ble_eq_true rfl) ⟨rfl, rfl⟩

theorem ct_J0_coder_7d493 (l : Launch) {v0 : Nat} {M : XM} {q : Int32 × XM} (H : f_J0_coder_7d493 v0 M = some q) : Ct l m_J0_coder_7d493 1 0 0 [(.ref v0)] M (x_Ri q) := x_met l m_J0_coder_7d493 1 0 0 [(.ref v0)] M (x_Ri q) _ rfl rfl (Nat.le_of_ble_eq_true rfl) (t_J0_coder_7d493 l H)
theorem lk_98 : Cond.initialized RJ0 ∈ x_TB := x_tb (k := 98) (by decide +kernel) rfl
theorem lk_615 : Cond.code yJ0_coder_7d493 cJ0_coder_7d493 1 (some .byte) ∈ x_TB := x_tb (k := 615) (by decide +kernel) rfl
theorem lk_612 : Cond.methodLink RJ0 335 yJ0_coder_7d493 ∈ x_TB := x_tb (k := 612) (by decide +kernel) rfl
theorem lk_614 : Cond.selects RJ0 yJ0_coder_7d493 yJ0_coder_7d493 ∈ x_TB := x_tb (k := 614) (by decide +kernel) rfl
theorem lk_613 : Cond.instanceMethod yJ0_coder_7d493 ∈ x_TB := x_tb (k := 613) (by decide +kernel) rfl
abbrev m_J0_length_8abf5 : XU := (yJ0_length_8abf5, cJ0_length_8abf5, 1, (some .int))
theorem cn_J0_length_8abf5 : m_J0_length_8abf5.1.cls ≠ "java/lang/invoke/MethodHandle" ∧ m_J0_length_8abf5.1.cls ≠ "java/lang/invoke/VarHandle" ∧ (parseMethodDescriptor m_J0_length_8abf5.1.desc).map (fun q => q.parameters.length) = some 0 := by decide +kernel
def f_J0_length_8abf5 (v0 : Nat) (M : XM) : Option (Int32 × XM) :=
  if x_tag M v0 = 7 then (if v0 < 20 then (if x_tag M (v0 + 7) = 6 then (if (v0 + 7) < 20 then (x_bd (f_J0_coder_7d493 v0 M) (fun r6 M5 => some (((Int32.ofNat (x_len M (v0 + 7))) >>> (r6 &&& 31)), M5))) else none) else none) else none) else none
set_option maxRecDepth 20000 in
set_option maxHeartbeats 4000000 in
theorem t_J0_length_8abf5 (l : Launch) {v0 : Nat} {M : XM} {q : Int32 × XM} (H : f_J0_length_8abf5 v0 M = some q) : AW l m_J0_length_8abf5 2 0 0 (x_Ri q) 0 0 0 [some (.ref v0)] [] M := by
  unfold f_J0_length_8abf5 at H
  refine x_aload_n 0 0 dJ0_length_8abf5_0 rfl rfl ?_
  obtain ⟨h1, H⟩ := x_ckp H
  obtain ⟨h2, H⟩ := x_ckp H
  refine x_getVal 1 9 dJ0_length_8abf5_1 lk_1512 h1 h2 ?_
  obtain ⟨h3, H⟩ := x_ckp H
  obtain ⟨h4, H⟩ := x_ckp H
  refine x_balen 4 dJ0_length_8abf5_4 h3 h4 ?_
  refine x_aload_n 5 0 dJ0_length_8abf5_5 rfl rfl ?_
  obtain ⟨r6, M5, e7, H⟩ := x_bd_of H
  refine x_callVS 6 335 [] [(.int (Int32.ofNat (x_len M (v0 + 7))))] dJ0_length_8abf5_6 (ct_J0_coder_7d493 l e7) lk_612 lk_613 lk_614 h1 h2 lk_98 lk_615 ⟨cn_J0_coder_7d493, (by decide), by decide⟩ rfl (Nat.le_of_ble_eq_true rfl) (Nat.le_of_ble_eq_true rfl) (Nat.le_of_ble_eq_true rfl) (x_ri ?_)
  refine x_ishr 9 dJ0_length_8abf5_9 ?_
  cases H
  exact x_iret 10 dJ0_length_8abf5_10 .int rfl rfl (Nat.le_of_ble_eq_true rfl) (Nat.le_of_ble_eq_true rfl) ⟨rfl, rfl⟩

theorem ct_J0_length_8abf5 (l : Launch) {v0 : Nat} {M : XM} {q : Int32 × XM} (H : f_J0_length_8abf5 v0 M = some q) : Ct l m_J0_length_8abf5 2 0 0 [(.ref v0)] M (x_Ri q) := x_met l m_J0_length_8abf5 2 0 0 [(.ref v0)] M (x_Ri q) _ rfl rfl (Nat.le_of_ble_eq_true rfl) (t_J0_length_8abf5 l H)
theorem lk_611 : Cond.code yJ0_length_8abf5 cJ0_length_8abf5 1 (some .int) ∈ x_TB := x_tb (k := 611) (by decide +kernel) rfl
theorem lk_608 : Cond.methodLink RX5 121 yJ0_length_8abf5 ∈ x_TB := x_tb (k := 608) (by decide +kernel) rfl
theorem lk_610 : Cond.selects RJ0 yJ0_length_8abf5 yJ0_length_8abf5 ∈ x_TB := x_tb (k := 610) (by decide +kernel) rfl
theorem lk_609 : Cond.instanceMethod yJ0_length_8abf5 ∈ x_TB := x_tb (k := 609) (by decide +kernel) rfl
abbrev m_J0_isLatin1_aae02 : XU := (yJ0_isLatin1_aae02, cJ0_isLatin1_aae02, 1, (some .boolean))
theorem cn_J0_isLatin1_aae02 : m_J0_isLatin1_aae02.1.cls ≠ "java/lang/invoke/MethodHandle" ∧ m_J0_isLatin1_aae02.1.cls ≠ "java/lang/invoke/VarHandle" ∧ (parseMethodDescriptor m_J0_isLatin1_aae02.1.desc).map (fun q => q.parameters.length) = some 0 := by decide +kernel
def f_J0_isLatin1_aae02 (v0 : Nat) (M : XM) : Option (Int32 × XM) :=
  if x_tag M v0 = 7 then (if v0 < 20 then (some ((1 : Int32), M)) else none) else none
set_option maxRecDepth 20000 in
set_option maxHeartbeats 4000000 in
theorem t_J0_isLatin1_aae02 (l : Launch) {v0 : Nat} {M : XM} {q : Int32 × XM} (H : f_J0_isLatin1_aae02 v0 M = some q) : AW l m_J0_isLatin1_aae02 1 0 0 (x_Ri q) 0 0 0 [some (.ref v0)] [] M := by
  unfold f_J0_isLatin1_aae02 at H
  refine x_getsC 0 38 dJ0_isLatin1_aae02_0 lk_616 ?_
  refine x_if_eq 3 17 dJ0_isLatin1_aae02_3 (by decide) (fun z => absurd z (by decide)) (fun _ => ?_)
  refine x_aload_n 6 0 dJ0_isLatin1_aae02_6 rfl rfl ?_
  obtain ⟨h1, H⟩ := x_ckp H
  obtain ⟨h2, H⟩ := x_ckp H
  refine x_getCod 7 15 dJ0_isLatin1_aae02_7 lk_1513 h1 h2 ?_
  refine x_if_ne 10 17 dJ0_isLatin1_aae02_10 (by decide) (fun z => absurd (by decide) z) (fun _ => ?_)
  refine x_iconst 13 (1 : Int32) dJ0_isLatin1_aae02_13 (by decide) ?_
  refine x_goto 14 18 dJ0_isLatin1_aae02_14 (by decide) ?_
  cases H
  exact x_iret 18 dJ0_isLatin1_aae02_18 .boolean rfl rfl (Nat.le_of_ble_eq_true rfl) (Nat.le_of_ble_eq_true rfl) ⟨rfl, rfl⟩

theorem ct_J0_isLatin1_aae02 (l : Launch) {v0 : Nat} {M : XM} {q : Int32 × XM} (H : f_J0_isLatin1_aae02 v0 M = some q) : Ct l m_J0_isLatin1_aae02 1 0 0 [(.ref v0)] M (x_Ri q) := x_met l m_J0_isLatin1_aae02 1 0 0 [(.ref v0)] M (x_Ri q) _ rfl rfl (Nat.le_of_ble_eq_true rfl) (t_J0_isLatin1_aae02 l H)
theorem lk_625 : Cond.code yJ0_isLatin1_aae02 cJ0_isLatin1_aae02 1 (some .boolean) ∈ x_TB := x_tb (k := 625) (by decide +kernel) rfl
theorem lk_622 : Cond.methodLink RJ0 492 yJ0_isLatin1_aae02 ∈ x_TB := x_tb (k := 622) (by decide +kernel) rfl
theorem lk_624 : Cond.selects RJ0 yJ0_isLatin1_aae02 yJ0_isLatin1_aae02 ∈ x_TB := x_tb (k := 624) (by decide +kernel) rfl
theorem lk_623 : Cond.instanceMethod yJ0_isLatin1_aae02 ∈ x_TB := x_tb (k := 623) (by decide +kernel) rfl
theorem lk_632 : Cond.fieldLink RJ0 1053 "jdk/internal/util/Preconditions" "SIOOBE_FORMATTER" "Ljava/util/function/BiFunction;" ∈ x_TB := x_tb (k := 632) (by decide +kernel) rfl
abbrev m_J3_checkIndex_8e157 : XU := (yJ3_checkIndex_8e157, cJ3_checkIndex_8e157, 3, (some .int))
theorem cn_J3_checkIndex_8e157 : m_J3_checkIndex_8e157.1.cls ≠ "java/lang/invoke/MethodHandle" ∧ m_J3_checkIndex_8e157.1.cls ≠ "java/lang/invoke/VarHandle" ∧ (parseMethodDescriptor m_J3_checkIndex_8e157.1.desc).map (fun q => q.parameters.length) = some 3 := by decide +kernel
def f_J3_checkIndex_8e157_9 (v0 : Int32) (v1 : Int32) (v2 : Nat) (M : XM) : Option (Int32 × XM) :=
  none
set_option maxRecDepth 20000 in
set_option maxHeartbeats 4000000 in
theorem t_J3_checkIndex_8e157_9 (l : Launch) {v0 : Int32} {v1 : Int32} {v2 : Nat} {M : XM} {q : Int32 × XM} (H : f_J3_checkIndex_8e157_9 v0 v1 v2 M = some q) : AW l m_J3_checkIndex_8e157 1 0 0 (x_Ri q) 0 0 9 [some (.int v0), some (.int v1), some (.ref v2)] [] M := by
  unfold f_J3_checkIndex_8e157_9 at H
  refine x_aload_n 9 2 dJ3_checkIndex_8e157_9 rfl rfl ?_
  refine x_iload_n 10 0 dJ3_checkIndex_8e157_10 rfl rfl ?_
  refine x_iload_n 11 1 dJ3_checkIndex_8e157_11 rfl rfl ?_
  cases H

def f_J3_checkIndex_8e157 (v0 : Int32) (v1 : Int32) (v2 : Nat) (M : XM) : Option (Int32 × XM) :=
  if v0 < 0 then (f_J3_checkIndex_8e157_9 v0 v1 v2 M) else (if v0 < v1 then (some (v0, M)) else (f_J3_checkIndex_8e157_9 v0 v1 v2 M))
set_option maxRecDepth 20000 in
set_option maxHeartbeats 4000000 in
theorem t_J3_checkIndex_8e157 (l : Launch) {v0 : Int32} {v1 : Int32} {v2 : Nat} {M : XM} {q : Int32 × XM} (H : f_J3_checkIndex_8e157 v0 v1 v2 M = some q) : AW l m_J3_checkIndex_8e157 1 0 0 (x_Ri q) 0 0 0 [some (.int v0), some (.int v1), some (.ref v2)] [] M := by
  unfold f_J3_checkIndex_8e157 at H
  refine x_iload_n 0 0 dJ3_checkIndex_8e157_0 rfl rfl ?_
  refine x_if_lt 1 9 dJ3_checkIndex_8e157_1 (by decide) (fun c1 => ?_) (fun c1 => ?_)
  · replace H := x_ifp c1 H
    exact t_J3_checkIndex_8e157_9 l H
  · replace H := x_ifn c1 H
    refine x_iload_n 4 0 dJ3_checkIndex_8e157_4 rfl rfl ?_
    refine x_iload_n 5 1 dJ3_checkIndex_8e157_5 rfl rfl ?_
    refine x_icmp_lt 6 16 dJ3_checkIndex_8e157_6 (by decide) (fun c2 => ?_) (fun c2 => ?_)
    · replace H := x_ifp c2 H
      refine x_iload_n 16 0 dJ3_checkIndex_8e157_16 rfl rfl ?_
      cases H
      exact x_iret 17 dJ3_checkIndex_8e157_17 .int rfl rfl (Nat.le_of_ble_eq_true rfl) (Nat.le_of_ble_eq_true rfl) ⟨rfl, rfl⟩
    · replace H := x_ifn c2 H
      exact t_J3_checkIndex_8e157_9 l H

theorem ct_J3_checkIndex_8e157 (l : Launch) {v0 : Int32} {v1 : Int32} {v2 : Nat} {M : XM} {q : Int32 × XM} (H : f_J3_checkIndex_8e157 v0 v1 v2 M = some q) : Ct l m_J3_checkIndex_8e157 1 0 0 [(.int v0), (.int v1), (.ref v2)] M (x_Ri q) := x_met l m_J3_checkIndex_8e157 1 0 0 [(.int v0), (.int v1), (.ref v2)] M (x_Ri q) _ rfl rfl (Nat.le_of_ble_eq_true rfl) (t_J3_checkIndex_8e157 l H)
theorem lk_100 : Cond.initialized RJ3 ∈ x_TB := x_tb (k := 100) (by decide +kernel) rfl
theorem lk_636 : Cond.code yJ3_checkIndex_8e157 cJ3_checkIndex_8e157 3 (some .int) ∈ x_TB := x_tb (k := 636) (by decide +kernel) rfl
theorem lk_634 : Cond.methodLink RJ0 1059 yJ3_checkIndex_8e157 ∈ x_TB := x_tb (k := 634) (by decide +kernel) rfl
theorem lk_635 : Cond.static yJ3_checkIndex_8e157 ∈ x_TB := x_tb (k := 635) (by decide +kernel) rfl
abbrev m_J0_checkIndex_df160 : XU := (yJ0_checkIndex_df160, cJ0_checkIndex_df160, 2, none)
theorem cn_J0_checkIndex_df160 : m_J0_checkIndex_df160.1.cls ≠ "java/lang/invoke/MethodHandle" ∧ m_J0_checkIndex_df160.1.cls ≠ "java/lang/invoke/VarHandle" ∧ (parseMethodDescriptor m_J0_checkIndex_df160.1.desc).map (fun q => q.parameters.length) = some 2 := by decide +kernel
def f_J0_checkIndex_df160 (v0 : Int32) (v1 : Int32) (M : XM) : Option XM :=
  x_bd (f_J3_checkIndex_8e157 v0 v1 19 M) (fun r2 M1 => some M1)
set_option maxRecDepth 20000 in
set_option maxHeartbeats 4000000 in
theorem t_J0_checkIndex_df160 (l : Launch) {v0 : Int32} {v1 : Int32} {M : XM} {q : XM} (H : f_J0_checkIndex_df160 v0 v1 M = some q) : AW l m_J0_checkIndex_df160 2 0 0 (x_Rv q) 0 0 0 [some (.int v0), some (.int v1)] [] M := by
  unfold f_J0_checkIndex_df160 at H
  refine x_iload_n 0 0 dJ0_checkIndex_df160_0 rfl rfl ?_
  refine x_iload_n 1 1 dJ0_checkIndex_df160_1 rfl rfl ?_
  refine x_gets 2 1053 19 "SIOOBE_FORMATTER" "Ljava/util/function/BiFunction;" dJ0_checkIndex_df160_2 "jdk/internal/util/Preconditions" x_ZF lk_632 ?_
  obtain ⟨r2, M1, e3, H⟩ := x_bd_of H
  refine x_callS 5 1059 [(.int v0), (.int v1), (.ref 19)] [] dJ0_checkIndex_df160_5 (ct_J3_checkIndex_8e157 l e3) lk_634 lk_635 lk_100 lk_636 ⟨cn_J3_checkIndex_8e157, (by decide), by decide⟩ rfl (Nat.le_of_ble_eq_true rfl) (Nat.le_of_ble_eq_true rfl) (Nat.le_of_ble_eq_true rfl) (x_ri ?_)
  refine x_pop 8 dJ0_checkIndex_df160_8 rfl ?_
  cases H
  exact x_vret 9 dJ0_checkIndex_df160_9 rfl (Nat.le_of_ble_eq_true rfl) (Nat.le_of_ble_eq_true rfl) ⟨rfl, rfl⟩

theorem ct_J0_checkIndex_df160 (l : Launch) {v0 : Int32} {v1 : Int32} {M : XM} {q : XM} (H : f_J0_checkIndex_df160 v0 v1 M = some q) : Ct l m_J0_checkIndex_df160 2 0 0 [(.int v0), (.int v1)] M (x_Rv q) := x_met l m_J0_checkIndex_df160 2 0 0 [(.int v0), (.int v1)] M (x_Rv q) _ rfl rfl (Nat.le_of_ble_eq_true rfl) (t_J0_checkIndex_df160 l H)
theorem lk_631 : Cond.code yJ0_checkIndex_df160 cJ0_checkIndex_df160 2 none ∈ x_TB := x_tb (k := 631) (by decide +kernel) rfl
theorem lk_629 : Cond.methodLink RJ1 9 yJ0_checkIndex_df160 ∈ x_TB := x_tb (k := 629) (by decide +kernel) rfl
theorem lk_630 : Cond.static yJ0_checkIndex_df160 ∈ x_TB := x_tb (k := 630) (by decide +kernel) rfl
abbrev m_J1_charAt_3b067 : XU := (yJ1_charAt_3b067, cJ1_charAt_3b067, 2, (some .char))
theorem cn_J1_charAt_3b067 : m_J1_charAt_3b067.1.cls ≠ "java/lang/invoke/MethodHandle" ∧ m_J1_charAt_3b067.1.cls ≠ "java/lang/invoke/VarHandle" ∧ (parseMethodDescriptor m_J1_charAt_3b067.1.desc).map (fun q => q.parameters.length) = some 2 := by decide +kernel
def f_J1_charAt_3b067 (v0 : Nat) (v1 : Int32) (M : XM) : Option (Int32 × XM) :=
  if x_tag M v0 = 6 then (if v0 < 20 then (x_bv (f_J0_checkIndex_df160 v1 (Int32.ofNat (x_len M v0)) M) (fun M3 => if x_at M3 v0 6 v1 = true then (if vp_nar .char ((((x_i M3 v0 v1.toNatClampNeg) &&& (255 : Int32)).toUInt32 % 65536).toInt32) = ((((x_i M3 v0 v1.toNatClampNeg) &&& (255 : Int32)).toUInt32 % 65536).toInt32) then (some (((((x_i M3 v0 v1.toNatClampNeg) &&& (255 : Int32)).toUInt32 % 65536).toInt32), M3)) else none) else none)) else none) else none
set_option maxRecDepth 20000 in
set_option maxHeartbeats 4000000 in
theorem t_J1_charAt_3b067 (l : Launch) {v0 : Nat} {v1 : Int32} {M : XM} {q : Int32 × XM} (H : f_J1_charAt_3b067 v0 v1 M = some q) : AW l m_J1_charAt_3b067 3 0 0 (x_Ri q) 0 0 0 [some (.ref v0), some (.int v1)] [] M := by
  unfold f_J1_charAt_3b067 at H
  refine x_iload_n 0 1 dJ1_charAt_3b067_0 rfl rfl ?_
  refine x_aload_n 1 0 dJ1_charAt_3b067_1 rfl rfl ?_
  obtain ⟨h1, H⟩ := x_ckp H
  obtain ⟨h2, H⟩ := x_ckp H
  refine x_balen 2 dJ1_charAt_3b067_2 h1 h2 ?_
  obtain ⟨M3, e5, H⟩ := x_bv_of H
  refine x_callS 3 9 [(.int v1), (.int (Int32.ofNat (x_len M v0)))] [] dJ1_charAt_3b067_3 (ct_J0_checkIndex_df160 l e5) lk_629 lk_630 lk_98 lk_631 ⟨cn_J0_checkIndex_df160, (by decide), by decide⟩ rfl (Nat.le_of_ble_eq_true rfl) (Nat.le_of_ble_eq_true rfl) (Nat.le_of_ble_eq_true rfl) (x_rv ?_)
  refine x_aload_n 6 0 dJ1_charAt_3b067_6 rfl rfl ?_
  refine x_iload_n 7 1 dJ1_charAt_3b067_7 rfl rfl ?_
  obtain ⟨h6, H⟩ := x_ckp H
  refine x_bald 8 dJ1_charAt_3b067_8 h6 h2 ?_
  refine x_sipush 9 (255 : Int32) dJ1_charAt_3b067_9 (by decide) ?_
  refine x_iand 12 dJ1_charAt_3b067_12 ?_
  refine x_i2c 13 dJ1_charAt_3b067_13 ?_
  obtain ⟨h7, H⟩ := x_ckp H
  cases H
  exact x_iret 14 dJ1_charAt_3b067_14 .char rfl (x_narV rfl h7) (Nat.le_of_ble_eq_true rfl) (Nat.le_of_ble_eq_true rfl) ⟨rfl, rfl⟩

theorem ct_J1_charAt_3b067 (l : Launch) {v0 : Nat} {v1 : Int32} {M : XM} {q : Int32 × XM} (H : f_J1_charAt_3b067 v0 v1 M = some q) : Ct l m_J1_charAt_3b067 3 0 0 [(.ref v0), (.int v1)] M (x_Ri q) := x_met l m_J1_charAt_3b067 3 0 0 [(.ref v0), (.int v1)] M (x_Ri q) _ rfl rfl (Nat.le_of_ble_eq_true rfl) (t_J1_charAt_3b067 l H)
theorem lk_99 : Cond.initialized RJ1 ∈ x_TB := x_tb (k := 99) (by decide +kernel) rfl
theorem lk_628 : Cond.code yJ1_charAt_3b067 cJ1_charAt_3b067 2 (some .char) ∈ x_TB := x_tb (k := 628) (by decide +kernel) rfl
theorem lk_626 : Cond.methodLink RJ0 495 yJ1_charAt_3b067 ∈ x_TB := x_tb (k := 626) (by decide +kernel) rfl
theorem lk_627 : Cond.static yJ1_charAt_3b067 ∈ x_TB := x_tb (k := 627) (by decide +kernel) rfl
abbrev m_J0_charAt_5068e : XU := (yJ0_charAt_5068e, cJ0_charAt_5068e, 2, (some .char))
theorem cn_J0_charAt_5068e : m_J0_charAt_5068e.1.cls ≠ "java/lang/invoke/MethodHandle" ∧ m_J0_charAt_5068e.1.cls ≠ "java/lang/invoke/VarHandle" ∧ (parseMethodDescriptor m_J0_charAt_5068e.1.desc).map (fun q => q.parameters.length) = some 1 := by decide +kernel
def f_J0_charAt_5068e (v0 : Nat) (v1 : Int32) (M : XM) : Option (Int32 × XM) :=
  if x_tag M v0 = 7 then (if v0 < 20 then (x_bd (f_J0_isLatin1_aae02 v0 M) (fun r4 M3 => if r4 = 0 then (if x_tag M3 v0 = 7 then (none) else none) else (if x_tag M3 v0 = 7 then (x_bd (f_J1_charAt_3b067 (v0 + 7) v1 M3) (fun r10 M9 => if vp_nar .char r10 = r10 then (some (r10, M9)) else none)) else none))) else none) else none
set_option maxRecDepth 20000 in
set_option maxHeartbeats 4000000 in
theorem t_J0_charAt_5068e (l : Launch) {v0 : Nat} {v1 : Int32} {M : XM} {q : Int32 × XM} (H : f_J0_charAt_5068e v0 v1 M = some q) : AW l m_J0_charAt_5068e 4 0 0 (x_Ri q) 0 0 0 [some (.ref v0), some (.int v1)] [] M := by
  unfold f_J0_charAt_5068e at H
  refine x_aload_n 0 0 dJ0_charAt_5068e_0 rfl rfl ?_
  obtain ⟨h1, H⟩ := x_ckp H
  obtain ⟨h2, H⟩ := x_ckp H
  obtain ⟨r4, M3, e5, H⟩ := x_bd_of H
  refine x_callVS 1 492 [] [] dJ0_charAt_5068e_1 (ct_J0_isLatin1_aae02 l e5) lk_622 lk_623 lk_624 h1 h2 lk_98 lk_625 ⟨cn_J0_isLatin1_aae02, (by decide), by decide⟩ rfl (Nat.le_of_ble_eq_true rfl) (Nat.le_of_ble_eq_true rfl) (Nat.le_of_ble_eq_true rfl) (x_ri ?_)
  refine x_if_eq 4 16 dJ0_charAt_5068e_4 (by decide) (fun c6 => ?_) (fun c6 => ?_)
  · replace H := x_ifp c6 H
    refine x_aload_n 16 0 dJ0_charAt_5068e_16 rfl rfl ?_
    obtain ⟨h7, H⟩ := x_ckp H
    refine x_getVal 17 9 dJ0_charAt_5068e_17 lk_1512 h7 h2 ?_
    refine x_iload_n 20 1 dJ0_charAt_5068e_20 rfl rfl ?_
    cases H
  · replace H := x_ifn c6 H
    refine x_aload_n 7 0 dJ0_charAt_5068e_7 rfl rfl ?_
    obtain ⟨h8, H⟩ := x_ckp H
    refine x_getVal 8 9 dJ0_charAt_5068e_8 lk_1512 h8 h2 ?_
    refine x_iload_n 11 1 dJ0_charAt_5068e_11 rfl rfl ?_
    obtain ⟨r10, M9, e11, H⟩ := x_bd_of H
    refine x_callS 12 495 [(.ref (v0 + 7)), (.int v1)] [] dJ0_charAt_5068e_12 (ct_J1_charAt_3b067 l e11) lk_626 lk_627 lk_99 lk_628 ⟨cn_J1_charAt_3b067, (by decide), by decide⟩ rfl (Nat.le_of_ble_eq_true rfl) (Nat.le_of_ble_eq_true rfl) (Nat.le_of_ble_eq_true rfl) (x_ri ?_)
    obtain ⟨h12, H⟩ := x_ckp H
    cases H
    exact x_iret 15 dJ0_charAt_5068e_15 .char rfl (x_narV rfl h12) (Nat.le_of_ble_eq_true rfl) (Nat.le_of_ble_eq_true rfl) ⟨rfl, rfl⟩

theorem ct_J0_charAt_5068e (l : Launch) {v0 : Nat} {v1 : Int32} {M : XM} {q : Int32 × XM} (H : f_J0_charAt_5068e v0 v1 M = some q) : Ct l m_J0_charAt_5068e 4 0 0 [(.ref v0), (.int v1)] M (x_Ri q) := x_met l m_J0_charAt_5068e 4 0 0 [(.ref v0), (.int v1)] M (x_Ri q) _ rfl rfl (Nat.le_of_ble_eq_true rfl) (t_J0_charAt_5068e l H)
theorem lk_621 : Cond.code yJ0_charAt_5068e cJ0_charAt_5068e 2 (some .char) ∈ x_TB := x_tb (k := 621) (by decide +kernel) rfl
theorem lk_618 : Cond.methodLink RX5 128 yJ0_charAt_5068e ∈ x_TB := x_tb (k := 618) (by decide +kernel) rfl
theorem lk_620 : Cond.selects RJ0 yJ0_charAt_5068e yJ0_charAt_5068e ∈ x_TB := x_tb (k := 620) (by decide +kernel) rfl
theorem lk_619 : Cond.instanceMethod yJ0_charAt_5068e ∈ x_TB := x_tb (k := 619) (by decide +kernel) rfl
abbrev m_X5_countAlike : XU := (yX5_countAlike, cX5_countAlike, 3, (some .int))
theorem cn_X5_countAlike : m_X5_countAlike.1.cls ≠ "java/lang/invoke/MethodHandle" ∧ m_X5_countAlike.1.cls ≠ "java/lang/invoke/VarHandle" ∧ (parseMethodDescriptor m_X5_countAlike.1.desc).map (fun q => q.parameters.length) = some 1 := by decide +kernel
def bd_X5_countAlike_2 (κ2 : Nat → Nat → Int32 → XM → Option (Int32 × XM)) (v0 : Nat) (v1 : Nat) (v2 : Int32) (M : XM) : Option (Int32 × XM) :=
  if x_tag M v1 = 7 then (if v1 < 20 then (x_bd (f_J0_length_8abf5 v1 M) (fun r4 M3 => if r4 ≤ v2 then (some (v2, M3)) else (if x_tag M3 v0 = 5 + 10 then (if (x_i M3 v0 3) ≤ ((x_i M3 v0 4) + v2) then (some (v2, M3)) else (if x_at M3 (x_r M3 v0 2) 1 ((x_i M3 v0 4) + v2) = true then (if x_tag M3 v1 = 7 then (x_bd (f_J0_charAt_5068e v1 v2 M3) (fun r12 M11 => if (x_i M3 (x_r M3 v0 2) ((x_i M3 v0 4) + v2).toNatClampNeg) = r12 then (κ2 v0 v1 (v2 + (1 : Int32)) M11) else (some (v2, M11)))) else none) else none)) else none))) else none) else none
set_option maxRecDepth 20000 in
set_option maxHeartbeats 4000000 in
theorem tb_X5_countAlike_2 (l : Launch) {κ2 : Nat → Nat → Int32 → XM → Option (Int32 × XM)} {v0 : Nat} {v1 : Nat} {v2 : Int32} {M : XM} {q : Int32 × XM} (hκ2 : ∀ (v0 : Nat) (v1 : Nat) (v2 : Int32) (M : XM), κ2 v0 v1 v2 M = some q → AW l m_X5_countAlike 5 0 0 (x_Ri q) 0 0 2 [some (.ref v0), some (.ref v1), some (.int v2)] [] M) (H : bd_X5_countAlike_2 κ2 v0 v1 v2 M = some q) : AW l m_X5_countAlike 5 0 0 (x_Ri q) 0 0 2 [some (.ref v0), some (.ref v1), some (.int v2)] [] M := by
  unfold bd_X5_countAlike_2 at H
  refine x_iload_n 2 2 dX5_countAlike_2 rfl rfl ?_
  refine x_aload_n 3 1 dX5_countAlike_3 rfl rfl ?_
  obtain ⟨h1, H⟩ := x_ckp H
  obtain ⟨h2, H⟩ := x_ckp H
  obtain ⟨r4, M3, e5, H⟩ := x_bd_of H
  refine x_callVS 4 121 [] [(.int v2)] dX5_countAlike_4 (ct_J0_length_8abf5 l e5) lk_608 lk_609 lk_610 h1 h2 lk_98 lk_611 ⟨cn_J0_length_8abf5, (by decide), by decide⟩ rfl (Nat.le_of_ble_eq_true rfl) (Nat.le_of_ble_eq_true rfl) (Nat.le_of_ble_eq_true rfl) (x_ri ?_)
  refine x_icmp_ge 7 48 dX5_countAlike_7 (by decide) (fun c6 => ?_) (fun c6 => ?_)
  · replace H := x_ifp c6 H
    refine x_iload_n 48 2 dX5_countAlike_48 rfl rfl ?_
    cases H
    exact x_iret 49 dX5_countAlike_49 .int rfl rfl (Nat.le_of_ble_eq_true rfl) (Nat.le_of_ble_eq_true rfl) ⟨rfl, rfl⟩
  · replace H := x_ifn c6 H
    refine x_aload_n 10 0 dX5_countAlike_10 rfl rfl ?_
    obtain ⟨h7, H⟩ := x_ckp H
    refine x_getf 11 39 5 4 (.int (x_i M3 v0 4)) dX5_countAlike_11 lk_217 (by decide) (by decide) rfl (fun _ => rfl) h7 ?_
    refine x_iload_n 14 2 dX5_countAlike_14 rfl rfl ?_
    refine x_iadd 15 dX5_countAlike_15 ?_
    refine x_aload_n 16 0 dX5_countAlike_16 rfl rfl ?_
    refine x_getf 17 34 5 3 (.int (x_i M3 v0 3)) dX5_countAlike_17 lk_216 (by decide) (by decide) rfl (fun _ => rfl) h7 ?_
    refine x_icmp_ge 20 48 dX5_countAlike_20 (by decide) (fun c8 => ?_) (fun c8 => ?_)
    · replace H := x_ifp c8 H
      refine x_iload_n 48 2 dX5_countAlike_48 rfl rfl ?_
      cases H
      exact x_iret 49 dX5_countAlike_49 .int rfl rfl (Nat.le_of_ble_eq_true rfl) (Nat.le_of_ble_eq_true rfl) ⟨rfl, rfl⟩
    · replace H := x_ifn c8 H
      refine x_aload_n 23 0 dX5_countAlike_23 rfl rfl ?_
      refine x_getf 24 15 5 2 (.ref (x_r M3 v0 2)) dX5_countAlike_24 lk_215 (by decide) (by decide) rfl (fun _ => rfl) h7 ?_
      refine x_aload_n 27 0 dX5_countAlike_27 rfl rfl ?_
      refine x_getf 28 39 5 4 (.int (x_i M3 v0 4)) dX5_countAlike_28 lk_217 (by decide) (by decide) rfl (fun _ => rfl) h7 ?_
      refine x_iload_n 31 2 dX5_countAlike_31 rfl rfl ?_
      refine x_iadd 32 dX5_countAlike_32 ?_
      obtain ⟨h9, H⟩ := x_ckp H
      refine x_iald 33 dX5_countAlike_33 h9 ?_
      refine x_aload_n 34 1 dX5_countAlike_34 rfl rfl ?_
      refine x_iload_n 35 2 dX5_countAlike_35 rfl rfl ?_
      obtain ⟨h10, H⟩ := x_ckp H
      obtain ⟨r12, M11, e13, H⟩ := x_bd_of H
      refine x_callVS 36 128 [(.int v2)] [(.int (x_i M3 (x_r M3 v0 2) ((x_i M3 v0 4) + v2).toNatClampNeg))] dX5_countAlike_36 (ct_J0_charAt_5068e l e13) lk_618 lk_619 lk_620 h10 h2 lk_98 lk_621 ⟨cn_J0_charAt_5068e, (by decide), by decide⟩ rfl (Nat.le_of_ble_eq_true rfl) (Nat.le_of_ble_eq_true rfl) (Nat.le_of_ble_eq_true rfl) (x_ri ?_)
      refine x_icmp_ne 39 48 dX5_countAlike_39 (by decide) (fun c14 => ?_) (fun c14 => ?_)
      · replace H := x_ifn c14 H
        refine x_iload_n 48 2 dX5_countAlike_48 rfl rfl ?_
        cases H
        exact x_iret 49 dX5_countAlike_49 .int rfl rfl (Nat.le_of_ble_eq_true rfl) (Nat.le_of_ble_eq_true rfl) ⟨rfl, rfl⟩
      · replace H := x_ifp c14 H
        refine x_iinc 42 2 (v2 + (1 : Int32)) [some (.ref v0), some (.ref v1), some (.int (v2 + (1 : Int32)))] dX5_countAlike_42 rfl (congrArg (fun z : Int32 => v2 + z) (show Int32.ofInt (1) = (1 : Int32) by decide)) rfl (Nat.le_of_ble_eq_true rfl) rfl ?_
        refine x_goto 45 2 dX5_countAlike_45 (by decide) ?_
        exact hκ2 _ _ _ _ H

def lp_X5_countAlike_2 (n : Nat) : Nat → Nat → Int32 → XM → Option (Int32 × XM) := x_rec (fun _ _ _ _ => none) (bd_X5_countAlike_2) n
theorem t_X5_countAlike_2 (l : Launch) {q : Int32 × XM} : ∀ (n : Nat) (v0 : Nat) (v1 : Nat) (v2 : Int32) (M : XM), lp_X5_countAlike_2 n v0 v1 v2 M = some q → AW l m_X5_countAlike 5 0 0 (x_Ri q) 0 0 2 [some (.ref v0), some (.ref v1), some (.int v2)] [] M := by
  intro n
  induction n with
  | zero => intro v0 v1 v2 M H; cases H
  | succ n ih => intro v0 v1 v2 M H; exact tb_X5_countAlike_2 l ih H
def f_X5_countAlike (v0 : Nat) (v1 : Nat) (M : XM) : Option (Int32 × XM) :=
  lp_X5_countAlike_2 x_fuel v0 v1 (0 : Int32) M
set_option maxRecDepth 20000 in
set_option maxHeartbeats 4000000 in
theorem t_X5_countAlike (l : Launch) {v0 : Nat} {v1 : Nat} {M : XM} {q : Int32 × XM} (H : f_X5_countAlike v0 v1 M = some q) : AW l m_X5_countAlike 5 0 0 (x_Ri q) 0 0 0 [some (.ref v0), some (.ref v1), none] [] M := by
  unfold f_X5_countAlike at H
  refine x_iconst 0 (0 : Int32) dX5_countAlike_0 (by decide) ?_
  refine x_istore_n 1 2 [some (.ref v0), some (.ref v1), some (.int (0 : Int32))] dX5_countAlike_1 rfl rfl (Nat.le_of_ble_eq_true rfl) rfl ?_
  exact t_X5_countAlike_2 l _ _ _ _ _ H

theorem ct_X5_countAlike (l : Launch) {v0 : Nat} {v1 : Nat} {M : XM} {q : Int32 × XM} (H : f_X5_countAlike v0 v1 M = some q) : Ct l m_X5_countAlike 5 0 0 [(.ref v0), (.ref v1)] M (x_Ri q) := x_met l m_X5_countAlike 5 0 0 [(.ref v0), (.ref v1)] M (x_Ri q) _ rfl rfl (Nat.le_of_ble_eq_true rfl) (t_X5_countAlike l H)
theorem lk_607 : Cond.code yX5_countAlike cX5_countAlike 3 (some .int) ∈ x_TB := x_tb (k := 607) (by decide +kernel) rfl
theorem lk_604 : Cond.methodLink RX5 117 yX5_countAlike ∈ x_TB := x_tb (k := 604) (by decide +kernel) rfl
theorem lk_7 : Cond.selects RX5 yX5_countAlike yX5_countAlike ∈ x_TB := x_tb (k := 7) (by decide +kernel) rfl
theorem lk_606 : Cond.instanceMethod yX5_countAlike ∈ x_TB := x_tb (k := 606) (by decide +kernel) rfl
theorem lk_656 : Cond.methodLink RX5 125 Lib.Math.max.name ∈ x_TB := x_tb (k := 656) (by decide +kernel) rfl
abbrev m_X5_readWord : XU := (yX5_readWord, cX5_readWord, 5, (some .int))
theorem cn_X5_readWord : m_X5_readWord.1.cls ≠ "java/lang/invoke/MethodHandle" ∧ m_X5_readWord.1.cls ≠ "java/lang/invoke/VarHandle" ∧ (parseMethodDescriptor m_X5_readWord.1.desc).map (fun q => q.parameters.length) = some 0 := by decide +kernel
def bd_X5_readWord_4 (κ4 : Nat → Int32 → Int32 → XM → Option (Int32 × XM)) (v0 : Nat) (v1 : Int32) (v2 : Int32) (M : XM) : Option (Int32 × XM) :=
  if (7 : Int32) ≤ v2 then (if x_tag M v0 = 5 + 10 then (x_lt (x_wi M v0 0 ((x_i M v0 4) + v1)) (fun M3 => some ((-1 : Int32), M3))) else none) else (x_bd (f_X5_nameOf v2 M) (fun r7 M6 => if x_tag M6 v0 = 5 + 10 then (x_bd (f_X5_countAlike v0 r7 M6) (fun r11 M10 => if x_tag M10 r7 = 7 then (if r7 < 20 then (x_bd (f_J0_length_8abf5 r7 M10) (fun r16 M15 => if r11 = r16 then (if x_tag M15 v0 = 5 + 10 then (x_lt (x_wi M15 v0 4 ((x_i M15 v0 4) + r11)) (fun M20 => some (v2, M20))) else none) else (κ4 v0 (if v1 < r11 then r11 else v1) (v2 + (1 : Int32)) M15))) else none) else none)) else none))
set_option maxRecDepth 20000 in
set_option maxHeartbeats 4000000 in
theorem tb_X5_readWord_4 (l : Launch) {κ4 : Nat → Int32 → Int32 → XM → Option (Int32 × XM)} {v0 : Nat} {v1 : Int32} {v2 : Int32} {M : XM} {q : Int32 × XM} (hκ4 : ∀ (v0 : Nat) (v1 : Int32) (v2 : Int32) (M : XM), κ4 v0 v1 v2 M = some q → AW l m_X5_readWord 6 0 0 (x_Ri q) 0 0 4 [some (.ref v0), some (.int v1), some (.int v2), none, none] [] M) (H : bd_X5_readWord_4 κ4 v0 v1 v2 M = some q) : AW l m_X5_readWord 6 0 0 (x_Ri q) 0 0 4 [some (.ref v0), some (.int v1), some (.int v2), none, none] [] M := by
  unfold bd_X5_readWord_4 at H
  refine x_iload_n 4 2 dX5_readWord_4 rfl rfl ?_
  refine x_bipush 5 (7 : Int32) dX5_readWord_5 (by decide) ?_
  refine x_icmp_ge 7 57 dX5_readWord_7 (by decide) (fun c1 => ?_) (fun c1 => ?_)
  · replace H := x_ifp c1 H
    refine x_aload_n 57 0 dX5_readWord_57 rfl rfl ?_
    refine x_aload_n 58 0 dX5_readWord_58 rfl rfl ?_
    obtain ⟨h2, H⟩ := x_ckp H
    refine x_getf 59 39 5 4 (.int (x_i M v0 4)) dX5_readWord_59 lk_217 (by decide) (by decide) rfl (fun _ => rfl) h2 ?_
    refine x_iload_n 62 1 dX5_readWord_62 rfl rfl ?_
    refine x_iadd 63 dX5_readWord_63 ?_
    obtain ⟨M3, w4, H⟩ := x_lt_of H
    have h5 : x_tag M3 v0 = 5 + 10 := by rw [w4]; exact h2
    refine x_putI' 64 9 5 0 dX5_readWord_64 lk_212 (by decide) (by decide) rfl (Or.inl rfl) (Or.inl rfl) h2 w4 ?_
    refine x_iconst 67 (-1 : Int32) dX5_readWord_67 (by decide) ?_
    cases H
    exact x_iret 68 dX5_readWord_68 .int rfl rfl (Nat.le_of_ble_eq_true rfl) (Nat.le_of_ble_eq_true rfl) ⟨rfl, rfl⟩
  · replace H := x_ifn c1 H
    refine x_iload_n 10 2 dX5_readWord_10 rfl rfl ?_
    obtain ⟨r7, M6, e8, H⟩ := x_bd_of H
    refine x_callS 11 113 [(.int v2)] [] dX5_readWord_11 (ct_X5_nameOf l e8) lk_594 lk_595 lk_88 lk_596 ⟨cn_X5_nameOf, (by decide), by decide⟩ rfl (Nat.le_of_ble_eq_true rfl) (Nat.le_of_ble_eq_true rfl) (Nat.le_of_ble_eq_true rfl) (x_ra ?_)
    refine x_astore_n 14 3 [some (.ref v0), some (.int v1), some (.int v2), some (.ref r7), none] dX5_readWord_14 rfl rfl (Nat.le_of_ble_eq_true rfl) rfl ?_
    refine x_aload_n 15 0 dX5_readWord_15 rfl rfl ?_
    refine x_aload_n 16 3 dX5_readWord_16 rfl rfl ?_
    obtain ⟨h9, H⟩ := x_ckp H
    obtain ⟨r11, M10, e12, H⟩ := x_bd_of H
    refine x_callV 17 117 5 [(.ref r7)] [] dX5_readWord_17 (ct_X5_countAlike l e12) lk_604 lk_606 lk_7 (by decide) h9 lk_88 lk_607 ⟨cn_X5_countAlike, (by decide), by decide⟩ rfl (Nat.le_of_ble_eq_true rfl) (Nat.le_of_ble_eq_true rfl) (Nat.le_of_ble_eq_true rfl) (x_ri ?_)
    refine x_istore 20 4 [some (.ref v0), some (.int v1), some (.int v2), some (.ref r7), some (.int r11)] dX5_readWord_20 rfl (Nat.le_of_ble_eq_true rfl) rfl ?_
    refine x_iload 22 4 dX5_readWord_22 rfl ?_
    refine x_aload_n 24 3 dX5_readWord_24 rfl rfl ?_
    obtain ⟨h13, H⟩ := x_ckp H
    obtain ⟨h14, H⟩ := x_ckp H
    obtain ⟨r16, M15, e17, H⟩ := x_bd_of H
    refine x_callVS 25 121 [] [(.int r11)] dX5_readWord_25 (ct_J0_length_8abf5 l e17) lk_608 lk_609 lk_610 h13 h14 lk_98 lk_611 ⟨cn_J0_length_8abf5, (by decide), by decide⟩ rfl (Nat.le_of_ble_eq_true rfl) (Nat.le_of_ble_eq_true rfl) (Nat.le_of_ble_eq_true rfl) (x_ri ?_)
    refine x_icmp_ne 28 44 dX5_readWord_28 (by decide) (fun c18 => ?_) (fun c18 => ?_)
    · replace H := x_ifn c18 H
      refine x_iload_n 44 1 dX5_readWord_44 rfl rfl ?_
      refine x_iload 45 4 dX5_readWord_45 rfl ?_
      refine x_max 47 125 dX5_readWord_47 lk_656 lk_657 lk_97 lk_658 rfl (Nat.le_of_ble_eq_true rfl) (by decide) (Nat.le_of_ble_eq_true rfl) (Nat.le_of_ble_eq_true rfl) ?_
      refine x_istore_n 50 1 [some (.ref v0), some (.int (if v1 < r11 then r11 else v1)), some (.int v2), some (.ref r7), some (.int r11)] dX5_readWord_50 rfl rfl (Nat.le_of_ble_eq_true rfl) rfl ?_
      refine x_iinc 51 2 (v2 + (1 : Int32)) [some (.ref v0), some (.int (if v1 < r11 then r11 else v1)), some (.int (v2 + (1 : Int32))), some (.ref r7), some (.int r11)] dX5_readWord_51 rfl (congrArg (fun z : Int32 => v2 + z) (show Int32.ofInt (1) = (1 : Int32) by decide)) rfl (Nat.le_of_ble_eq_true rfl) rfl ?_
      refine x_goto 54 4 dX5_readWord_54 (by decide) ?_
      exact x_wk (le_s (le_s (le_s (le_n (le_n le_0))))) (hκ4 _ _ _ _ H)
    · replace H := x_ifp c18 H
      refine x_aload_n 31 0 dX5_readWord_31 rfl rfl ?_
      refine x_dup 32 dX5_readWord_32 rfl ?_
      obtain ⟨h19, H⟩ := x_ckp H
      refine x_getf 33 39 5 4 (.int (x_i M15 v0 4)) dX5_readWord_33 lk_217 (by decide) (by decide) rfl (fun _ => rfl) h19 ?_
      refine x_iload 36 4 dX5_readWord_36 rfl ?_
      refine x_iadd 38 dX5_readWord_38 ?_
      obtain ⟨M20, w21, H⟩ := x_lt_of H
      have h22 : x_tag M20 v0 = 5 + 10 := by rw [w21]; exact h19
      refine x_putI' 39 39 5 4 dX5_readWord_39 lk_217 (by decide) (by decide) rfl (Or.inl rfl) (Or.inl rfl) h19 w21 ?_
      refine x_iload_n 42 2 dX5_readWord_42 rfl rfl ?_
      cases H
      exact x_iret 43 dX5_readWord_43 .int rfl rfl (Nat.le_of_ble_eq_true rfl) (Nat.le_of_ble_eq_true rfl) ⟨rfl, rfl⟩

def lp_X5_readWord_4 (n : Nat) : Nat → Int32 → Int32 → XM → Option (Int32 × XM) := x_rec (fun _ _ _ _ => none) (bd_X5_readWord_4) n
theorem t_X5_readWord_4 (l : Launch) {q : Int32 × XM} : ∀ (n : Nat) (v0 : Nat) (v1 : Int32) (v2 : Int32) (M : XM), lp_X5_readWord_4 n v0 v1 v2 M = some q → AW l m_X5_readWord 6 0 0 (x_Ri q) 0 0 4 [some (.ref v0), some (.int v1), some (.int v2), none, none] [] M := by
  intro n
  induction n with
  | zero => intro v0 v1 v2 M H; cases H
  | succ n ih => intro v0 v1 v2 M H; exact tb_X5_readWord_4 l ih H
def f_X5_readWord (v0 : Nat) (M : XM) : Option (Int32 × XM) :=
  lp_X5_readWord_4 x_fuel v0 (0 : Int32) (0 : Int32) M
set_option maxRecDepth 20000 in
set_option maxHeartbeats 4000000 in
theorem t_X5_readWord (l : Launch) {v0 : Nat} {M : XM} {q : Int32 × XM} (H : f_X5_readWord v0 M = some q) : AW l m_X5_readWord 6 0 0 (x_Ri q) 0 0 0 [some (.ref v0), none, none, none, none] [] M := by
  unfold f_X5_readWord at H
  refine x_iconst 0 (0 : Int32) dX5_readWord_0 (by decide) ?_
  refine x_istore_n 1 1 [some (.ref v0), some (.int (0 : Int32)), none, none, none] dX5_readWord_1 rfl rfl (Nat.le_of_ble_eq_true rfl) rfl ?_
  refine x_iconst 2 (0 : Int32) dX5_readWord_2 (by decide) ?_
  refine x_istore_n 3 2 [some (.ref v0), some (.int (0 : Int32)), some (.int (0 : Int32)), none, none] dX5_readWord_3 rfl rfl (Nat.le_of_ble_eq_true rfl) rfl ?_
  exact t_X5_readWord_4 l _ _ _ _ _ H

theorem ct_X5_readWord (l : Launch) {v0 : Nat} {M : XM} {q : Int32 × XM} (H : f_X5_readWord v0 M = some q) : Ct l m_X5_readWord 6 0 0 [(.ref v0)] M (x_Ri q) := x_met l m_X5_readWord 6 0 0 [(.ref v0)] M (x_Ri q) _ rfl rfl (Nat.le_of_ble_eq_true rfl) (t_X5_readWord l H)
theorem lk_593 : Cond.code yX5_readWord cX5_readWord 5 (some .int) ∈ x_TB := x_tb (k := 593) (by decide +kernel) rfl
theorem lk_590 : Cond.methodLink RX5 49 yX5_readWord ∈ x_TB := x_tb (k := 590) (by decide +kernel) rfl
theorem lk_6 : Cond.selects RX5 yX5_readWord yX5_readWord ∈ x_TB := x_tb (k := 6) (by decide +kernel) rfl
theorem lk_592 : Cond.instanceMethod yX5_readWord ∈ x_TB := x_tb (k := 592) (by decide +kernel) rfl
theorem lk_521 : Cond.code yX4_hasRoomForCounter cX4_hasRoomForCounter 1 (some .boolean) ∈ x_TB := x_tb (k := 521) (by decide +kernel) rfl
theorem lk_663 : Cond.methodLink RX5 70 yX4_hasRoomForCounter ∈ x_TB := x_tb (k := 663) (by decide +kernel) rfl
theorem lk_520 : Cond.selects RX4 yX4_hasRoomForCounter yX4_hasRoomForCounter ∈ x_TB := x_tb (k := 520) (by decide +kernel) rfl
theorem lk_519 : Cond.instanceMethod yX4_hasRoomForCounter ∈ x_TB := x_tb (k := 519) (by decide +kernel) rfl
theorem lk_667 : Cond.code yX4_hasRoomForTally cX4_hasRoomForTally 1 (some .boolean) ∈ x_TB := x_tb (k := 667) (by decide +kernel) rfl
theorem lk_664 : Cond.methodLink RX5 76 yX4_hasRoomForTally ∈ x_TB := x_tb (k := 664) (by decide +kernel) rfl
theorem lk_666 : Cond.selects RX4 yX4_hasRoomForTally yX4_hasRoomForTally ∈ x_TB := x_tb (k := 666) (by decide +kernel) rfl
theorem lk_665 : Cond.instanceMethod yX4_hasRoomForTally ∈ x_TB := x_tb (k := 665) (by decide +kernel) rfl
abbrev m_X5_hasRoomFor : XU := (yX5_hasRoomFor, cX5_hasRoomFor, 2, (some .boolean))
theorem cn_X5_hasRoomFor : m_X5_hasRoomFor.1.cls ≠ "java/lang/invoke/MethodHandle" ∧ m_X5_hasRoomFor.1.cls ≠ "java/lang/invoke/VarHandle" ∧ (parseMethodDescriptor m_X5_hasRoomFor.1.desc).map (fun q => q.parameters.length) = some 1 := by decide +kernel
def f_X5_hasRoomFor (v0 : Nat) (v1 : Int32) (M : XM) : Option (Int32 × XM) :=
  if v1 = (5 : Int32) then (if x_tag M v0 = 5 + 10 then (if x_tag M (x_r M v0 1) = 4 + 10 then (x_bd (f_X4_hasRoomForCounter (x_r M v0 1) M) (fun r5 M4 => if r5 = 0 ∨ r5 = 1 then (some (r5, M4)) else none)) else none) else none) else (if v1 = (4 : Int32) then (if x_tag M v0 = 5 + 10 then (if x_tag M (x_r M v0 1) = 4 + 10 then (x_bd (f_X4_hasRoomForTally (x_r M v0 1) M) (fun r12 M11 => if r12 = 0 then (some ((0 : Int32), M11)) else (some ((1 : Int32), M11)))) else none) else none) else (some ((1 : Int32), M)))
set_option maxRecDepth 20000 in
set_option maxHeartbeats 4000000 in
theorem t_X5_hasRoomFor (l : Launch) {v0 : Nat} {v1 : Int32} {M : XM} {q : Int32 × XM} (H : f_X5_hasRoomFor v0 v1 M = some q) : AW l m_X5_hasRoomFor 2 0 0 (x_Ri q) 0 0 0 [some (.ref v0), some (.int v1)] [] M := by
  unfold f_X5_hasRoomFor at H
  refine x_iload_n 0 1 dX5_hasRoomFor_0 rfl rfl ?_
  refine x_iconst 1 (5 : Int32) dX5_hasRoomFor_1 (by decide) ?_
  refine x_icmp_ne 2 13 dX5_hasRoomFor_2 (by decide) (fun c1 => ?_) (fun c1 => ?_)
  · replace H := x_ifn c1 H
    refine x_iload_n 13 1 dX5_hasRoomFor_13 rfl rfl ?_
    refine x_iconst 14 (4 : Int32) dX5_hasRoomFor_14 (by decide) ?_
    refine x_icmp_ne 15 28 dX5_hasRoomFor_15 (by decide) (fun c8 => ?_) (fun c8 => ?_)
    · replace H := x_ifn c8 H
      refine x_iconst 28 (1 : Int32) dX5_hasRoomFor_28 (by decide) ?_
      refine x_goto 29 33 dX5_hasRoomFor_29 (by decide) ?_
      cases H
      exact x_iret 33 dX5_hasRoomFor_33 .boolean rfl rfl (Nat.le_of_ble_eq_true rfl) (Nat.le_of_ble_eq_true rfl) ⟨rfl, rfl⟩
    · replace H := x_ifp c8 H
      refine x_aload_n 18 0 dX5_hasRoomFor_18 rfl rfl ?_
      obtain ⟨h9, H⟩ := x_ckp H
      refine x_getf 19 19 5 1 (.ref (x_r M v0 1)) dX5_hasRoomFor_19 lk_214 (by decide) (by decide) rfl (fun _ => rfl) h9 ?_
      obtain ⟨h10, H⟩ := x_ckp H
      obtain ⟨r12, M11, e13, H⟩ := x_bd_of H
      refine x_callV 22 76 4 [] [] dX5_hasRoomFor_22 (ct_X4_hasRoomForTally l e13) lk_664 lk_665 lk_666 (by decide) h10 lk_86 lk_667 ⟨cn_X4_hasRoomForTally, (by decide), by decide⟩ rfl (Nat.le_of_ble_eq_true rfl) (Nat.le_of_ble_eq_true rfl) (Nat.le_of_ble_eq_true rfl) (x_ri ?_)
      refine x_if_eq 25 32 dX5_hasRoomFor_25 (by decide) (fun c14 => ?_) (fun c14 => ?_)
      · replace H := x_ifp c14 H
        refine x_iconst 32 (0 : Int32) dX5_hasRoomFor_32 (by decide) ?_
        cases H
        exact x_iret 33 dX5_hasRoomFor_33 .boolean rfl rfl (Nat.le_of_ble_eq_true rfl) (Nat.le_of_ble_eq_true rfl) ⟨rfl, rfl⟩
      · replace H := x_ifn c14 H
        refine x_iconst 28 (1 : Int32) dX5_hasRoomFor_28 (by decide) ?_
        refine x_goto 29 33 dX5_hasRoomFor_29 (by decide) ?_
        cases H
        exact x_iret 33 dX5_hasRoomFor_33 .boolean rfl rfl (Nat.le_of_ble_eq_true rfl) (Nat.le_of_ble_eq_true rfl) ⟨rfl, rfl⟩
  · replace H := x_ifp c1 H
    refine x_aload_n 5 0 dX5_hasRoomFor_5 rfl rfl ?_
    obtain ⟨h2, H⟩ := x_ckp H
    refine x_getf 6 19 5 1 (.ref (x_r M v0 1)) dX5_hasRoomFor_6 lk_214 (by decide) (by decide) rfl (fun _ => rfl) h2 ?_
    obtain ⟨h3, H⟩ := x_ckp H
    obtain ⟨r5, M4, e6, H⟩ := x_bd_of H
    refine x_callV 9 70 4 [] [] dX5_hasRoomFor_9 (ct_X4_hasRoomForCounter l e6) lk_663 lk_519 lk_520 (by decide) h3 lk_86 lk_521 ⟨cn_X4_hasRoomForCounter, (by decide), by decide⟩ rfl (Nat.le_of_ble_eq_true rfl) (Nat.le_of_ble_eq_true rfl) (Nat.le_of_ble_eq_true rfl) (x_ri ?_)
    obtain ⟨h7, H⟩ := x_ckp H
    cases H
    exact x_iret 12 dX5_hasRoomFor_12 .boolean rfl (x_narZ h7) (Nat.le_of_ble_eq_true rfl) (Nat.le_of_ble_eq_true rfl) ⟨rfl, rfl⟩

theorem ct_X5_hasRoomFor (l : Launch) {v0 : Nat} {v1 : Int32} {M : XM} {q : Int32 × XM} (H : f_X5_hasRoomFor v0 v1 M = some q) : Ct l m_X5_hasRoomFor 2 0 0 [(.ref v0), (.int v1)] M (x_Ri q) := x_met l m_X5_hasRoomFor 2 0 0 [(.ref v0), (.int v1)] M (x_Ri q) _ rfl rfl (Nat.le_of_ble_eq_true rfl) (t_X5_hasRoomFor l H)
theorem lk_662 : Cond.code yX5_hasRoomFor cX5_hasRoomFor 2 (some .boolean) ∈ x_TB := x_tb (k := 662) (by decide +kernel) rfl
theorem lk_659 : Cond.methodLink RX5 53 yX5_hasRoomFor ∈ x_TB := x_tb (k := 659) (by decide +kernel) rfl
theorem lk_8 : Cond.selects RX5 yX5_hasRoomFor yX5_hasRoomFor ∈ x_TB := x_tb (k := 8) (by decide +kernel) rfl
theorem lk_661 : Cond.instanceMethod yX5_hasRoomFor ∈ x_TB := x_tb (k := 661) (by decide +kernel) rfl
abbrev m_X5_expect : XU := (yX5_expect, cX5_expect, 2, none)
theorem cn_X5_expect : m_X5_expect.1.cls ≠ "java/lang/invoke/MethodHandle" ∧ m_X5_expect.1.cls ≠ "java/lang/invoke/VarHandle" ∧ (parseMethodDescriptor m_X5_expect.1.desc).map (fun q => q.parameters.length) = some 1 := by decide +kernel
def f_X5_expect_46 (v0 : Nat) (M : XM) : Option XM :=
  if x_tag M v0 = 5 + 10 then (x_lt (x_wi M v0 0 (x_i M v0 4)) (fun M5 => some M5)) else none
set_option maxRecDepth 20000 in
set_option maxHeartbeats 4000000 in
theorem t_X5_expect_46 (l : Launch) {v0 : Nat} {M : XM} {q : XM} (H : f_X5_expect_46 v0 M = some q) : AW l m_X5_expect 1 0 0 (x_Rv q) 0 0 46 [some (.ref v0), none] [] M := by
  unfold f_X5_expect_46 at H
  refine x_aload_n 46 0 dX5_expect_46 rfl rfl ?_
  refine x_aload_n 47 0 dX5_expect_47 rfl rfl ?_
  obtain ⟨h4, H⟩ := x_ckp H
  refine x_getf 48 39 5 4 (.int (x_i M v0 4)) dX5_expect_48 lk_217 (by decide) (by decide) rfl (fun _ => rfl) h4 ?_
  obtain ⟨M5, w6, H⟩ := x_lt_of H
  have h7 : x_tag M5 v0 = 5 + 10 := by rw [w6]; exact h4
  refine x_putI' 51 9 5 0 dX5_expect_51 lk_212 (by decide) (by decide) rfl (Or.inl rfl) (Or.inl rfl) h4 w6 ?_
  cases H
  exact x_vret 54 dX5_expect_54 rfl (Nat.le_of_ble_eq_true rfl) (Nat.le_of_ble_eq_true rfl) ⟨rfl, rfl⟩

def f_X5_expect (v0 : Nat) (v1 : Int32) (M : XM) : Option XM :=
  if x_tag M v0 = 5 + 10 then (if (x_i M v0 0) = (-1 : Int32) then (if (x_i M v0 3) ≤ (x_i M v0 4) then (f_X5_expect_46 v0 M) else (if x_at M (x_r M v0 2) 1 (x_i M v0 4) = true then (if (x_i M (x_r M v0 2) (x_i M v0 4).toNatClampNeg) = v1 then (x_lt (x_wi M v0 4 ((x_i M v0 4) + (1 : Int32))) (fun M10 => some M10)) else (f_X5_expect_46 v0 M)) else none)) else (some M)) else none
set_option maxRecDepth 20000 in
set_option maxHeartbeats 4000000 in
theorem t_X5_expect (l : Launch) {v0 : Nat} {v1 : Int32} {M : XM} {q : XM} (H : f_X5_expect v0 v1 M = some q) : AW l m_X5_expect 1 0 0 (x_Rv q) 0 0 0 [some (.ref v0), some (.int v1)] [] M := by
  unfold f_X5_expect at H
  refine x_aload_n 0 0 dX5_expect_0 rfl rfl ?_
  obtain ⟨h1, H⟩ := x_ckp H
  refine x_getf 1 9 5 0 (.int (x_i M v0 0)) dX5_expect_1 lk_212 (by decide) (by decide) rfl (fun _ => rfl) h1 ?_
  refine x_iconst 4 (-1 : Int32) dX5_expect_4 (by decide) ?_
  refine x_icmp_eq 5 9 dX5_expect_5 (by decide) (fun c2 => ?_) (fun c2 => ?_)
  · replace H := x_ifp c2 H
    refine x_aload_n 9 0 dX5_expect_9 rfl rfl ?_
    refine x_getf 10 39 5 4 (.int (x_i M v0 4)) dX5_expect_10 lk_217 (by decide) (by decide) rfl (fun _ => rfl) h1 ?_
    refine x_aload_n 13 0 dX5_expect_13 rfl rfl ?_
    refine x_getf 14 34 5 3 (.int (x_i M v0 3)) dX5_expect_14 lk_216 (by decide) (by decide) rfl (fun _ => rfl) h1 ?_
    refine x_icmp_ge 17 46 dX5_expect_17 (by decide) (fun c3 => ?_) (fun c3 => ?_)
    · replace H := x_ifp c3 H
      exact x_wk (le_s (le_n le_0)) (t_X5_expect_46 l H)
    · replace H := x_ifn c3 H
      refine x_aload_n 20 0 dX5_expect_20 rfl rfl ?_
      refine x_getf 21 15 5 2 (.ref (x_r M v0 2)) dX5_expect_21 lk_215 (by decide) (by decide) rfl (fun _ => rfl) h1 ?_
      refine x_aload_n 24 0 dX5_expect_24 rfl rfl ?_
      refine x_getf 25 39 5 4 (.int (x_i M v0 4)) dX5_expect_25 lk_217 (by decide) (by decide) rfl (fun _ => rfl) h1 ?_
      obtain ⟨h8, H⟩ := x_ckp H
      refine x_iald 28 dX5_expect_28 h8 ?_
      refine x_iload_n 29 1 dX5_expect_29 rfl rfl ?_
      refine x_icmp_ne 30 46 dX5_expect_30 (by decide) (fun c9 => ?_) (fun c9 => ?_)
      · replace H := x_ifn c9 H
        exact x_wk (le_s (le_n le_0)) (t_X5_expect_46 l H)
      · replace H := x_ifp c9 H
        refine x_aload_n 33 0 dX5_expect_33 rfl rfl ?_
        refine x_dup 34 dX5_expect_34 rfl ?_
        refine x_getf 35 39 5 4 (.int (x_i M v0 4)) dX5_expect_35 lk_217 (by decide) (by decide) rfl (fun _ => rfl) h1 ?_
        refine x_iconst 38 (1 : Int32) dX5_expect_38 (by decide) ?_
        refine x_iadd 39 dX5_expect_39 ?_
        obtain ⟨M10, w11, H⟩ := x_lt_of H
        have h12 : x_tag M10 v0 = 5 + 10 := by rw [w11]; exact h1
        have h13 : x_at M10 (x_r M v0 2) 1 (x_i M v0 4) = true := by rw [w11]; exact h8
        have h14 : x_tag M10 (x_r M v0 2) = 1 := by rw [w11]; exact (x_at_1 h8)
        refine x_putI' 40 39 5 4 dX5_expect_40 lk_217 (by decide) (by decide) rfl (Or.inl rfl) (Or.inl rfl) h1 w11 ?_
        refine x_goto 43 54 dX5_expect_43 (by decide) ?_
        cases H
        exact x_vret 54 dX5_expect_54 rfl (Nat.le_of_ble_eq_true rfl) (Nat.le_of_ble_eq_true rfl) ⟨rfl, rfl⟩
  · replace H := x_ifn c2 H
    cases H
    exact x_vret 8 dX5_expect_8 rfl (Nat.le_of_ble_eq_true rfl) (Nat.le_of_ble_eq_true rfl) ⟨rfl, rfl⟩

theorem ct_X5_expect (l : Launch) {v0 : Nat} {v1 : Int32} {M : XM} {q : XM} (H : f_X5_expect v0 v1 M = some q) : Ct l m_X5_expect 1 0 0 [(.ref v0), (.int v1)] M (x_Rv q) := x_met l m_X5_expect 1 0 0 [(.ref v0), (.int v1)] M (x_Rv q) _ rfl rfl (Nat.le_of_ble_eq_true rfl) (t_X5_expect l H)
theorem lk_671 : Cond.code yX5_expect cX5_expect 2 none ∈ x_TB := x_tb (k := 671) (by decide +kernel) rfl
theorem lk_668 : Cond.methodLink RX5 45 yX5_expect ∈ x_TB := x_tb (k := 668) (by decide +kernel) rfl
theorem lk_9 : Cond.selects RX5 yX5_expect yX5_expect ∈ x_TB := x_tb (k := 9) (by decide +kernel) rfl
theorem lk_670 : Cond.instanceMethod yX5_expect ∈ x_TB := x_tb (k := 670) (by decide +kernel) rfl
abbrev m_X5_readNumber : XU := (yX5_readNumber, cX5_readNumber, 5, (some .int))
theorem cn_X5_readNumber : m_X5_readNumber.1.cls ≠ "java/lang/invoke/MethodHandle" ∧ m_X5_readNumber.1.cls ≠ "java/lang/invoke/VarHandle" ∧ (parseMethodDescriptor m_X5_readNumber.1.desc).map (fun q => q.parameters.length) = some 2 := by decide +kernel
def f_X5_readNumber_120 (v0 : Nat) (v3 : Int32) (v4 : Int32) (M : XM) : Option (Int32 × XM) :=
  if x_tag M v0 = 5 + 10 then (x_lt (x_wi M v0 0 v3) (fun M8 => some (v4, M8))) else none
set_option maxRecDepth 20000 in
set_option maxHeartbeats 4000000 in
theorem t_X5_readNumber_120 (l : Launch) {v0 : Nat} {v3 : Int32} {v4 : Int32} {M : XM} {q : Int32 × XM} (H : f_X5_readNumber_120 v0 v3 v4 M = some q) : AW l m_X5_readNumber 1 0 0 (x_Ri q) 0 0 120 [some (.ref v0), none, none, some (.int v3), some (.int v4)] [] M := by
  unfold f_X5_readNumber_120 at H
  refine x_aload_n 120 0 dX5_readNumber_120 rfl rfl ?_
  refine x_iload_n 121 3 dX5_readNumber_121 rfl rfl ?_
  obtain ⟨h7, H⟩ := x_ckp H
  obtain ⟨M8, w9, H⟩ := x_lt_of H
  have h10 : x_tag M8 v0 = 5 + 10 := by rw [w9]; exact h7
  refine x_putI' 122 9 5 0 dX5_readNumber_122 lk_212 (by decide) (by decide) rfl (Or.inl rfl) (Or.inl rfl) h7 w9 ?_
  refine x_iload 125 4 dX5_readNumber_125 rfl ?_
  cases H
  exact x_iret 127 dX5_readNumber_127 .int rfl rfl (Nat.le_of_ble_eq_true rfl) (Nat.le_of_ble_eq_true rfl) ⟨rfl, rfl⟩

def f_X5_readNumber_100 (v0 : Nat) (v1 : Int32) (v2 : Int32) (v3 : Int32) (v4 : Int32) (M : XM) : Option (Int32 × XM) :=
  if x_tag M v0 = 5 + 10 then (if (x_i M v0 4) = v3 then (f_X5_readNumber_120 v0 v3 v4 M) else (if v4 < v1 then (f_X5_readNumber_120 v0 v3 v4 M) else (if v4 ≤ v2 then (some (v4, M)) else (f_X5_readNumber_120 v0 v3 v4 M)))) else none
set_option maxRecDepth 20000 in
set_option maxHeartbeats 4000000 in
theorem t_X5_readNumber_100 (l : Launch) {v0 : Nat} {v1 : Int32} {v2 : Int32} {v3 : Int32} {v4 : Int32} {M : XM} {q : Int32 × XM} (H : f_X5_readNumber_100 v0 v1 v2 v3 v4 M = some q) : AW l m_X5_readNumber 1 0 0 (x_Ri q) 0 0 100 [some (.ref v0), some (.int v1), some (.int v2), some (.int v3), some (.int v4)] [] M := by
  unfold f_X5_readNumber_100 at H
  refine x_aload_n 100 0 dX5_readNumber_100 rfl rfl ?_
  obtain ⟨h5, H⟩ := x_ckp H
  refine x_getf 101 39 5 4 (.int (x_i M v0 4)) dX5_readNumber_101 lk_217 (by decide) (by decide) rfl (fun _ => rfl) h5 ?_
  refine x_iload_n 104 3 dX5_readNumber_104 rfl rfl ?_
  refine x_icmp_eq 105 120 dX5_readNumber_105 (by decide) (fun c6 => ?_) (fun c6 => ?_)
  · replace H := x_ifp c6 H
    exact x_wk (le_s (le_n (le_n (le_s (le_s le_0))))) (t_X5_readNumber_120 l H)
  · replace H := x_ifn c6 H
    refine x_iload 108 4 dX5_readNumber_108 rfl ?_
    refine x_iload_n 110 1 dX5_readNumber_110 rfl rfl ?_
    refine x_icmp_lt 111 120 dX5_readNumber_111 (by decide) (fun c11 => ?_) (fun c11 => ?_)
    · replace H := x_ifp c11 H
      exact x_wk (le_s (le_n (le_n (le_s (le_s le_0))))) (t_X5_readNumber_120 l H)
    · replace H := x_ifn c11 H
      refine x_iload 114 4 dX5_readNumber_114 rfl ?_
      refine x_iload_n 116 2 dX5_readNumber_116 rfl rfl ?_
      refine x_icmp_le 117 125 dX5_readNumber_117 (by decide) (fun c12 => ?_) (fun c12 => ?_)
      · replace H := x_ifp c12 H
        refine x_iload 125 4 dX5_readNumber_125 rfl ?_
        cases H
        exact x_iret 127 dX5_readNumber_127 .int rfl rfl (Nat.le_of_ble_eq_true rfl) (Nat.le_of_ble_eq_true rfl) ⟨rfl, rfl⟩
      · replace H := x_ifn c12 H
        exact x_wk (le_s (le_n (le_n (le_s (le_s le_0))))) (t_X5_readNumber_120 l H)

def bd_X5_readNumber_18 (κ18 : Nat → Int32 → Int32 → Int32 → Int32 → XM → Option (Int32 × XM)) (v0 : Nat) (v1 : Int32) (v2 : Int32) (v3 : Int32) (v4 : Int32) (M : XM) : Option (Int32 × XM) :=
  if x_tag M v0 = 5 + 10 then (if (x_i M v0 3) ≤ (x_i M v0 4) then (f_X5_readNumber_100 v0 v1 v2 v3 v4 M) else (if (4 : Int32) ≤ ((x_i M v0 4) - v3) then (f_X5_readNumber_100 v0 v1 v2 v3 v4 M) else (if x_at M (x_r M v0 2) 1 (x_i M v0 4) = true then (if (x_i M (x_r M v0 2) (x_i M v0 4).toNatClampNeg) < (48 : Int32) then (f_X5_readNumber_100 v0 v1 v2 v3 v4 M) else (if (57 : Int32) < (x_i M (x_r M v0 2) (x_i M v0 4).toNatClampNeg) then (f_X5_readNumber_100 v0 v1 v2 v3 v4 M) else (x_lt (x_wi M v0 4 ((x_i M v0 4) + (1 : Int32))) (fun M17 => κ18 v0 v1 v2 v3 (((v4 * (10 : Int32)) + (x_i M (x_r M v0 2) (x_i M v0 4).toNatClampNeg)) - (48 : Int32)) M17)))) else none))) else none
set_option maxRecDepth 20000 in
set_option maxHeartbeats 4000000 in
theorem tb_X5_readNumber_18 (l : Launch) {κ18 : Nat → Int32 → Int32 → Int32 → Int32 → XM → Option (Int32 × XM)} {v0 : Nat} {v1 : Int32} {v2 : Int32} {v3 : Int32} {v4 : Int32} {M : XM} {q : Int32 × XM} (hκ18 : ∀ (v0 : Nat) (v1 : Int32) (v2 : Int32) (v3 : Int32) (v4 : Int32) (M : XM), κ18 v0 v1 v2 v3 v4 M = some q → AW l m_X5_readNumber 1 0 0 (x_Ri q) 0 0 18 [some (.ref v0), some (.int v1), some (.int v2), some (.int v3), some (.int v4)] [] M) (H : bd_X5_readNumber_18 κ18 v0 v1 v2 v3 v4 M = some q) : AW l m_X5_readNumber 1 0 0 (x_Ri q) 0 0 18 [some (.ref v0), some (.int v1), some (.int v2), some (.int v3), some (.int v4)] [] M := by
  unfold bd_X5_readNumber_18 at H
  refine x_aload_n 18 0 dX5_readNumber_18 rfl rfl ?_
  obtain ⟨h3, H⟩ := x_ckp H
  refine x_getf 19 39 5 4 (.int (x_i M v0 4)) dX5_readNumber_19 lk_217 (by decide) (by decide) rfl (fun _ => rfl) h3 ?_
  refine x_aload_n 22 0 dX5_readNumber_22 rfl rfl ?_
  refine x_getf 23 34 5 3 (.int (x_i M v0 3)) dX5_readNumber_23 lk_216 (by decide) (by decide) rfl (fun _ => rfl) h3 ?_
  refine x_icmp_ge 26 100 dX5_readNumber_26 (by decide) (fun c4 => ?_) (fun c4 => ?_)
  · replace H := x_ifp c4 H
    exact t_X5_readNumber_100 l H
  · replace H := x_ifn c4 H
    refine x_aload_n 29 0 dX5_readNumber_29 rfl rfl ?_
    refine x_getf 30 39 5 4 (.int (x_i M v0 4)) dX5_readNumber_30 lk_217 (by decide) (by decide) rfl (fun _ => rfl) h3 ?_
    refine x_iload_n 33 3 dX5_readNumber_33 rfl rfl ?_
    refine x_isub 34 dX5_readNumber_34 ?_
    refine x_iconst 35 (4 : Int32) dX5_readNumber_35 (by decide) ?_
    refine x_icmp_ge 36 100 dX5_readNumber_36 (by decide) (fun c13 => ?_) (fun c13 => ?_)
    · replace H := x_ifp c13 H
      exact t_X5_readNumber_100 l H
    · replace H := x_ifn c13 H
      refine x_aload_n 39 0 dX5_readNumber_39 rfl rfl ?_
      refine x_getf 40 15 5 2 (.ref (x_r M v0 2)) dX5_readNumber_40 lk_215 (by decide) (by decide) rfl (fun _ => rfl) h3 ?_
      refine x_aload_n 43 0 dX5_readNumber_43 rfl rfl ?_
      refine x_getf 44 39 5 4 (.int (x_i M v0 4)) dX5_readNumber_44 lk_217 (by decide) (by decide) rfl (fun _ => rfl) h3 ?_
      obtain ⟨h14, H⟩ := x_ckp H
      refine x_iald 47 dX5_readNumber_47 h14 ?_
      refine x_bipush 48 (48 : Int32) dX5_readNumber_48 (by decide) ?_
      refine x_icmp_lt 50 100 dX5_readNumber_50 (by decide) (fun c15 => ?_) (fun c15 => ?_)
      · replace H := x_ifp c15 H
        exact t_X5_readNumber_100 l H
      · replace H := x_ifn c15 H
        refine x_aload_n 53 0 dX5_readNumber_53 rfl rfl ?_
        refine x_getf 54 15 5 2 (.ref (x_r M v0 2)) dX5_readNumber_54 lk_215 (by decide) (by decide) rfl (fun _ => rfl) h3 ?_
        refine x_aload_n 57 0 dX5_readNumber_57 rfl rfl ?_
        refine x_getf 58 39 5 4 (.int (x_i M v0 4)) dX5_readNumber_58 lk_217 (by decide) (by decide) rfl (fun _ => rfl) h3 ?_
        refine x_iald 61 dX5_readNumber_61 h14 ?_
        refine x_bipush 62 (57 : Int32) dX5_readNumber_62 (by decide) ?_
        refine x_icmp_gt 64 100 dX5_readNumber_64 (by decide) (fun c16 => ?_) (fun c16 => ?_)
        · replace H := x_ifp c16 H
          exact t_X5_readNumber_100 l H
        · replace H := x_ifn c16 H
          refine x_iload 67 4 dX5_readNumber_67 rfl ?_
          refine x_bipush 69 (10 : Int32) dX5_readNumber_69 (by decide) ?_
          refine x_imul 71 dX5_readNumber_71 ?_
          refine x_aload_n 72 0 dX5_readNumber_72 rfl rfl ?_
          refine x_getf 73 15 5 2 (.ref (x_r M v0 2)) dX5_readNumber_73 lk_215 (by decide) (by decide) rfl (fun _ => rfl) h3 ?_
          refine x_aload_n 76 0 dX5_readNumber_76 rfl rfl ?_
          refine x_getf 77 39 5 4 (.int (x_i M v0 4)) dX5_readNumber_77 lk_217 (by decide) (by decide) rfl (fun _ => rfl) h3 ?_
          refine x_iald 80 dX5_readNumber_80 h14 ?_
          refine x_iadd 81 dX5_readNumber_81 ?_
          refine x_bipush 82 (48 : Int32) dX5_readNumber_82 (by decide) ?_
          refine x_isub 84 dX5_readNumber_84 ?_
          refine x_istore 85 4 [some (.ref v0), some (.int v1), some (.int v2), some (.int v3), some (.int (((v4 * (10 : Int32)) + (x_i M (x_r M v0 2) (x_i M v0 4).toNatClampNeg)) - (48 : Int32)))] dX5_readNumber_85 rfl (Nat.le_of_ble_eq_true rfl) rfl ?_
          refine x_aload_n 87 0 dX5_readNumber_87 rfl rfl ?_
          refine x_dup 88 dX5_readNumber_88 rfl ?_
          refine x_getf 89 39 5 4 (.int (x_i M v0 4)) dX5_readNumber_89 lk_217 (by decide) (by decide) rfl (fun _ => rfl) h3 ?_
          refine x_iconst 92 (1 : Int32) dX5_readNumber_92 (by decide) ?_
          refine x_iadd 93 dX5_readNumber_93 ?_
          obtain ⟨M17, w18, H⟩ := x_lt_of H
          have h19 : x_tag M17 v0 = 5 + 10 := by rw [w18]; exact h3
          have h20 : x_at M17 (x_r M v0 2) 1 (x_i M v0 4) = true := by rw [w18]; exact h14
          have h21 : x_tag M17 (x_r M v0 2) = 1 := by rw [w18]; exact (x_at_1 h14)
          refine x_putI' 94 39 5 4 dX5_readNumber_94 lk_217 (by decide) (by decide) rfl (Or.inl rfl) (Or.inl rfl) h3 w18 ?_
          refine x_goto 97 18 dX5_readNumber_97 (by decide) ?_
          exact hκ18 _ _ _ _ _ _ H

def lp_X5_readNumber_18 (n : Nat) : Nat → Int32 → Int32 → Int32 → Int32 → XM → Option (Int32 × XM) := x_rec (fun _ _ _ _ _ _ => none) (bd_X5_readNumber_18) n
theorem t_X5_readNumber_18 (l : Launch) {q : Int32 × XM} : ∀ (n : Nat) (v0 : Nat) (v1 : Int32) (v2 : Int32) (v3 : Int32) (v4 : Int32) (M : XM), lp_X5_readNumber_18 n v0 v1 v2 v3 v4 M = some q → AW l m_X5_readNumber 1 0 0 (x_Ri q) 0 0 18 [some (.ref v0), some (.int v1), some (.int v2), some (.int v3), some (.int v4)] [] M := by
  intro n
  induction n with
  | zero => intro v0 v1 v2 v3 v4 M H; cases H
  | succ n ih => intro v0 v1 v2 v3 v4 M H; exact tb_X5_readNumber_18 l ih H
def f_X5_readNumber (v0 : Nat) (v1 : Int32) (v2 : Int32) (M : XM) : Option (Int32 × XM) :=
  if x_tag M v0 = 5 + 10 then (if (x_i M v0 0) = (-1 : Int32) then (lp_X5_readNumber_18 x_fuel v0 v1 v2 (x_i M v0 4) (0 : Int32) M) else (some ((-1 : Int32), M))) else none
set_option maxRecDepth 20000 in
set_option maxHeartbeats 4000000 in
theorem t_X5_readNumber (l : Launch) {v0 : Nat} {v1 : Int32} {v2 : Int32} {M : XM} {q : Int32 × XM} (H : f_X5_readNumber v0 v1 v2 M = some q) : AW l m_X5_readNumber 1 0 0 (x_Ri q) 0 0 0 [some (.ref v0), some (.int v1), some (.int v2), none, none] [] M := by
  unfold f_X5_readNumber at H
  refine x_aload_n 0 0 dX5_readNumber_0 rfl rfl ?_
  obtain ⟨h1, H⟩ := x_ckp H
  refine x_getf 1 9 5 0 (.int (x_i M v0 0)) dX5_readNumber_1 lk_212 (by decide) (by decide) rfl (fun _ => rfl) h1 ?_
  refine x_iconst 4 (-1 : Int32) dX5_readNumber_4 (by decide) ?_
  refine x_icmp_eq 5 10 dX5_readNumber_5 (by decide) (fun c2 => ?_) (fun c2 => ?_)
  · replace H := x_ifp c2 H
    refine x_aload_n 10 0 dX5_readNumber_10 rfl rfl ?_
    refine x_getf 11 39 5 4 (.int (x_i M v0 4)) dX5_readNumber_11 lk_217 (by decide) (by decide) rfl (fun _ => rfl) h1 ?_
    refine x_istore_n 14 3 [some (.ref v0), some (.int v1), some (.int v2), some (.int (x_i M v0 4)), none] dX5_readNumber_14 rfl rfl (Nat.le_of_ble_eq_true rfl) rfl ?_
    refine x_iconst 15 (0 : Int32) dX5_readNumber_15 (by decide) ?_
    refine x_istore 16 4 [some (.ref v0), some (.int v1), some (.int v2), some (.int (x_i M v0 4)), some (.int (0 : Int32))] dX5_readNumber_16 rfl (Nat.le_of_ble_eq_true rfl) rfl ?_
    exact t_X5_readNumber_18 l _ _ _ _ _ _ _ H
  · replace H := x_ifn c2 H
    refine x_iconst 8 (-1 : Int32) dX5_readNumber_8 (by decide) ?_
    cases H
    exact x_iret 9 dX5_readNumber_9 .int rfl rfl (Nat.le_of_ble_eq_true rfl) (Nat.le_of_ble_eq_true rfl) ⟨rfl, rfl⟩

theorem ct_X5_readNumber (l : Launch) {v0 : Nat} {v1 : Int32} {v2 : Int32} {M : XM} {q : Int32 × XM} (H : f_X5_readNumber v0 v1 v2 M = some q) : Ct l m_X5_readNumber 1 0 0 [(.ref v0), (.int v1), (.int v2)] M (x_Ri q) := x_met l m_X5_readNumber 1 0 0 [(.ref v0), (.int v1), (.int v2)] M (x_Ri q) _ rfl rfl (Nat.le_of_ble_eq_true rfl) (t_X5_readNumber l H)
